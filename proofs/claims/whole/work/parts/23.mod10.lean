/-! the reference: draw -/
theorem lkS_o {s x : Nat} (hx : ∀ t, x ≠ ix t 5 ∧ x ≠ ix t 6 ∧ x ≠ ix t 7 ∧ x ≠ ix t 12) (y : Fl × Int64) : (lkS s y).1 x = y.1 x := by
  unfold lkS
  split
  · rfl
  · split
    · rfl
    · split
      · rfl
      · dsimp only
        rw [upF_n _ _ (hx _).1, upF_n _ _ (hx _).2.1]
        split
        · rw [upF_n _ _ (hx _).2.2.1, upF_n _ _ (hx _).2.2.2]
        · rw [upF_n _ _ (hx _).2.2.2]
theorem lacks_o {f : Fl} {x : Nat} (hx : ∀ t, x ≠ ix t 5 ∧ x ≠ ix t 6 ∧ x ≠ ix t 7 ∧ x ≠ ix t 12) (n : Nat) : (lacks f n).1 x = f x :=
  itr_keep (step := lkS) (fun y : Fl × Int64 => y.1 x) (fun _ y => lkS_o hx y) (f, 0) n
def clOK (f : Fl) : Prop := ∀ s, s < 60 → f (ix s 2) = -1 → f (ix s 6) = 0
theorem lkS_cl {s : Nat} (y : Fl × Int64) (h : clOK y.1) : clOK (lkS s y).1 := by
  intro t ht h2
  rw [lkS_u] at h2
  have h6 := h t ht h2
  obtain ⟨k, p⟩ := y
  cases c1 : isPl k s
  · rw [lkS_1 c1]; exact h6
  · cases c2 : isSt k s
    · by_cases c3 : k 1 - k (ix s 13) = 0
      · rw [lkS_3 c1 c2 c3]; exact h6
      · by_cases hts : t = s
        · subst hts
          have hn2 : upF k (ix t 12) 0 (ix t 2) = -1 := (upF_n _ _ (by unfold ix; omega)).trans h2
          rw [lkS_a c1 c2 c3 (lkP_n hn2) (by decide)]
          show upF _ _ _ (ix t 6) = 0
          rw [upF_n _ _ (by unfold ix; omega), upF_s, upF_n _ _ (by unfold ix; omega)]
          show k (ix t 6) + 0 = 0
          rw [show k (ix t 6) = 0 from h6]
          rfl
        · by_cases h0 : 0 < lkPut (upF k (ix s 12) 0) s
          · rw [lkS_b c1 c2 c3 rfl h0 rfl]
            show upF _ _ _ (ix t 6) = 0
            rw [upF_n _ _ (by unfold ix; omega), upF_n _ _ (by unfold ix; omega), upF_n _ _ (by unfold ix; omega), upF_n _ _ (by unfold ix; omega)]
            exact h6
          · rw [lkS_a c1 c2 c3 rfl h0]
            show upF _ _ _ (ix t 6) = 0
            rw [upF_n _ _ (by unfold ix; omega), upF_n _ _ (by unfold ix; omega), upF_n _ _ (by unfold ix; omega)]
            exact h6
    · rw [lkS_2 c1 c2]; exact h6
theorem lacks_cl {f : Fl} (h : clOK f) : ∀ n, clOK (lacks f n).1
  | 0 => h
  | n + 1 => lkS_cl _ (lacks_cl h n)
theorem draws_o {f : Fl} {b x : Nat} {given : Int64} (hx : ∀ t, x ≠ ix t 3 ∧ x ≠ ix t 6 ∧ x ≠ ix t 7 ∧ x ≠ ix t 9 ∧ x ≠ ix t 10) : draws f b given x = f x := by
  unfold draws
  rw [upF_n _ _ (hx _).1, upF_n _ _ (hx _).2.2.2.1, upF_n _ _ (hx _).2.1]
  generalize hgg : (if 0 < dBid f b given then shares f b (dBid f b given) (lN (cnt (isOt f b) 60)) else f) = g
  have h1 : g x = f x := by
    rw [← hgg]
    split
    · exact shares_o (fun s => (hx s).2.2.2.2)
    · rfl
  by_cases hz : 0 < (if g (ix b 6) ≤ given - dBid f b given then g (ix b 6) else given - dBid f b given)
  · rw [if_pos hz, upF_n _ _ (hx _).2.2.1]
    exact h1
  · rw [if_neg hz]
    exact h1
theorem lkS_up {f : Fl} {s x : Nat} {y : Fl × Int64} (hsu : suOK f) (hy : ∀ q, y.1 (ix q 2) = f (ix q 2)) (hs : s < 60) (hx : 1033 ≤ x) : (lkS s y).1 x = y.1 x := by
  obtain ⟨k, p⟩ := y
  have hy : ∀ q, k (ix q 2) = f (ix q 2) := hy
  cases c1 : isPl k s
  · rw [lkS_1 c1]
  · cases c2 : isSt k s
    · by_cases c3 : k 1 - k (ix s 13) = 0
      · rw [lkS_3 c1 c2 c3]
      · by_cases h0 : 0 < lkPut (upF k (ix s 12) 0) s
        · rcases hsu s hs with hm | ⟨q, hq, hqe⟩
          · have hn2 : upF k (ix s 12) 0 (ix s 2) = -1 := (upF_n _ _ (by unfold ix; omega)).trans ((hy s).trans hm)
            rw [lkP_n hn2] at h0
            exact absurd h0 (by decide)
          · have hn2 : upF k (ix s 12) 0 (ix s 2) = lN q := (upF_n _ _ (by unfold ix; omega)).trans ((hy s).trans hqe)
            rw [lkS_b (q := q) c1 c2 c3 rfl h0 (by rw [hn2, lN_nat (by omega)])]
            show upF _ _ _ x = k x
            rw [upF_n _ _ (by unfold ix; omega), upF_n _ _ (by unfold ix; omega), upF_n _ _ (by unfold ix; omega), upF_n _ _ (by unfold ix; omega)]
        · rw [lkS_a c1 c2 c3 rfl h0]
          show upF _ _ _ x = k x
          rw [upF_n _ _ (by unfold ix; omega), upF_n _ _ (by unfold ix; omega), upF_n _ _ (by unfold ix; omega)]
    · rw [lkS_2 c1 c2]
theorem lacks_up {f : Fl} {x : Nat} (hsu : suOK f) (hx : 1033 ≤ x) : ∀ n, n ≤ 60 → (lacks f n).1 x = f x
  | 0, _ => rfl
  | n + 1, hn => (lkS_up hsu (fun q => lacks_u f q n) (by omega) hx).trans (lacks_up hsu hx n (by omega))
/-- the reference's ring as draw() wants it -/
def dwOK (f : Fl) : Prop := kiOK f ∧ toOK f ∧ loOK f ∧ asOK f ∧ suOK f ∧ clOK f ∧ ∃ r p, r ≤ p ∧ p ≤ 60 ∧ f 5 = lN r ∧ f 6 = lN p
theorem dw_move {f g : Fl} (h : dwOK f) (hc : clOK g) (hlow : ∀ x, x < 13 → x ≠ 3 → g x = f x) (hup : ∀ x, 1033 ≤ x → g x = f x) (hsu : ∀ s, g (ix s 2) = f (ix s 2)) : dwOK g := by
  obtain ⟨h1, ⟨t, h2a, h2b, h2c⟩, ⟨u, h3a, h3b, h3c⟩, h4, h5, h6, r, p, h7⟩ := h
  refine ⟨?_, ⟨t, h2a, by rw [hlow 12 (by omega) (by omega)]; exact h2b, fun k hk => by rw [hup _ (by omega)]; exact h2c k hk⟩, ⟨u, h3a, by rw [hlow 10 (by omega) (by omega)]; exact h3b, fun k hk => by rw [hup _ (by omega)]; exact h3c k hk⟩, ?_, fun s hs => by rw [hsu]; exact h5 s hs, hc, r, p, h7.1, h7.2.1, by rw [hlow 5 (by omega) (by omega)]; exact h7.2.2.1, by rw [hlow 6 (by omega) (by omega)]; exact h7.2.2.2⟩
  · unfold kiOK
    rw [hlow 0 (by omega) (by omega)]
    exact h1
  · unfold asOK
    rw [hlow 9 (by omega) (by omega)]
    exact h4
theorem dw_lacks {f : Fl} (h : dwOK f) (v : Int64) : dwOK (upF (lacks f 60).1 3 v) := by
  refine dw_move h ?_ (fun x hx h3 => ?_) (fun x hx => ?_) (fun s => ?_)
  · intro s hs h2
    rw [upF_n _ _ (by unfold ix; omega)] at h2 ⊢
    exact lacks_cl h.2.2.2.2.2.1 60 s hs h2
  · rw [upF_n _ _ h3]
    exact lacks_o (fun t => by unfold ix; omega) 60
  · rw [upF_n _ _ (by omega)]
    exact lacks_up h.2.2.2.2.1 hx 60 (Nat.le_refl 60)
  · rw [upF_n _ _ (by unfold ix; omega)]
    exact lacks_u f s 60

