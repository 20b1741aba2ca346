/-! a ring being made: the calls -/
theorem wn_i {x lo hi : Int32} : wn x.toInt64 lo.toInt64 hi.toInt64 = true ↔ ¬ (x < lo ∨ hi < x) := by
  unfold wn
  rw [Bool.and_eq_true, decide_eq_true_eq, decide_eq_true_eq, Int32.toInt64_le, Int32.toInt64_le, ← Int32.not_lt, ← Int32.not_lt]
  constructor
  · intro h z
    exact z.elim h.1 h.2
  · intro h
    exact ⟨fun z => h (Or.inl z), fun z => h (Or.inr z)⟩
theorem wn04 {x : Int32} : wn x.toInt64 0 4 = true ↔ ¬ (x < 0 ∨ 4 < x) := wn_i (lo := 0) (hi := 4)
theorem wn24 {x : Int32} : wn x.toInt64 2 4 = true ↔ ¬ (x < 2 ∨ 4 < x) := wn_i (lo := 2) (hi := 4)
theorem wn01 {x : Int32} : wn x.toInt64 0 1 = true ↔ ¬ (x < 0 ∨ 1 < x) := wn_i (lo := 0) (hi := 1)
theorem wn060 {x : Int32} : wn x.toInt64 0 60 = true ↔ ¬ (x < 0 ∨ 60 < x) := wn_i (lo := 0) (hi := 60)
theorem wn1d {x : Int32} : wn x.toInt64 1 100000000 = true ↔ ¬ (x < 1 ∨ 100000000 < x) := wn_i (lo := 1) (hi := 100000000)
theorem wn03 {x : Int32} : wn x.toInt64 0 3 = true ↔ ¬ (x < 0 ∨ 3 < x) := wn_i (lo := 0) (hi := 3)
theorem wn1p {x : Int32} : wn x.toInt64 1 9999999 = true ↔ ¬ (x < 1 ∨ 9999999 < x) := wn_i (lo := 1) (hi := 9999999)
theorem wn0p {x : Int32} : wn x.toInt64 0 9999999 = true ↔ ¬ (x < 0 ∨ 9999999 < x) := wn_i (lo := 0) (hi := 9999999)
theorem wn0c {x : Int32} : wn x.toInt64 0 2000000000 = true ↔ ¬ (x < 0 ∨ 2000000000 < x) := wn_i (lo := 0) (hi := 2000000000)
theorem nI_rng {x lo hi : Int32} {a b : Nat} (hlo : lo = nI a) (hhi : hi = nI b) (hb : b < 2 ^ 31) (hab : a ≤ b) (h : ¬ (x < lo ∨ hi < x)) : ∃ n, a ≤ n ∧ n ≤ b ∧ x = nI n := by
  have h1 : lo ≤ x := Int32.not_lt.mp (fun z => h (Or.inl z))
  have h2 : x ≤ hi := Int32.not_lt.mp (fun z => h (Or.inr z))
  rw [hlo] at h1
  rw [hhi] at h2
  have a1 := Int32.le_iff_toInt_le.mp h1
  have a2 := Int32.le_iff_toInt_le.mp h2
  rw [nI_toInt (by omega)] at a1 a2
  have z : ¬ x < 0 := fun z => by
    have := Int32.lt_iff_toInt_lt.mp z
    rw [show (0 : Int32).toInt = 0 from rfl] at this
    omega
  obtain ⟨j, hj, rfl⟩ := nI_of z
  rw [nI_toInt hj] at a1 a2
  exact ⟨j, by omega, by omega, rfl⟩
theorem okv0 {K : Nat} {k0 f1 f4 : Int64} {w : Nat → Int64} (h4 : f4 = 0) (h0 : ∃ n, n ≤ 4 ∧ w 0 = lN n) (h2 : w 2 = -1 ∨ ∃ q, q < 60 ∧ w 2 = lN q) (hz : ∀ j, 3 ≤ j → j < 17 → w j = 0) : OkV K k0 f1 f4 w := by
  have z : ∀ j, 3 ≤ j → j < 17 → ∃ d, d ≤ 0 ∧ w j = lN d := fun j a b => ⟨0, Nat.le_refl _, hz j a b⟩
  have up : ∀ {j M}, (∃ d, d ≤ 0 ∧ w j = lN d) → ∃ d, d ≤ M ∧ w j = lN d := fun ⟨d, a, b⟩ => ⟨d, Nat.le_trans a (Nat.zero_le _), b⟩
  refine ⟨h0, h2, ⟨Or.inl (hz 3 (by decide) (by decide)), Or.inl (hz 4 (by decide) (by decide)), Or.inl (hz 12 (by decide) (by decide)), Or.inl (hz 16 (by decide) (by decide))⟩, up (z 5 (by decide) (by decide)), up (z 6 (by decide) (by decide)), up (z 7 (by decide) (by decide)), Or.inl ⟨hz 14 (by decide) (by decide), hz 13 (by decide) (by decide)⟩, up (z 15 (by decide) (by decide)), fun _ => hz 15 (by decide) (by decide), fun _ => hz 9 (by decide) (by decide), fun _ => hz 6 (by decide) (by decide), fun e => ?_, fun _ => hz⟩
  rw [hz 12 (by decide) (by decide)] at e
  exact absurd e (by decide)
/-- the pigeonholes -/
theorem php : ∀ (n t : Nat) (g : Nat → Nat), (∀ k, k < t → g k < n) → (∀ j k, j < t → k < t → g j = g k → j = k) → t ≤ n := by
  intro n
  induction n with
  | zero =>
    intro t g h1 _
    rcases Nat.eq_zero_or_pos t with z | z
    · omega
    · exact absurd (h1 0 z) (Nat.not_lt_zero _)
  | succ n ih =>
    intro t g h1 h2
    by_cases hk : ∃ k0, k0 < t ∧ g k0 = n
    · obtain ⟨k0, hk0, e0⟩ := hk
      have := ih (t - 1) (fun k => if k < k0 then g k else g (k + 1)) (fun k hk => by
        show (if k < k0 then g k else g (k + 1)) < n
        split
        · have a := h1 k (by omega)
          have b : g k ≠ n := fun z => by have := h2 k k0 (by omega) hk0 (z.trans e0.symm); omega
          omega
        · have a := h1 (k + 1) (by omega)
          have b : g (k + 1) ≠ n := fun z => by have := h2 (k + 1) k0 (by omega) hk0 (z.trans e0.symm); omega
          omega) (fun j k hj hk e => by
        by_cases a : j < k0 <;> by_cases b : k < k0 <;> simp only [a, b, if_true, if_false] at e
        · exact h2 _ _ (by omega) (by omega) e
        · have := h2 _ _ (by omega) (by omega) e; omega
        · have := h2 _ _ (by omega) (by omega) e; omega
        · have := h2 _ _ (by omega) (by omega) e; omega)
      omega
    · have := ih t g (fun k hkt => by
        have a := h1 k hkt
        have b : g k ≠ n := fun z => hk ⟨k, hkt, z⟩
        omega) h2
      omega
theorem php2 {t s : Nat} {g : Nat → Nat} (hs : s < 60) (h1 : ∀ k, k < t → g k < 60) (h2 : ∀ j k, j < t → k < t → g j = g k → j = k) (h3 : ∀ k, k < t → g k ≠ s) : t < 60 := by
  have := php 59 t (fun k => if g k < s then g k else g k - 1) (fun k hk => by
    show (if g k < s then g k else g k - 1) < 59
    have a := h1 k hk
    have b := h3 k hk
    split <;> omega) (fun j k hj hk e => by
    have a := h3 j hj
    have b := h3 k hk
    refine h2 j k hj hk ?_
    by_cases c : g j < s <;> by_cases d : g k < s <;> simp only [c, d, if_true, if_false] at e <;> omega)
  omega
section
variable {h : Hp} {A K : Nat} {f : Fl}
theorem so_seat {s w x : Int32} (S : Sm h A (A + 5) f) (O : Ok K f) : (rSeat h A s w x).1 = (fSeat f (sN s) w x).1 ∧ Sm (rSeat h A s w x).2 A (A + 5) (fSeat f (sN s) w x).2 ∧ Ok (K + 1) (fSeat f (sN s) w x).2 := by
  have O1 : Ok (K + 1) f := O.mono (Nat.le_succ _)
  have e4 : f 4 = 0 ↔ h.i (A + 5) 1 = 0 := by rw [show f 4 = (h.i (A + 5) 1).toInt64 from S.k 4 (by decide)]; exact t64_e0
  unfold rSeat fSeat
  by_cases h4 : f 4 = 0
  · rw [if_pos (e4.mp h4), if_neg (nn h4)]
    rcases sN_cases s with ⟨hso, hsn⟩ | ⟨n, hn, hse, hso⟩ <;> rw [hso] <;> dsimp only
    · exact ⟨rfl, S, O1⟩
    · by_cases hw : w < 0 ∨ 4 < w
      · rw [if_neg (fun z => wn04.mp z hw), if_pos hw]
        exact ⟨rfl, S, O1⟩
      · rw [if_pos (wn04.mpr hw), if_neg hw]
        have e : (if w = 1 then x.toInt64 else 0) = (if w = 1 then x else 0).toInt64 := by split <;> rfl
        refine ⟨rfl, by rw [e]; exact (S.i0 hn).i1 hn, ?_⟩
        have C := ((SeatCh.refl (f := f) (n := n)).up (j := 0) (x := w.toInt64) hn (by decide)).up (j := 1) (x := if w = 1 then x.toInt64 else 0) hn (by decide)
        refine O.ch (Nat.le_succ _) C (Or.inl h4) (okv0 h4 ?_ (O.2.2 n hn).2.1 (fun j h1 h2 => ?_))
        · obtain ⟨m, -, hm, e5⟩ := nI_rng (a := 0) (b := 4) rfl rfl (by decide) (by decide) hw
          exact ⟨m, hm, by show w.toInt64 = _; rw [e5]; exact nI_l (by omega)⟩
        · rw [upV_n (by omega), upV_n (by omega)]
          exact (O.2.2 n hn).2.2.2.2.2.2.2.2.2.2.2.2 h4 j h1 h2
  · rw [if_neg (fun z => h4 (e4.mpr z)), if_pos h4]
    exact ⟨rfl, S, O1⟩
theorem so_letter {s : Int32} (S : Sm h A (A + 5) f) : bLet h (A + 5) s = fLetter f (sN s) := by
  unfold bLet fLetter
  rcases sN_cases s with ⟨hso, hsn⟩ | ⟨n, hn, hse, hso⟩ <;> rw [hso] <;> dsimp only
  rw [show f (ix n 1) = (h.i (A + 5 + 2 + n) 1).toInt64 from S.s hn 1 (by decide), Int32.toInt32_toInt64]
theorem so_answers {u s : Int32} (S : Sm h A (A + 5) f) (O : Ok K f) : (rAns h A u s).1 = (fAnswers f (sN u) (sN s) u).1 ∧ Sm (rAns h A u s).2 A (A + 5) (fAnswers f (sN u) (sN s) u).2 ∧ Ok (K + 1) (fAnswers f (sN u) (sN s) u).2 := by
  have O1 : Ok (K + 1) f := O.mono (Nat.le_succ _)
  have e4 : f 4 = 0 ↔ h.i (A + 5) 1 = 0 := by rw [show f 4 = (h.i (A + 5) 1).toInt64 from S.k 4 (by decide)]; exact t64_e0
  unfold rAns fAnswers
  by_cases h4 : f 4 = 0
  · rw [if_pos (e4.mp h4), if_neg (nn h4)]
    rcases sN_cases u with ⟨hso, hsn⟩ | ⟨q, hq, hue, hso⟩ <;> rw [hso] <;> dsimp only
    · exact ⟨rfl, S, O1⟩
    · have e0 : f (ix q 0) = (h.i (A + 5 + 2 + q) 0).toInt64 := S.s hq 0 (by decide)
      by_cases h1 : f (ix q 0) = 0
      · rw [if_pos h1, if_pos (t64_e0.mp (e0.symm.trans h1))]
        exact ⟨rfl, S, O1⟩
      · rw [if_neg h1, if_neg (fun z => h1 (e0.trans (t64_e0.mpr z)))]
        by_cases h2 : f (ix q 0) = 4
        · rw [if_neg (nn h2), if_pos (t64_e4.mp (e0.symm.trans h2))]
          unfold bMem
          rcases sN_cases s with ⟨hs1, -⟩ | ⟨n, hn, hse, hs1⟩ <;> rw [hs1] <;> dsimp only
          · exact ⟨rfl, S, O1⟩
          · have hm := S.mem hn
            cases hmm : isMem f n with
            | false =>
              rw [hmm] at hm
              rw [hm, if_pos rfl]
              exact ⟨rfl, S, O1⟩
            | true =>
              rw [hmm] at hm
              rw [hm, if_pos rfl, if_neg (show ¬ true = false by decide)]
              dsimp only
              have esu : s = u ↔ n = q := by rw [hse, hue]; exact nI_eq (by omega) (by omega)
              by_cases h3 : n = q
              · rw [if_pos h3, if_pos (esu.mpr h3)]
                exact ⟨rfl, S, O1⟩
              · rw [if_neg h3, if_neg (fun z => h3 (esu.mp z))]
                have e2 : f (ix n 2) = u.toInt64 ↔ h.i (A + 5 + 2 + n) 2 = u := by rw [show f (ix n 2) = (h.i (A + 5 + 2 + n) 2).toInt64 from S.s hn 2 (by decide)]; exact t64_inj
                by_cases h5 : f (ix n 2) = u.toInt64
                · rw [if_pos h5, if_pos (e2.mp h5)]
                  exact ⟨rfl, S, O1⟩
                · rw [if_neg h5, if_neg (fun z => h5 (e2.mpr z))]
                  refine ⟨rfl, S.i2 hn, ?_⟩
                  have C := (SeatCh.refl (f := f) (n := n)).up (j := 2) (x := u.toInt64) hn (by decide)
                  refine O.ch (Nat.le_succ _) C (Or.inl h4) (okv0 h4 (O.2.2 n hn).1 (Or.inr ⟨q, hq, ?_⟩) (fun j h1 h2 => ?_))
                  · show u.toInt64 = _
                    rw [hue]
                    exact nI_l (by omega)
                  · rw [upV_n (by omega)]
                    exact (O.2.2 n hn).2.2.2.2.2.2.2.2.2.2.2.2 h4 j h1 h2
        · rw [if_pos h2, if_neg (fun z => h2 (e0.trans (t64_e4.mpr z)))]
          exact ⟨rfl, S, O1⟩
  · rw [if_neg (fun z => h4 (e4.mpr z)), if_pos h4]
    exact ⟨rfl, S, O1⟩
end

