/-! what always holds of a ring's numbers -/
def b64 (x : Int64) : Prop := x = 0 ∨ x = 1
/-- of one seat's numbers v, in a ring of kind k0, payment f1, state f4, after K calls -/
def OkV (K : Nat) (k0 f1 f4 : Int64) (v : Nat → Int64) : Prop :=
  (∃ n, n ≤ 4 ∧ v 0 = lN n) ∧ (v 2 = -1 ∨ ∃ q, q < 60 ∧ v 2 = lN q) ∧ (b64 (v 3) ∧ b64 (v 4) ∧ b64 (v 12) ∧ b64 (v 16))
  ∧ (∃ d, d ≤ K * 10000000 ∧ v 5 = lN d) ∧ (∃ d, d ≤ K * 10000000 ∧ v 6 = lN d) ∧ (∃ d, d ≤ K * 10000000000 ∧ v 7 = lN d)
  ∧ ((v 14 = 0 ∧ v 13 = 0) ∨ (0 < f4 ∧ 2 ≤ v 0 ∧ v 4 = 0 ∧ ((v 14 = 1 ∧ ¬ v 0 = 3 ∧ v 13 = f1) ∨ (v 0 = 3 ∧ ((v 14 = 1 ∧ v 13 = f1 - f1 / 2) ∨ (v 14 = 2 ∧ v 13 = f1 / 2) ∨ (v 14 = 3 ∧ v 13 = f1))))))
  ∧ (∃ d, d ≤ 600000000 ∧ v 15 = lN d) ∧ (¬ k0 = 2 → v 15 = 0) ∧ (v 3 = 0 → v 9 = 0) ∧ (v 2 = -1 → v 6 = 0) ∧ (v 12 = 1 → 0 < f4 ∧ 2 ≤ v 0)
  ∧ (f4 = 0 → ∀ j, 3 ≤ j → j < 17 → v j = 0)
theorem OkV.cong {K K' : Nat} {k0 f1 f4 : Int64} {v w : Nat → Int64} (hK : K ≤ K') (h : ∀ j, j < 17 → w j = v j) (O : OkV K k0 f1 f4 v) : OkV K' k0 f1 f4 w := by
  unfold OkV at O ⊢
  rw [h 0 (by decide), h 2 (by decide), h 3 (by decide), h 4 (by decide), h 5 (by decide), h 6 (by decide), h 7 (by decide), h 9 (by decide), h 12 (by decide), h 13 (by decide), h 14 (by decide), h 15 (by decide), h 16 (by decide)]
  obtain ⟨a1, a2, a3, ⟨d1, b1, b2⟩, ⟨d2, b3, b4⟩, ⟨d3, b5, b6⟩, a7, a8, a9, a10, a11, a12, a13⟩ := O
  exact ⟨a1, a2, a3, ⟨d1, Nat.le_trans b1 (Nat.mul_le_mul_right _ hK), b2⟩, ⟨d2, Nat.le_trans b3 (Nat.mul_le_mul_right _ hK), b4⟩, ⟨d3, Nat.le_trans b5 (Nat.mul_le_mul_right _ hK), b6⟩, a7, a8, a9, a10, a11, a12, fun z j h1 h2 => by rw [h j h2]; exact a13 z j h1 h2⟩
/-- the told order: seats, no one twice -/
def toD (f : Fl) : Prop := ∃ t, t ≤ 60 ∧ f 12 = lN t ∧ (∀ k, k < t → ∃ q, q < 60 ∧ f (1033 + k) = lN q) ∧ ∀ j k, j < t → k < t → f (1033 + j) = f (1033 + k) → j = k
/-- the ring's own numbers -/
def OkL (K : Nat) (f : Fl) : Prop :=
  (∃ k, k < 4 ∧ f 0 = lN k) ∧ (∃ p, 1 ≤ p ∧ p ≤ 9999999 ∧ f 1 = lN p) ∧ (∃ q, q ≤ 9999999 ∧ f 2 = lN q) ∧ (∃ c, c ≤ (K + 1) * 10000000000 ∧ f 3 = lN c) ∧ (f 4 = 0 ∨ f 4 = 1 ∨ f 4 = 2)
  ∧ (∃ r p, r ≤ p ∧ p ≤ 60 ∧ f 5 = lN r ∧ f 6 = lN p) ∧ (f 4 = 0 → f 5 = 0 ∧ f 7 = -1 ∧ f 8 = 0 ∧ f 9 = -1) ∧ (f 7 = -1 ∨ ∃ n, n ≤ 60 ∧ f 7 = lN n) ∧ (∃ st, st ≤ K ∧ f 8 = lN st) ∧ asOK f ∧ loOK f ∧ toD f
theorem OkL.cong {K K' : Nat} {f g : Fl} (hK : K ≤ K') (h : ∀ k, k < 13 → g k = f k) (h2 : ∀ k, 1033 ≤ k → g k = f k) (O : OkL K f) : OkL K' g := by
  unfold OkL asOK loOK toD at O ⊢
  simp only [h 0 (by decide), h 1 (by decide), h 2 (by decide), h 3 (by decide), h 4 (by decide), h 5 (by decide), h 6 (by decide), h 7 (by decide), h 8 (by decide), h 9 (by decide), h 10 (by decide), h 12 (by decide)]
  obtain ⟨a1, a2, a3, ⟨c, b1, b2⟩, a5, a6, a7, a8, ⟨st, b3, b4⟩, a10, ⟨t, t1, t2, t3⟩, ⟨u, u1, u2, u3, u4⟩⟩ := O
  refine ⟨a1, a2, a3, ⟨c, Nat.le_trans b1 (Nat.mul_le_mul_right _ (Nat.succ_le_succ hK)), b2⟩, a5, a6, a7, a8, ⟨st, Nat.le_trans b3 hK, b4⟩, a10, ⟨t, t1, t2, fun k hk => ?_⟩, ⟨u, u1, u2, fun k hk => ?_, fun j k hj hk e => ?_⟩⟩
  · rw [h2 _ (by omega)]; exact t3 k hk
  · rw [h2 _ (by omega)]; exact u3 k hk
  · rw [h2 _ (by omega), h2 _ (by omega)] at e; exact u4 j k hj hk e
def sv (f : Fl) (s : Nat) : Nat → Int64 := fun j => f (ix s j)
def Ok (K : Nat) (f : Fl) : Prop := OkL K f ∧ (¬ f 4 = 0 → f 6 = lN (cnt (isMem f) 60)) ∧ ∀ s, s < 60 → OkV K (f 0) (f 1) (f 4) (sv f s)
theorem isMem_cong {f g : Fl} {s : Nat} (h : g (ix s 0) = f (ix s 0)) : isMem g s = isMem f s := by unfold isMem; rw [h]
theorem Ok.mono {K K' : Nat} {f : Fl} (hK : K ≤ K') (O : Ok K f) : Ok K' f := ⟨O.1.cong hK (fun _ _ => rfl) (fun _ _ => rfl), O.2.1, fun s hs => (O.2.2 s hs).cong hK (fun _ _ => rfl)⟩
/-- one seat's number changes -/
def upV (v : Nat → Int64) (j : Nat) (x : Int64) : Nat → Int64 := fun k => if k = j then x else v k
theorem sv_s {f : Fl} {s j : Nat} {x : Int64} {q : Nat} (hj : j < 17) (hq : q < 17) : sv (upF f (ix s j) x) s q = upV (sv f s) j x q := by
  unfold sv upV
  by_cases e : q = j
  · rw [if_pos e, e, upF_s]
  · rw [if_neg e, upF_n _ _ (fun z => e (ix_inj hq hj z).2)]
theorem sv_n {f : Fl} {s t j : Nat} {x : Int64} {q : Nat} (hj : j < 17) (hq : q < 17) (h : t ≠ s) : sv (upF f (ix s j) x) t q = sv f t q := by
  unfold sv
  rw [upF_n _ _ (fun z => h (ix_inj hq hj z).1)]
/-- only seat s differs, and it stays a member or none -/
theorem Ok.seat {K K' : Nat} {f g : Fl} {s : Nat} (O : Ok K f) (hK : K ≤ K') (hl : ∀ k, k < 13 → g k = f k) (hh : ∀ k, 1033 ≤ k → g k = f k) (ho : ∀ t, t < 60 → t ≠ s → ∀ j, j < 17 → sv g t j = sv f t j) (hm : f 4 = 0 ∨ isMem g s = isMem f s) (hv : OkV K' (f 0) (f 1) (f 4) (sv g s)) : Ok K' g := by
  refine ⟨O.1.cong hK hl hh, fun h4 => ?_, fun t ht => ?_⟩
  · rw [hl 4 (by decide)] at h4
    rw [hl 6 (by decide), O.2.1 h4]
    congr 1
    refine cnt_cong (fun t ht => ?_)
    by_cases e : t = s
    · subst e
      rcases hm with hm | hm
      · exact absurd hm h4
      · exact hm.symm
    · exact (isMem_cong (ho t ht e 0 (by decide))).symm
  · rw [hl 0 (by decide), hl 1 (by decide), hl 4 (by decide)]
    by_cases e : t = s
    · subst e; exact hv
    · exact (O.2.2 t ht).cong hK (ho t ht e)
/-- the ring's own numbers differ only in what no seat's rule names -/
theorem Ok.low {K K' : Nat} {f g : Fl} (O : Ok K f) (hK : K ≤ K') (hL : OkL K' g) (h0 : g 0 = f 0) (h1 : g 1 = f 1) (h4 : g 4 = f 4) (h6 : g 6 = f 6) (hs : ∀ k, 13 ≤ k → k < 1033 → g k = f k) : Ok K' g := by
  have e : ∀ t, t < 60 → ∀ j, j < 17 → sv g t j = sv f t j := fun t ht j hj => hs _ (by unfold ix; omega) (ix_lt2 ht hj)
  refine ⟨hL, fun z => ?_, fun t ht => ?_⟩
  · rw [h4] at z
    rw [h6, O.2.1 z]
    congr 1
    exact cnt_cong (fun t ht => (isMem_cong (e t ht 0 (by decide))).symm)
  · rw [h0, h1, h4]
    exact (O.2.2 t ht).cong hK (e t ht)
section
variable {h : Hp} {A B s K : Nat} {f : Fl}
theorem Sm.bit4 (S : Sm h A B f) (O : Ok K f) (hs : s < 60) : bit (h.i (B + 2 + s) 4) := by
  have e := S.s hs 4 (by decide)
  rcases (O.2.2 s hs).2.2.1.2.1 with z | z
  · exact Or.inl (t64_e0.mp (e.symm.trans z))
  · exact Or.inr (t64_e1.mp (e.symm.trans z))
theorem Sm.bit3 (S : Sm h A B f) (O : Ok K f) (hs : s < 60) : bit (h.i (B + 2 + s) 3) := by
  have e := S.s hs 3 (by decide)
  rcases (O.2.2 s hs).2.2.1.1 with z | z
  · exact Or.inl (t64_e0.mp (e.symm.trans z))
  · exact Or.inr (t64_e1.mp (e.symm.trans z))
theorem Sm.bit5 (S : Sm h A B f) (O : Ok K f) (hs : s < 60) : bit (h.i (B + 2 + s) 5) := by
  have e := S.s hs 12 (by decide)
  rcases (O.2.2 s hs).2.2.1.2.2.1 with z | z
  · exact Or.inl (t64_e0.mp (e.symm.trans z))
  · exact Or.inr (t64_e1.mp (e.symm.trans z))
theorem Sm.bit17 (S : Sm h A B f) (O : Ok K f) (hs : s < 60) : bit (h.i (B + 2 + s) 17) := by
  have e := S.s hs 16 (by decide)
  rcases (O.2.2 s hs).2.2.1.2.2.2 with z | z
  · exact Or.inl (t64_e0.mp (e.symm.trans z))
  · exact Or.inr (t64_e1.mp (e.symm.trans z))
theorem Sm.plB (S : Sm h A B f) (O : Ok K f) (hs : s < 60) : plB h (B + 2 + s) := ⟨S.bit3 O hs, S.bit4 O hs, S.bit5 O hs, (S.2.2.2.2.2 s hs).1, (S.2.2.2.2.2 s hs).2, S.bit17 O hs⟩
theorem Sm.st (S : Sm h A B f) (O : Ok K f) (hs : s < 60) : decide (h.i (B + 2 + s) 4 = 0) = !isSt f s := by
  unfold isSt
  rw [show f (ix s 4) = (h.i (B + 2 + s) 4).toInt64 from S.s hs 4 (by decide)]
  rcases S.bit4 O hs with z | z <;> rw [z] <;> decide
theorem Sm.dr (S : Sm h A B f) (hs : s < 60) : decide (h.i (B + 2 + s) 3 = 0) = decide (f (ix s 3) = 0) := by
  rw [show f (ix s 3) = (h.i (B + 2 + s) 3).toInt64 from S.s hs 3 (by decide)]
  exact decide_eq_decide.mpr t64_e0.symm
theorem Sm.go (S : Sm h A B f) (O : Ok K f) (hs : s < 60) : pGo h (B + 2 + s) = (isMem f s && !isSt f s) := by unfold pGo; rw [S.mem hs, S.st O hs]
theorem isPl_on (h4 : 0 < f 4) : isPl f s = isMem f s := by unfold isPl; rw [decide_eq_true h4]; rfl
theorem isPl_1 (h4 : f 4 = 1) : isPl f s = isMem f s := isPl_on (by rw [h4]; decide)
theorem Sm.ne (S : Sm h A B f) (O : Ok K f) (hs : s < 60) (h4 : 0 < f 4) : pNe h (B + 2 + s) = isNe f s := by
  unfold pNe isNe
  rw [S.mem hs, S.st O hs, S.dr hs, isPl_on h4]
theorem Sm.ab (S : Sm h A B f) (O : Ok K f) (hs : s < 60) (h4 : 0 < f 4) : pAb h (B + 2 + s) = isAb f s := by
  unfold pAb isAb
  rw [S.ne O hs h4, show f (ix s 5) = h.l (B + 2 + s) 6 from S.s hs 5 (by decide)]
/-- whether the call finds an open ring, a place there, one that has not stopped -/
theorem pl_cases (S : Sm h A (A + 5) f) (O : Ok K f) (s : Int32) :
    (¬ h.i (A + 5) 1 = 1 ∧ ¬ f 4 = 1 ∧ ag f (sN s) = 2) ∨ (h.i (A + 5) 1 = 1 ∧ f 4 = 1 ∧ bPl h (A + 5) s = none ∧ ag f (sN s) = 3) ∨
    ∃ n, n < 60 ∧ s = nI n ∧ sN s = some n ∧ h.i (A + 5) 1 = 1 ∧ f 4 = 1 ∧ bPl h (A + 5) s = some (A + 5 + 2 + n) ∧ isMem f n = true ∧ ((h.i (A + 5 + 2 + n) 4 = 0 ∧ isSt f n = false ∧ ag f (sN s) = 0) ∨ (¬ h.i (A + 5 + 2 + n) 4 = 0 ∧ isSt f n = true ∧ ag f (sN s) = 10)) := by
  have e4 : f 4 = (h.i (A + 5) 1).toInt64 := S.k 4 (by decide)
  have e41 : f 4 = 1 ↔ h.i (A + 5) 1 = 1 := by rw [e4]; exact t64_e1
  by_cases h1 : f 4 = 1
  · have h1' := e41.mp h1
    have hnz : ¬ h.i (A + 5) 1 = 0 := by rw [h1']; decide
    have hag : ∀ so, ag f so = match so with | none => 3 | some s => if isPl f s = false then 3 else if isSt f s then 10 else 0 := fun so => by unfold ag; rw [if_neg (fun z => z h1)]; cases so <;> rfl
    have hbp : bPl h (A + 5) s = bMem h (A + 5) s := by unfold bPl; rw [if_neg hnz]
    right
    rcases sN_cases s with ⟨hso, hsn⟩ | ⟨n, hn, hse, hso⟩
    · left
      exact ⟨h1', h1, by rw [hbp]; unfold bMem; rw [hso], by rw [hag, hso]⟩
    · have hbm : bMem h (A + 5) s = if pMem h (A + 5 + 2 + n) then some (A + 5 + 2 + n) else none := by unfold bMem; rw [hso]
      have hm := S.mem hn
      cases hmm : isMem f n with
      | false =>
        rw [hmm] at hm
        left
        refine ⟨h1', h1, by rw [hbp, hbm, hm]; rfl, ?_⟩
        rw [hag, hso]
        show (if isPl f n = false then (3 : Int32) else _) = 3
        rw [if_pos (by rw [isPl_1 h1]; exact hmm)]
      | true =>
        rw [hmm] at hm
        right
        refine ⟨n, hn, hse, hso, h1', h1, by rw [hbp, hbm, hm]; rfl, hmm, ?_⟩
        have hst := S.st O hn
        have hag2 : ag f (sN s) = if isSt f n then 10 else 0 := by
          rw [hag, hso]
          show (if isPl f n = false then (3 : Int32) else if isSt f n then 10 else 0) = _
          rw [if_neg (by rw [isPl_1 h1, hmm]; decide)]
        cases hs2 : isSt f n with
        | false =>
          left
          rw [hs2] at hst
          exact ⟨of_decide_eq_true hst, rfl, by rw [hag2, hs2]; rfl⟩
        | true =>
          right
          rw [hs2] at hst
          exact ⟨of_decide_eq_false hst, rfl, by rw [hag2, hs2]; rfl⟩
  · left
    exact ⟨fun z => h1 (e41.mpr z), h1, by unfold ag; rw [if_pos h1]⟩
end

