/-! the class's data against the flat numbers -/
theorem t64_inj {x y : Int32} : x.toInt64 = y.toInt64 ↔ x = y := ⟨fun h => by have := congrArg Int64.toInt32 h; rwa [Int32.toInt32_toInt64, Int32.toInt32_toInt64] at this, fun h => by rw [h]⟩
theorem t64_lt {x y : Int32} : x.toInt64 < y.toInt64 ↔ x < y := by rw [← Int64.not_le, ← Int32.not_le, Int32.toInt64_le]
theorem t64_e0 {x : Int32} : x.toInt64 = 0 ↔ x = 0 := t64_inj (y := 0)
theorem t64_e1 {x : Int32} : x.toInt64 = 1 ↔ x = 1 := t64_inj (y := 1)
theorem t64_e2 {x : Int32} : x.toInt64 = 2 ↔ x = 2 := t64_inj (y := 2)
theorem t64_e3 {x : Int32} : x.toInt64 = 3 ↔ x = 3 := t64_inj (y := 3)
theorem t64_e4 {x : Int32} : x.toInt64 = 4 ↔ x = 4 := t64_inj (y := 4)
theorem t64_em {x : Int32} : x.toInt64 = -1 ↔ x = -1 := t64_inj (y := -1)
theorem t64_l2 {x : Int32} : 2 ≤ x.toInt64 ↔ 2 ≤ x := Int32.toInt64_le (a := 2) (b := x)
theorem t64_n {x : Int32} {n : Nat} (hn : n < 2 ^ 31) : x.toInt64 = lN n ↔ x = nI n := by rw [← nI_l hn]; exact t64_inj
def cs (h : Hp) (p : Nat) (j : Nat) : Int64 := match j with
  | 0 => (h.i p 0).toInt64 | 1 => (h.i p 1).toInt64 | 2 => (h.i p 2).toInt64 | 3 => (h.i p 3).toInt64 | 4 => (h.i p 4).toInt64 | 5 => h.l p 6 | 6 => h.l p 7 | 7 => h.l p 8 | 8 => h.l p 9 | 9 => h.l p 10 | 10 => h.l p 11 | 11 => h.l p 12
  | 12 => (h.i p 5).toInt64 | 13 => (h.i p 13).toInt64 | 14 => (h.i p 14).toInt64 + 2 * (h.i p 15).toInt64 | 15 => h.l p 16 | _ => (h.i p 17).toInt64
def cb (h : Hp) (A B : Nat) (k : Nat) : Int64 := match k with
  | 0 => (h.i A 0).toInt64 | 1 => h.l A 1 | 2 => h.l A 2 | 3 => h.l B 8 | 4 => (h.i B 1).toInt64 | 5 => (h.i B 2).toInt64 | 6 => (h.i B 3).toInt64 | 7 => (h.i B 4).toInt64 | 8 => (h.i B 7).toInt64 | 9 => (h.i B 5).toInt64 | 10 => (h.i B 6).toInt64 | 11 => h.l B 9 | _ => (h.i A 4).toInt64
theorem cs_eq {h g : Hp} {p : Nat} (e : Eq1 h g p) (j : Nat) : cs g p j = cs h p j := by
  unfold cs
  split <;> simp only [e.2.2.1, e.2.2.2]
theorem cb_eq {h g : Hp} {A B : Nat} (e : Eq1 h g A) (e2 : Eq1 h g B) (k : Nat) : cb g A B k = cb h A B k := by
  unfold cb
  split <;> simp only [e.2.2.1, e.2.2.2, e2.2.2.1, e2.2.2.2]
/-- what a book of a ring holds is f -/
def Sm (h : Hp) (A B : Nat) (f : Fl) : Prop :=
  (∀ k, k < 13 → f k = cb h A B k) ∧ (∀ s, s < 60 → ∀ j, j < 17 → f (ix s j) = cs h (B + 2 + s) j) ∧ (∀ k, k < (h.i A 4).toNatClampNeg → f (1033 + k) = (h.i (A + 1) k).toInt64) ∧ (∀ k, k < (h.i B 6).toNatClampNeg → f (1093 + k) = (h.i (A + 2) k).toInt64) ∧ (∀ k, k < 4 * (h.i B 2).toNatClampNeg → f (1153 + k) = h.l (A + 3) k) ∧ ∀ s, s < 60 → bit (h.i (B + 2 + s) 14) ∧ bit (h.i (B + 2 + s) 15)
theorem Sm.k {h : Hp} {A B : Nat} {f : Fl} (S : Sm h A B f) (k : Nat) (hk : k < 13) : f k = cb h A B k := S.1 k hk
theorem Sm.s {h : Hp} {A B : Nat} {f : Fl} (S : Sm h A B f) {s : Nat} (hs : s < 60) (j : Nat) (hj : j < 17) : f (ix s j) = cs h (B + 2 + s) j := S.2.1 s hs j hj
theorem c17 {P : Nat → Prop} (h : P 0 ∧ P 1 ∧ P 2 ∧ P 3 ∧ P 4 ∧ P 5 ∧ P 6 ∧ P 7 ∧ P 8 ∧ P 9 ∧ P 10 ∧ P 11 ∧ P 12 ∧ P 13 ∧ P 14 ∧ P 15 ∧ P 16) : ∀ j, j < 17 → P j := by
  intro j hj
  obtain ⟨a0, a1, a2, a3, a4, a5, a6, a7, a8, a9, a10, a11, a12, a13, a14, a15, a16⟩ := h
  rcases (show j = 0 ∨ j = 1 ∨ j = 2 ∨ j = 3 ∨ j = 4 ∨ j = 5 ∨ j = 6 ∨ j = 7 ∨ j = 8 ∨ j = 9 ∨ j = 10 ∨ j = 11 ∨ j = 12 ∨ j = 13 ∨ j = 14 ∨ j = 15 ∨ j = 16 by omega) with rfl | rfl | rfl | rfl | rfl | rfl | rfl | rfl | rfl | rfl | rfl | rfl | rfl | rfl | rfl | rfl | rfl
  all_goals assumption
theorem c13 {P : Nat → Prop} (h : P 0 ∧ P 1 ∧ P 2 ∧ P 3 ∧ P 4 ∧ P 5 ∧ P 6 ∧ P 7 ∧ P 8 ∧ P 9 ∧ P 10 ∧ P 11 ∧ P 12) : ∀ j, j < 13 → P j := by
  intro j hj
  obtain ⟨a0, a1, a2, a3, a4, a5, a6, a7, a8, a9, a10, a11, a12⟩ := h
  rcases (show j = 0 ∨ j = 1 ∨ j = 2 ∨ j = 3 ∨ j = 4 ∨ j = 5 ∨ j = 6 ∨ j = 7 ∨ j = 8 ∨ j = 9 ∨ j = 10 ∨ j = 11 ∨ j = 12 by omega) with rfl | rfl | rfl | rfl | rfl | rfl | rfl | rfl | rfl | rfl | rfl | rfl | rfl
  all_goals assumption
section
variable {h g : Hp} {A s : Nat} {f : Fl}
/-- a place's number changes -/
theorem Sm.seat {j : Nat} {v : Int64} (S : Sm h A (A + 5) f) (hs : s < 60) (hj : j < 17) (hE : ∀ x, x ≠ A + 5 + 2 + s → Eq1 h g x) (hc : ∀ q, q < 17 → cs g (A + 5 + 2 + s) q = if q = j then v else cs h (A + 5 + 2 + s) q) (hb : bit (g.i (A + 5 + 2 + s) 14) ∧ bit (g.i (A + 5 + 2 + s) 15)) : Sm g A (A + 5) (upF f (ix s j) v) := by
  have eA := hE A (by omega)
  have e1 := hE (A + 1) (by omega)
  have e2 := hE (A + 2) (by omega)
  have e3 := hE (A + 3) (by omega)
  have eB := hE (A + 5) (by omega)
  refine ⟨fun k hk => ?_, fun t ht q hq => ?_, fun k hk => ?_, fun k hk => ?_, fun k hk => ?_, fun t ht => ?_⟩
  · rw [upF_n _ _ (ix_low hk).symm, cb_eq eA eB]
    exact S.1 k hk
  · by_cases hts : t = s
    · subst hts
      rw [hc q hq]
      by_cases hqj : q = j
      · rw [if_pos hqj, hqj, upF_s]
      · rw [if_neg hqj, upF_n _ _ (fun z => hqj (ix_inj hq hj z).2)]
        exact S.2.1 t ht q hq
    · rw [upF_n _ _ (fun z => hts (ix_inj hq hj z).1), cs_eq (hE _ (by omega))]
      exact S.2.1 t ht q hq
  · rw [eA.2.2.1] at hk
    rw [upF_n _ _ (by have := ix_lt2 hs hj; omega), e1.2.2.1]
    exact S.2.2.1 k hk
  · rw [eB.2.2.1] at hk
    rw [upF_n _ _ (by have := ix_lt2 hs hj; omega), e2.2.2.1]
    exact S.2.2.2.1 k hk
  · rw [eB.2.2.1] at hk
    rw [upF_n _ _ (by have := ix_lt2 hs hj; omega), e3.2.2.2]
    exact S.2.2.2.2.1 k hk
  · by_cases hts : t = s
    · subst hts
      exact hb
    · have e := hE (A + 5 + 2 + t) (by omega)
      rw [e.2.2.1, e.2.2.1]
      exact S.2.2.2.2.2 t ht
/-- a number of the book changes -/
theorem Sm.book {j : Nat} {v : Int64} (S : Sm h A (A + 5) f) (hj : j < 13) (hE : ∀ x, x ≠ A + 5 → Eq1 h g x) (hc : ∀ q, q < 13 → cb g A (A + 5) q = if q = j then v else cb h A (A + 5) q) (h6 : g.i (A + 5) 6 = h.i (A + 5) 6) (h2 : g.i (A + 5) 2 = h.i (A + 5) 2) : Sm g A (A + 5) (upF f j v) := by
  have eA := hE A (by omega)
  have e1 := hE (A + 1) (by omega)
  have e2 := hE (A + 2) (by omega)
  have e3 := hE (A + 3) (by omega)
  refine ⟨fun k hk => ?_, fun t ht q hq => ?_, fun k hk => ?_, fun k hk => ?_, fun k hk => ?_, fun t ht => ?_⟩
  · rw [hc k hk]
    by_cases hkj : k = j
    · rw [if_pos hkj, hkj, upF_s]
    · rw [if_neg hkj, upF_n _ _ hkj]
      exact S.1 k hk
  · rw [upF_n _ _ (ix_low hj), cs_eq (hE _ (by omega))]
    exact S.2.1 t ht q hq
  · rw [eA.2.2.1] at hk
    rw [upF_n _ _ (by omega), e1.2.2.1]
    exact S.2.2.1 k hk
  · rw [h6] at hk
    rw [upF_n _ _ (by omega), e2.2.2.1]
    exact S.2.2.2.1 k hk
  · rw [h2] at hk
    rw [upF_n _ _ (by omega), e3.2.2.2]
    exact S.2.2.2.2.1 k hk
  · have e := hE (A + 5 + 2 + t) (by omega)
    rw [e.2.2.1, e.2.2.1]
    exact S.2.2.2.2.2 t ht
theorem Sm.i0 {v : Int32} (S : Sm h A (A + 5) f) (hs : s < 60) : Sm (h.setI (A + 5 + 2 + s) 0 v) A (A + 5) (upF f (ix s 0) v.toInt64) := S.seat hs (by decide) (fun x hx => Eq1.setI hx) (c17 (by simp [cs, Hp.setI, Hp.i, Hp.l, up2])) ⟨by rw [show (h.setI (A + 5 + 2 + s) 0 v).i (A + 5 + 2 + s) 14 = h.i (A + 5 + 2 + s) 14 from up2_k _ _ (by decide)]; exact (S.2.2.2.2.2 s hs).1, by rw [show (h.setI (A + 5 + 2 + s) 0 v).i (A + 5 + 2 + s) 15 = h.i (A + 5 + 2 + s) 15 from up2_k _ _ (by decide)]; exact (S.2.2.2.2.2 s hs).2⟩
theorem Sm.i1 {v : Int32} (S : Sm h A (A + 5) f) (hs : s < 60) : Sm (h.setI (A + 5 + 2 + s) 1 v) A (A + 5) (upF f (ix s 1) v.toInt64) := S.seat hs (by decide) (fun x hx => Eq1.setI hx) (c17 (by simp [cs, Hp.setI, Hp.i, Hp.l, up2])) ⟨by rw [show (h.setI (A + 5 + 2 + s) 1 v).i (A + 5 + 2 + s) 14 = h.i (A + 5 + 2 + s) 14 from up2_k _ _ (by decide)]; exact (S.2.2.2.2.2 s hs).1, by rw [show (h.setI (A + 5 + 2 + s) 1 v).i (A + 5 + 2 + s) 15 = h.i (A + 5 + 2 + s) 15 from up2_k _ _ (by decide)]; exact (S.2.2.2.2.2 s hs).2⟩
theorem Sm.i2 {v : Int32} (S : Sm h A (A + 5) f) (hs : s < 60) : Sm (h.setI (A + 5 + 2 + s) 2 v) A (A + 5) (upF f (ix s 2) v.toInt64) := S.seat hs (by decide) (fun x hx => Eq1.setI hx) (c17 (by simp [cs, Hp.setI, Hp.i, Hp.l, up2])) ⟨by rw [show (h.setI (A + 5 + 2 + s) 2 v).i (A + 5 + 2 + s) 14 = h.i (A + 5 + 2 + s) 14 from up2_k _ _ (by decide)]; exact (S.2.2.2.2.2 s hs).1, by rw [show (h.setI (A + 5 + 2 + s) 2 v).i (A + 5 + 2 + s) 15 = h.i (A + 5 + 2 + s) 15 from up2_k _ _ (by decide)]; exact (S.2.2.2.2.2 s hs).2⟩
theorem Sm.i3 {v : Int32} (S : Sm h A (A + 5) f) (hs : s < 60) : Sm (h.setI (A + 5 + 2 + s) 3 v) A (A + 5) (upF f (ix s 3) v.toInt64) := S.seat hs (by decide) (fun x hx => Eq1.setI hx) (c17 (by simp [cs, Hp.setI, Hp.i, Hp.l, up2])) ⟨by rw [show (h.setI (A + 5 + 2 + s) 3 v).i (A + 5 + 2 + s) 14 = h.i (A + 5 + 2 + s) 14 from up2_k _ _ (by decide)]; exact (S.2.2.2.2.2 s hs).1, by rw [show (h.setI (A + 5 + 2 + s) 3 v).i (A + 5 + 2 + s) 15 = h.i (A + 5 + 2 + s) 15 from up2_k _ _ (by decide)]; exact (S.2.2.2.2.2 s hs).2⟩
theorem Sm.i4 {v : Int32} (S : Sm h A (A + 5) f) (hs : s < 60) : Sm (h.setI (A + 5 + 2 + s) 4 v) A (A + 5) (upF f (ix s 4) v.toInt64) := S.seat hs (by decide) (fun x hx => Eq1.setI hx) (c17 (by simp [cs, Hp.setI, Hp.i, Hp.l, up2])) ⟨by rw [show (h.setI (A + 5 + 2 + s) 4 v).i (A + 5 + 2 + s) 14 = h.i (A + 5 + 2 + s) 14 from up2_k _ _ (by decide)]; exact (S.2.2.2.2.2 s hs).1, by rw [show (h.setI (A + 5 + 2 + s) 4 v).i (A + 5 + 2 + s) 15 = h.i (A + 5 + 2 + s) 15 from up2_k _ _ (by decide)]; exact (S.2.2.2.2.2 s hs).2⟩
theorem Sm.i5 {v : Int32} (S : Sm h A (A + 5) f) (hs : s < 60) : Sm (h.setI (A + 5 + 2 + s) 5 v) A (A + 5) (upF f (ix s 12) v.toInt64) := S.seat hs (by decide) (fun x hx => Eq1.setI hx) (c17 (by simp [cs, Hp.setI, Hp.i, Hp.l, up2])) ⟨by rw [show (h.setI (A + 5 + 2 + s) 5 v).i (A + 5 + 2 + s) 14 = h.i (A + 5 + 2 + s) 14 from up2_k _ _ (by decide)]; exact (S.2.2.2.2.2 s hs).1, by rw [show (h.setI (A + 5 + 2 + s) 5 v).i (A + 5 + 2 + s) 15 = h.i (A + 5 + 2 + s) 15 from up2_k _ _ (by decide)]; exact (S.2.2.2.2.2 s hs).2⟩
theorem Sm.i13 {v : Int32} (S : Sm h A (A + 5) f) (hs : s < 60) : Sm (h.setI (A + 5 + 2 + s) 13 v) A (A + 5) (upF f (ix s 13) v.toInt64) := S.seat hs (by decide) (fun x hx => Eq1.setI hx) (c17 (by simp [cs, Hp.setI, Hp.i, Hp.l, up2])) ⟨by rw [show (h.setI (A + 5 + 2 + s) 13 v).i (A + 5 + 2 + s) 14 = h.i (A + 5 + 2 + s) 14 from up2_k _ _ (by decide)]; exact (S.2.2.2.2.2 s hs).1, by rw [show (h.setI (A + 5 + 2 + s) 13 v).i (A + 5 + 2 + s) 15 = h.i (A + 5 + 2 + s) 15 from up2_k _ _ (by decide)]; exact (S.2.2.2.2.2 s hs).2⟩
theorem Sm.i17 {v : Int32} (S : Sm h A (A + 5) f) (hs : s < 60) : Sm (h.setI (A + 5 + 2 + s) 17 v) A (A + 5) (upF f (ix s 16) v.toInt64) := S.seat hs (by decide) (fun x hx => Eq1.setI hx) (c17 (by simp [cs, Hp.setI, Hp.i, Hp.l, up2])) ⟨by rw [show (h.setI (A + 5 + 2 + s) 17 v).i (A + 5 + 2 + s) 14 = h.i (A + 5 + 2 + s) 14 from up2_k _ _ (by decide)]; exact (S.2.2.2.2.2 s hs).1, by rw [show (h.setI (A + 5 + 2 + s) 17 v).i (A + 5 + 2 + s) 15 = h.i (A + 5 + 2 + s) 15 from up2_k _ _ (by decide)]; exact (S.2.2.2.2.2 s hs).2⟩
theorem Sm.l6 {v : Int64} (S : Sm h A (A + 5) f) (hs : s < 60) : Sm (h.setL (A + 5 + 2 + s) 6 v) A (A + 5) (upF f (ix s 5) v) := S.seat hs (by decide) (fun x hx => Eq1.setL hx) (c17 (by simp [cs, Hp.setL, Hp.i, Hp.l, up2])) (S.2.2.2.2.2 s hs)
theorem Sm.l7 {v : Int64} (S : Sm h A (A + 5) f) (hs : s < 60) : Sm (h.setL (A + 5 + 2 + s) 7 v) A (A + 5) (upF f (ix s 6) v) := S.seat hs (by decide) (fun x hx => Eq1.setL hx) (c17 (by simp [cs, Hp.setL, Hp.i, Hp.l, up2])) (S.2.2.2.2.2 s hs)
theorem Sm.l8 {v : Int64} (S : Sm h A (A + 5) f) (hs : s < 60) : Sm (h.setL (A + 5 + 2 + s) 8 v) A (A + 5) (upF f (ix s 7) v) := S.seat hs (by decide) (fun x hx => Eq1.setL hx) (c17 (by simp [cs, Hp.setL, Hp.i, Hp.l, up2])) (S.2.2.2.2.2 s hs)
theorem Sm.l9 {v : Int64} (S : Sm h A (A + 5) f) (hs : s < 60) : Sm (h.setL (A + 5 + 2 + s) 9 v) A (A + 5) (upF f (ix s 8) v) := S.seat hs (by decide) (fun x hx => Eq1.setL hx) (c17 (by simp [cs, Hp.setL, Hp.i, Hp.l, up2])) (S.2.2.2.2.2 s hs)
theorem Sm.l10 {v : Int64} (S : Sm h A (A + 5) f) (hs : s < 60) : Sm (h.setL (A + 5 + 2 + s) 10 v) A (A + 5) (upF f (ix s 9) v) := S.seat hs (by decide) (fun x hx => Eq1.setL hx) (c17 (by simp [cs, Hp.setL, Hp.i, Hp.l, up2])) (S.2.2.2.2.2 s hs)
theorem Sm.l11 {v : Int64} (S : Sm h A (A + 5) f) (hs : s < 60) : Sm (h.setL (A + 5 + 2 + s) 11 v) A (A + 5) (upF f (ix s 10) v) := S.seat hs (by decide) (fun x hx => Eq1.setL hx) (c17 (by simp [cs, Hp.setL, Hp.i, Hp.l, up2])) (S.2.2.2.2.2 s hs)
theorem Sm.l12 {v : Int64} (S : Sm h A (A + 5) f) (hs : s < 60) : Sm (h.setL (A + 5 + 2 + s) 12 v) A (A + 5) (upF f (ix s 11) v) := S.seat hs (by decide) (fun x hx => Eq1.setL hx) (c17 (by simp [cs, Hp.setL, Hp.i, Hp.l, up2])) (S.2.2.2.2.2 s hs)
theorem Sm.l16 {v : Int64} (S : Sm h A (A + 5) f) (hs : s < 60) : Sm (h.setL (A + 5 + 2 + s) 16 v) A (A + 5) (upF f (ix s 15) v) := S.seat hs (by decide) (fun x hx => Eq1.setL hx) (c17 (by simp [cs, Hp.setL, Hp.i, Hp.l, up2])) (S.2.2.2.2.2 s hs)
theorem Sm.b1 {v : Int32} (S : Sm h A (A + 5) f) : Sm (h.setI (A + 5) 1 v) A (A + 5) (upF f 4 v.toInt64) := S.book (by decide) (fun x hx => Eq1.setI hx) (c13 (by simp [cb, Hp.setI, Hp.i, Hp.l, up2])) (up2_k _ _ (by decide)) (up2_k _ _ (by decide))
theorem Sm.b3 {v : Int32} (S : Sm h A (A + 5) f) : Sm (h.setI (A + 5) 3 v) A (A + 5) (upF f 6 v.toInt64) := S.book (by decide) (fun x hx => Eq1.setI hx) (c13 (by simp [cb, Hp.setI, Hp.i, Hp.l, up2])) (up2_k _ _ (by decide)) (up2_k _ _ (by decide))
theorem Sm.b4 {v : Int32} (S : Sm h A (A + 5) f) : Sm (h.setI (A + 5) 4 v) A (A + 5) (upF f 7 v.toInt64) := S.book (by decide) (fun x hx => Eq1.setI hx) (c13 (by simp [cb, Hp.setI, Hp.i, Hp.l, up2])) (up2_k _ _ (by decide)) (up2_k _ _ (by decide))
theorem Sm.b7 {v : Int32} (S : Sm h A (A + 5) f) : Sm (h.setI (A + 5) 7 v) A (A + 5) (upF f 8 v.toInt64) := S.book (by decide) (fun x hx => Eq1.setI hx) (c13 (by simp [cb, Hp.setI, Hp.i, Hp.l, up2])) (up2_k _ _ (by decide)) (up2_k _ _ (by decide))
theorem Sm.b5 {v : Int32} (S : Sm h A (A + 5) f) : Sm (h.setI (A + 5) 5 v) A (A + 5) (upF f 9 v.toInt64) := S.book (by decide) (fun x hx => Eq1.setI hx) (c13 (by simp [cb, Hp.setI, Hp.i, Hp.l, up2])) (up2_k _ _ (by decide)) (up2_k _ _ (by decide))
theorem Sm.bl8 {v : Int64} (S : Sm h A (A + 5) f) : Sm (h.setL (A + 5) 8 v) A (A + 5) (upF f 3 v) := S.book (by decide) (fun x hx => Eq1.setL hx) (c13 (by simp [cb, Hp.setL, Hp.i, Hp.l, up2])) rfl rfl
theorem Sm.bl9 {v : Int64} (S : Sm h A (A + 5) f) : Sm (h.setL (A + 5) 9 v) A (A + 5) (upF f 11 v) := S.book (by decide) (fun x hx => Eq1.setL hx) (c13 (by simp [cb, Hp.setL, Hp.i, Hp.l, up2])) rfl rfl
/-- the halves of a pair -/
theorem Sm.h14 {v : Int32} (S : Sm h A (A + 5) f) (hs : s < 60) (hv : bit v) : Sm (h.setI (A + 5 + 2 + s) 14 v) A (A + 5) (upF f (ix s 14) (v.toInt64 + 2 * (h.i (A + 5 + 2 + s) 15).toInt64)) := S.seat hs (by decide) (fun x hx => Eq1.setI hx) (c17 (by simp [cs, Hp.setI, Hp.i, Hp.l, up2])) ⟨by rw [show (h.setI (A + 5 + 2 + s) 14 v).i (A + 5 + 2 + s) 14 = v from up2_s _ _ _ _]; exact hv, by rw [show (h.setI (A + 5 + 2 + s) 14 v).i (A + 5 + 2 + s) 15 = h.i (A + 5 + 2 + s) 15 from up2_k _ _ (by decide)]; exact (S.2.2.2.2.2 s hs).2⟩
theorem Sm.h15 {v : Int32} (S : Sm h A (A + 5) f) (hs : s < 60) (hv : bit v) : Sm (h.setI (A + 5 + 2 + s) 15 v) A (A + 5) (upF f (ix s 14) ((h.i (A + 5 + 2 + s) 14).toInt64 + 2 * v.toInt64)) := S.seat hs (by decide) (fun x hx => Eq1.setI hx) (c17 (by simp [cs, Hp.setI, Hp.i, Hp.l, up2])) ⟨by rw [show (h.setI (A + 5 + 2 + s) 15 v).i (A + 5 + 2 + s) 14 = h.i (A + 5 + 2 + s) 14 from up2_k _ _ (by decide)]; exact (S.2.2.2.2.2 s hs).1, by rw [show (h.setI (A + 5 + 2 + s) 15 v).i (A + 5 + 2 + s) 15 = v from up2_s _ _ _ _]; exact hv⟩
end
theorem upF_upF (f : Fl) (k : Nat) (v w : Int64) : upF (upF f k v) k w = upF f k w := by
  funext x
  unfold upF
  split <;> rfl
theorem upF_comm (f : Fl) {k j : Nat} (v w : Int64) (h : k ≠ j) : upF (upF f k v) j w = upF (upF f j w) k v := by
  funext x
  unfold upF
  by_cases h1 : x = j
  · subst h1
    rw [if_pos rfl, if_neg (Ne.symm h), if_pos rfl]
  · rw [if_neg h1, if_neg h1]
theorem upF_same (f : Fl) {k : Nat} {v : Int64} (h : f k = v) : upF f k v = f := by
  funext x
  unfold upF
  split
  · rename_i e; rw [e, h]
  · rfl
theorem itr_sim {σ τ : Type} {p : Nat → σ → σ} {q : Nat → τ → τ} {R : Nat → σ → τ → Prop} {x : σ} {y : τ} : ∀ N, R 0 x y → (∀ n, n < N → ∀ a b, R n a b → R (n + 1) (p n a) (q n b)) → R N (itr p N x) (itr q N y) := by
  intro N
  induction N with
  | zero => intro h _; exact h
  | succ N ih => intro h hs; exact hs N (by omega) _ _ (ih h (fun n hn => hs n (by omega)))
section
variable {h : Hp} {A B s : Nat} {f : Fl}
theorem Sm.mem (S : Sm h A B f) (hs : s < 60) : pMem h (B + 2 + s) = isMem f s := by
  unfold pMem isMem
  rw [S.s hs 0 (by decide)]
  exact decide_eq_decide.mpr t64_l2.symm
end

