/-! a book copied holds the same; the order and the lots; -/
section
variable {h g : Hp} {A B b P p K : Nat} {f : Fl}
theorem cpI_P {k j : Nat} : (cpI P p k h).i P j = if j = k then h.i p k else h.i P j := by
  by_cases e : j = k
  · rw [if_pos e, e]; exact up2_s _ _ _ _
  · rw [if_neg e]; exact up2_k _ _ e
theorem cpL_P {k j : Nat} : (cpL P p k h).l P j = if j = k then h.l p k else h.l P j := by
  by_cases e : j = k
  · rw [if_pos e, e]; exact up2_s _ _ _ _
  · rw [if_neg e]; exact up2_k _ _ e
theorem cpI_l {k q j : Nat} : (cpI P p k h).l q j = h.l q j := rfl
theorem cpL_p {k j : Nat} (hne : p ≠ P) : (cpL P p k h).l p j = h.l p j := up2_a _ _ hne
theorem cpP_cs (hne : p ≠ P) : (∀ j, j < 17 → cs (cpP P p h) P j = cs h p j) ∧ (cpP P p h).i P 14 = h.i p 14 ∧ (cpP P p h).i P 15 = h.i p 15 := by
  refine ⟨c17 ?_, ?_, ?_⟩
  · simp only [cs, cpP, cpC, cpB, cpA, cpI_P, cpL_P, cpI_l, cpL_i, cpI_i hne, cpL_p hne]
    simp
  · simp only [cpP, cpC, cpB, cpA, cpI_P, cpL_P, cpI_l, cpL_i, cpI_i hne, cpL_p hne]
    simp
  · simp only [cpP, cpC, cpB, cpA, cpI_P, cpL_P, cpI_l, cpL_i, cpI_i hne, cpL_p hne]
    simp
theorem cpR_cs (hd : B + 62 ≤ b ∨ b + 62 ≤ B) : ∀ N, N ≤ 60 → (∀ s, s < N → (∀ j, j < 17 → cs (itr (cpR B b) N h) (B + 2 + s) j = cs h (b + 2 + s) j) ∧ (itr (cpR B b) N h).i (B + 2 + s) 14 = h.i (b + 2 + s) 14 ∧ (itr (cpR B b) N h).i (B + 2 + s) 15 = h.i (b + 2 + s) 15) ∧ ∀ x, (∀ s, s < N → x ≠ B + 2 + s) → Eq1 h (itr (cpR B b) N h) x := by
  intro N
  induction N with
  | zero => intro _; exact ⟨fun s hs => absurd hs (Nat.not_lt_zero _), fun _ _ => Eq1.refl⟩
  | succ N ih =>
    intro hN
    obtain ⟨i1, i2⟩ := ih (by omega)
    rw [itr_succ]
    generalize itr (cpR B b) N h = y at i1 i2 ⊢
    unfold cpR
    obtain ⟨c1, c2, c3⟩ := cpP_cs (h := y) (P := B + 2 + N) (p := b + 2 + N) (by omega)
    have eb := i2 (b + 2 + N) (fun s hs => by omega)
    refine ⟨fun s hs => ?_, fun x hx => (i2 x (fun s hs => hx s (by omega))).trans (cpP_eq (hx N (by omega)))⟩
    by_cases e : s = N
    · subst e
      exact ⟨fun j hj => (c1 j hj).trans (cs_eq eb j), c2.trans (eb.2.2.1 14), c3.trans (eb.2.2.1 15)⟩
    · have eq := cpP_eq (h := y) (P := B + 2 + N) (p := b + 2 + N) (x := B + 2 + s) (by omega)
      obtain ⟨d1, d2, d3⟩ := i1 s (by omega)
      exact ⟨fun j hj => (cs_eq eq j).trans (d1 j hj), (eq.2.2.1 14).trans d2, (eq.2.2.1 15).trans d3⟩
theorem cpH_val (hne : b ≠ B) : (∀ k, 1 ≤ k → k ≤ 7 → (cpH B b h).i B k = h.i b k) ∧ (cpH B b h).l B 8 = h.l b 8 ∧ (cpH B b h).l B 9 = h.l b 9 := by
  refine ⟨fun k h1 h7 => ?_, ?_, ?_⟩
  · rcases (show k = 1 ∨ k = 2 ∨ k = 3 ∨ k = 4 ∨ k = 5 ∨ k = 6 ∨ k = 7 by omega) with rfl | rfl | rfl | rfl | rfl | rfl | rfl
    all_goals (simp only [cpH, cpI_P, cpL_P, cpI_l, cpL_i, cpI_i hne, cpL_p hne]; simp)
  · simp only [cpH, cpI_P, cpL_P, cpI_l, cpL_i, cpI_i hne, cpL_p hne]; simp
  · simp only [cpH, cpI_P, cpL_P, cpI_l, cpL_i, cpI_i hne, cpL_p hne]; simp
/-- the copy of a book holds what the book holds -/
theorem Sm.copy (S : Sm h A b f) (hd : B + 62 ≤ b ∨ b + 62 ≤ B) (hA : ∀ i, i < 4 → A + i < B ∨ B + 62 ≤ A + i) : Sm (cpBk B b h) A B f := by
  obtain ⟨r1, r2⟩ := cpR_cs (h := h) hd 60 (Nat.le_refl _)
  have eA : ∀ i, i < 4 → Eq1 h (cpBk B b h) (A + i) := fun i hi => cpBk_eq (hA i hi)
  unfold cpBk at eA ⊢
  have eb := r2 b (fun s hs => by omega)
  generalize itr (cpR B b) 60 h = y at r1 r2 eb eA ⊢
  obtain ⟨v1, v2, v3⟩ := cpH_val (h := y) (B := B) (b := b) (by omega)
  have eP : ∀ s, s < 60 → Eq1 y (cpH B b y) (B + 2 + s) := fun s hs => cpH_eq (by omega)
  have ei : ∀ k, 1 ≤ k → k ≤ 7 → (cpH B b y).i B k = h.i b k := fun k h1 h2 => (v1 k h1 h2).trans (eb.2.2.1 k)
  have eA0 : Eq1 h (cpH B b y) A := eA 0 (by decide)
  have hcb : ∀ k, k < 13 → cb (cpH B b y) A B k = cb h A b k := by
    refine c13 ?_
    simp only [cb, ei 1 (by decide) (by decide), ei 2 (by decide) (by decide), ei 3 (by decide) (by decide), ei 4 (by decide) (by decide), ei 5 (by decide) (by decide), ei 6 (by decide) (by decide), ei 7 (by decide) (by decide), v2, v3, eb.2.2.2, eA0.2.2.1, eA0.2.2.2, and_self]
  refine ⟨fun k hk => ?_, fun t ht q hq => ?_, fun k hk => ?_, fun k hk => ?_, fun k hk => ?_, fun t ht => ?_⟩
  · rw [hcb k hk]; exact S.1 k hk
  · rw [cs_eq (eP t ht), (r1 t ht).1 q hq]; exact S.2.1 t ht q hq
  · rw [eA0.2.2.1] at hk; rw [(eA 1 (by decide)).2.2.1]; exact S.2.2.1 k hk
  · rw [ei 6 (by decide) (by decide)] at hk; rw [(eA 2 (by decide)).2.2.1]; exact S.2.2.2.1 k hk
  · rw [ei 2 (by decide) (by decide)] at hk; rw [(eA 3 (by decide)).2.2.2]; exact S.2.2.2.2.1 k hk
  · rw [(eP t ht).2.2.1, (eP t ht).2.2.1, (r1 t ht).2.1, (r1 t ht).2.2]; exact S.2.2.2.2.2 t ht
/-- lots and rounds beyond those that count may change -/
theorem Sm.frame2 (S : Sm h A B f) (hE : ∀ x, (x = A ∨ x = A + 1 ∨ (B ≤ x ∧ x < B + 62)) → Eq1 h g x) (h2 : ∀ k, k < (h.i B 6).toNatClampNeg → g.i (A + 2) k = h.i (A + 2) k) (h3 : ∀ k, k < 4 * (h.i B 2).toNatClampNeg → g.l (A + 3) k = h.l (A + 3) k) : Sm g A B f := by
  have eA := hE A (Or.inl rfl)
  have e1 := hE (A + 1) (Or.inr (Or.inl rfl))
  have eB0 : Eq1 h g B := hE B (Or.inr (Or.inr ⟨Nat.le_refl _, by omega⟩))
  have eP : ∀ s, s < 60 → Eq1 h g (B + 2 + s) := fun s hs => hE _ (Or.inr (Or.inr ⟨by omega, by omega⟩))
  refine ⟨fun k hk => ?_, fun t ht q hq => ?_, fun k hk => ?_, fun k hk => ?_, fun k hk => ?_, fun t ht => ?_⟩
  · rw [cb_eq eA eB0]; exact S.1 k hk
  · rw [cs_eq (eP t ht)]; exact S.2.1 t ht q hq
  · rw [eA.2.2.1] at hk; rw [e1.2.2.1]; exact S.2.2.1 k hk
  · rw [eB0.2.2.1] at hk; rw [h2 k hk]; exact S.2.2.2.1 k hk
  · rw [eB0.2.2.1] at hk; rw [h3 k hk]; exact S.2.2.2.2.1 k hk
  · rw [(eP t ht).2.2.1, (eP t ht).2.2.1]; exact S.2.2.2.2.2 t ht
end
section
variable {h g : Hp} {ow : Nat → Nat} {a A K : Nat} {γ : Gh}
theorem cr_order {T : Nat} {s : Int32} (I : CR h ow a A K γ) (hK : K < 512) (hT : h.i A 4 = nI T) (hT6 : T ≤ 60) (h12 : γ.f 12 = lN T) : CR (rTell h A s T).2 ow a A (K + 1) (γ.set (fOrder γ.f (sN s)).2) ∧ Oth h (rTell h A s T).2 ow a ∧ (rTell h A s T).1 = (fOrder γ.f (sN s)).1 := by
  obtain ⟨e1, S, O⟩ := so_order (s := s) I.sm I.ok hT hT6 h12
  have hsh : (rTell h A s T).2.1 = h.1 := by
    unfold rTell
    repeat' split
    all_goals rfl
  have hE : ∀ x, (x < A ∨ A + 68 ≤ x) → Eq1 h (rTell h A s T).2 x := fun x hx => by
    unfold rTell
    repeat' split
    all_goals first | exact Eq1.refl | exact (Eq1.setI (by omega)).trans (Eq1.setI (by omega))
  have h10i : (rTell h A s T).2.i A 10 = h.i A 10 := by
    unfold rTell
    repeat' split
    all_goals first | rfl | exact (up2_k _ _ (by decide)).trans (up2_a _ _ (by omega))
  have hlo : ∀ k, k < 12 → (fOrder γ.f (sN s)).2 k = γ.f k := fun k hk => by
    unfold fOrder
    repeat' split
    all_goals first | rfl | (dsimp only; rw [upF_n _ _ (by omega), upF_n _ _ (by omega)])
  have e4 : γ.f 4 = 0 ↔ h.i (A + 5) 1 = 0 := by rw [show γ.f 4 = (h.i (A + 5) 1).toInt64 from I.sm.k 4 (by decide)]; exact t64_e0
  refine ⟨I.inn hK hsh hE h10i S O (hlo 5 (by decide)) (hlo 8 (by decide)) (by rw [hlo 10 (by decide)]; exact Int.le_refl _) (by rw [hlo 4 (by decide)]) (fun k b h1 h2 _ Sb => ?_), ⟨Nat.le_of_eq (by show h.1.1 = (rTell h A s T).2.1.1; rw [hsh]), fun x hx hl => hE x ?_⟩, e1⟩
  · by_cases h4 : γ.f 4 = 0
    · have z : γ.f 5 = 0 := (I.ok.1.2.2.2.2.2.2.1 h4).1
      rw [I.f5] at z
      have hr6 := I.2.2.2.2.1.2.1
      have := (pk_lEQ (b := 0) (by omega) (by decide)).mp z
      omega
    · have e : (rTell h A s T).2 = h := by unfold rTell; rw [if_neg (fun z => h4 (e4.mpr z))]
      rw [e]
      exact Sb
  · have := I.2.2.1 x
    rcases Nat.lt_or_ge x A with z | z
    · exact Or.inl z
    · rcases Nat.lt_or_ge x (A + 68) with y | y
      · have := this z y
        omega
      · exact Or.inr y
theorem cr_lot {T : Nat} {x : Int32} (I : CR h ow a A K γ) (hK : K < 512) (hT : h.i (A + 5) 6 = nI T) (hT6 : T ≤ 60) (h10 : γ.f 10 = lN T) : CR (rLot h A x T).2 ow a A (K + 1) (γ.set (fLot γ.f x).2) ∧ Oth h (rLot h A x T).2 ow a ∧ (rLot h A x T).1 = (fLot γ.f x).1 := by
  obtain ⟨e1, S, O⟩ := so_lot (x := x) I.sm I.ok hT hT6 h10
  have hsh : (rLot h A x T).2.1 = h.1 := by
    unfold rLot
    repeat' split
    all_goals rfl
  have hE2 : ∀ y, y ≠ A + 2 → y ≠ A + 5 → Eq1 h (rLot h A x T).2 y := fun y h1 h2 => by
    unfold rLot
    repeat' split
    all_goals first | exact Eq1.refl | exact (Eq1.setI h1).trans (Eq1.setI h2)
  have hlt : ∀ k, k ≠ T → (rLot h A x T).2.i (A + 2) k = h.i (A + 2) k := fun k hk => by
    unfold rLot
    repeat' split
    all_goals first | rfl | exact (up2_a _ _ (by omega)).trans (up2_k _ _ hk)
  have hlo : ∀ k, k < 13 → k ≠ 10 → (fLot γ.f x).2 k = γ.f k := fun k hk h10 => by
    unfold fLot
    repeat' split
    all_goals first | rfl | (dsimp only; rw [upF_n _ _ h10, upF_n _ _ (by omega)])
  have hl10 : (γ.f 10).toInt ≤ ((fLot γ.f x).2 10).toInt := by
    unfold fLot
    repeat' split
    all_goals first | exact Int.le_refl _ | (dsimp only; rw [upF_s, h10, lN_1, pk_lT (by omega), pk_lT (by omega)]; omega)
  refine ⟨I.inn hK hsh (fun y hy => hE2 y (by omega) (by omega)) ((hE2 A (by omega) (by omega)).2.2.1 10) S O (hlo 5 (by decide) (by decide)) (hlo 8 (by decide) (by decide)) hl10 (by rw [hlo 4 (by decide) (by decide)]) (fun k b h1 h2 hb Sb => ?_), ⟨Nat.le_of_eq (by show h.1.1 = (rLot h A x T).2.1.1; rw [hsh]), fun y hy hl => ?_⟩, e1⟩
  · refine Sb.frame2 (fun y hy => hE2 y (by omega) (by omega)) (fun j hj => hlt j ?_) (fun j _ => (hE2 (A + 3) (by omega) (by omega)).2.2.2 j)
    have hkr : k ≤ γ.r := Nat.le_of_lt h2
    obtain ⟨L, hL6, eL, eLi⟩ := Ok.L Sb (I.2.2.2.2.1.2.2.1 k h1 hkr).1
    have hm : (γ.G k 10).toInt ≤ (γ.f 10).toInt := (I.2.2.2.2.1.2.2.2.1 k γ.r h1 hkr (Nat.le_refl _)).1
    rw [eL, h10, pk_lT (by omega), pk_lT (by omega)] at hm
    rw [eLi, nI_clamp (by omega)] at hj
    omega
  · have hq := I.2.2.1 y
    refine hE2 y (fun z => ?_) (fun z => ?_)
    · have := hq (by omega) (by omega); omega
    · have := hq (by omega) (by omega); omega
end

