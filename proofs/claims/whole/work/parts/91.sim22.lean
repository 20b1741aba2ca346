/-! a round's end: the ring with its books -/
section
variable {h g : Hp} {A K : Nat} {f : Fl}
/-- what a round's end leaves, behind the book kept -/
theorem erT_fr {k T r L : Nat} (hR : h.i (A + 5) 2 = nI r) : (erT (coL A h) A k T r L).1 = h.1 ∧ (∀ x, (x < A + 5 ∨ A + 67 ≤ x) → x ≠ A + 3 → Eq1 h (erT (coL A h) A k T r L) x) ∧ ∀ j, j < 4 * r → (erT (coL A h) A k T r L).l (A + 3) j = h.l (A + 3) j := by
  have oO : ∀ x, (x < A + 5 ∨ A + 67 ≤ x) → oP (A + 5) x := fun x hx => by unfold oP; omega
  have c1 : (coL A h).1.1 = h.1 := coL_sh
  have c2 : ∀ x, (x < A + 5 ∨ A + 67 ≤ x) → Eq1 h (coL A h).1 x := fun x hx => coL_eq (oO x hx)
  unfold erT
  generalize coL A h = w at c1 c2 ⊢
  obtain ⟨w1, w2⟩ := w
  dsimp only at c1 c2 ⊢
  generalize erGave w1 A w2 = gv
  have d1 : (er2 w1 A gv).1 = h.1 := c1
  have d2 : ∀ x, (x < A + 5 ∨ A + 67 ≤ x) → Eq1 h (er2 w1 A gv) x := fun x hx => (c2 x hx).trans (Eq1.setL (by omega))
  generalize er2 w1 A gv = g2 at d1 d2 ⊢
  unfold erU
  generalize rWho g2 A T r L k = wh
  have f1 : (rHand g2 A wh (w2 + gv)).2.1 = h.1 := rHand_sh.trans d1
  have f2 : ∀ x, (x < A + 5 ∨ A + 67 ≤ x) → Eq1 h (rHand g2 A wh (w2 + gv)).2 x := fun x hx => (d2 x hx).trans (rHand_eq (oO x hx) (by omega))
  generalize rHand g2 A wh (w2 + gv) = y at f1 f2 ⊢
  have k1 : (rKR y.2 A r wh (w2 + gv) y.1 gv).1 = h.1 := f1
  have k2 : ∀ x, (x < A + 5 ∨ A + 67 ≤ x) → x ≠ A + 3 → Eq1 h (rKR y.2 A r wh (w2 + gv) y.1 gv) x := fun x hx h3 => (f2 x hx).trans ((((Eq1.setL h3).trans (Eq1.setL h3)).trans (Eq1.setL h3)).trans (Eq1.setL h3))
  have k3 : ∀ j, j < 4 * r → (rKR y.2 A r wh (w2 + gv) y.1 gv).l (A + 3) j = h.l (A + 3) j := fun j hj => ((up2_k _ _ (by omega)).trans ((up2_k _ _ (by omega)).trans ((up2_k _ _ (by omega)).trans (up2_k _ _ (by omega))))).trans ((f2 (A + 3) (by omega)).2.2.2 j)
  generalize rKR y.2 A r wh (w2 + gv) y.1 gv = g5 at k1 k2 k3 ⊢
  have e5 : ∀ x, (x < A + 5 ∨ A + 67 ≤ x) → Eq1 g5 (er5 g5 A) x := fun x hx => by
    unfold er5
    have q : Eq1 g5 (itr (frC (A + 5)) 60 g5) x := Eq1.it (fun n hn y => frC_eq (oO x hx) hn)
    generalize itr (frC (A + 5)) 60 g5 = z at q ⊢
    exact (q.trans (Eq1.setI (by omega))).trans (Eq1.setI (by omega))
  have e51 : (er5 g5 A).1 = g5.1 := er5_sh
  generalize er5 g5 A = g6 at e5 e51 ⊢
  refine ⟨e51.trans k1, fun x hx h3 => ((k2 x hx h3).trans (e5 x hx)).trans (Eq1.setI (by omega)), fun j hj => ?_⟩
  exact ((e5 (A + 3) (by omega)).2.2.2 j).trans (k3 j hj)
end
section
variable {h g : Hp} {ow : Nat → Nat} {a A K : Nat} {γ : Gh}
/-- a book that lies ahead is apart from the ring's own cells -/
theorem CR.ap (I : CR h ow a A K γ) {k b : Nat} (hk : k < 60) (hb : h.r (A + 67) k = some b) : b + 62 ≤ A ∨ A + 68 ≤ b := by
  have hl := (I.2.2.2.2.2.2.1 k b hk hb).2.2
  have i3 := I.2.2.1
  rcases Nat.lt_or_ge A (b + 62) with z | z
  · rcases Nat.lt_or_ge b (A + 68) with y | y
    · exfalso
      rcases Nat.lt_or_ge b A with w | w
      · have a1 := hl A (by omega) z
        have a2 := i3 A (Nat.le_refl _) (by omega)
        omega
      · have a1 := hl b (Nat.le_refl _) (by omega)
        have a2 := i3 b w y
        omega
    · exact Or.inr y
  · exact Or.inl z
/-- what keeping the book makes -/
theorem keep_facts (I : CR h ow a A K γ) (hr : γ.r < 60) : ∃ (b : Nat) (ow' : Nat → Nat), (rKeep h A γ.r).r (A + 67) γ.r = some b ∧ (∀ k, k ≠ γ.r → (rKeep h A γ.r).r (A + 67) k = h.r (A + 67) k) ∧ BSh (rKeep h A γ.r).1 b ∧ b + 62 ≤ (rKeep h A γ.r).n ∧ h.n ≤ (rKeep h A γ.r).n ∧ (∀ x, b ≤ x → x < b + 62 → ow' x = 1000 * a + 1 + γ.r) ∧ (∀ x, x < h.n → ow' x = ow x) ∧ (∀ x, x < h.n → x ≠ A + 67 → (x < b ∨ b + 62 ≤ x) → Eq1 h (rKeep h A γ.r) x) ∧ (b + 62 ≤ A ∨ A + 68 ≤ b) ∧ (rKeep h A γ.r).kd (A + 67) = h.kd (A + 67) ∧ Sm (rKeep h A γ.r) A (A + 5) γ.f ∧ Sm (rKeep h A γ.r) A b γ.f := by
  have hA := I.1
  have hlt := I.2.1
  unfold rKeep
  cases hm : h.r (A + 67) γ.r with
  | some b =>
    dsimp only
    obtain ⟨b1, b2, b3⟩ := I.2.2.2.2.2.2.1 γ.r b hr hm
    have hap := I.ap hr hm
    have e1 : (cpBk b (A + 5) h).1 = h.1 := cpBk_sh
    have e2 : ∀ x, (x < b ∨ b + 62 ≤ x) → Eq1 h (cpBk b (A + 5) h) x := fun x hx => cpBk_eq hx
    have S2 : Sm (cpBk b (A + 5) h) A b γ.f := I.sm.copy (by omega) (fun i hi => by omega)
    generalize cpBk b (A + 5) h = y at e1 e2 S2 ⊢
    have en : y.n = h.n := by show y.1.1 = _; rw [e1]
    have er : ∀ x k, y.r x k = h.r x k := fun x k => by show y.1.2.2 x k = _; rw [e1]
    have ek : ∀ x, y.kd x = h.kd x := fun x => by show y.1.2.1 x = _; rw [e1]
    exact ⟨b, ow, (er _ _).trans hm, fun k _ => er _ _, by rw [e1]; exact b1, by omega, by omega, b3, fun _ _ => rfl, fun x hx _ hb => e2 x hb, hap, ek _, I.sm.frame (fun x hx => e2 x (by omega)), S2⟩
  | none =>
    dsimp only
    have hk0 : (h.new (10 + 0) 0).kd h.n = kObj 0 := by exact new_kn
    have hn0 : (h.new (10 + 0) 0).n = h.n + 1 := rfl
    have q1 : ∀ x, x < h.n → x ≠ A + 67 → Eq1 h (kbN h A γ.r) x := fun x h1 h2 => kbN_eq h1 h2
    have q2 : (kbN h A γ.r).r (A + 67) γ.r = some h.n := up2_s _ _ _ _
    have q3 : ∀ k, k ≠ γ.r → (kbN h A γ.r).r (A + 67) k = h.r (A + 67) k := fun k hk => (up2_k _ _ hk).trans (((bkN_eq hk0 hn0 (x := A + 67) (by omega)).2.1 k).trans ((Eq1.new (by omega)).2.1 k))
    have q4 : (kbN h A γ.r).kd (A + 67) = h.kd (A + 67) := (bkN_eq hk0 hn0 (x := A + 67) (by omega)).1.trans (Eq1.new (by omega)).1
    have q5 : (kbN h A γ.r).n = h.n + 62 := bkN_n hk0 hn0
    have q6 : BSh (kbN h A γ.r).1 h.n := Eq1.bsh (fun x h1 h2 => Eq1.setR (by omega)) (bkN_sh hk0 hn0)
    have S1 : Sm (kbN h A γ.r) A (A + 5) γ.f := I.sm.frame (fun x hx => q1 x (by omega) (by omega))
    have S2 : Sm (cpBk h.n (A + 5) (kbN h A γ.r)) A h.n γ.f := S1.copy (by omega) (fun i hi => by omega)
    have e1 : (cpBk h.n (A + 5) (kbN h A γ.r)).1 = (kbN h A γ.r).1 := cpBk_sh
    have e2 : ∀ x, (x < h.n ∨ h.n + 62 ≤ x) → Eq1 (kbN h A γ.r) (cpBk h.n (A + 5) (kbN h A γ.r)) x := fun x hx => cpBk_eq hx
    generalize kbN h A γ.r = z at q1 q2 q3 q4 q5 q6 S1 S2 e1 e2 ⊢
    generalize cpBk h.n (A + 5) z = y at S2 e1 e2 ⊢
    have en : y.n = z.n := by show y.1.1 = _; rw [e1]
    have er : ∀ x k, y.r x k = z.r x k := fun x k => by show y.1.2.2 x k = _; rw [e1]
    have ek : ∀ x, y.kd x = z.kd x := fun x => by show y.1.2.1 x = _; rw [e1]
    refine ⟨h.n, fun x => if x < h.n then ow x else 1000 * a + 1 + γ.r, (er _ _).trans q2, fun k hk => (er _ _).trans (q3 k hk), by rw [e1]; exact q6, by omega, by omega, fun x h1 h2 => if_neg (by omega), fun x hx => if_pos hx, fun x hx h67 hb => (q1 x hx h67).trans (e2 x (by omega)), by omega, (ek _).trans q4, S1.frame (fun x hx => e2 x (by omega)), S2⟩
theorem cr_draw {k T L : Nat} (I : CR h ow a A K γ) (hK : K < 512) (hk : k < 4) (h0 : γ.f 0 = lN k) (hT6 : T ≤ 60) (h12 : γ.f 12 = lN T) (hL6 : L ≤ 60) (h10 : γ.f 10 = lN L) (h4 : γ.f 4 = 1) (h56 : ¬ γ.f 5 = γ.f 6) :
    ∃ ow' : Nat → Nat, CR (erT (coL A (rKeep h A γ.r)) A k T γ.r L) ow' a A (K + 1) (γ.F, γ.r + 1, upG γ.G (γ.r + 1) (drawF γ.f), γ.Z) ∧ Oth h (erT (coL A (rKeep h A γ.r)) A k T γ.r L) ow a ∧ (∀ x, x < h.n → ow' x = ow x) := by
  have hr6 := I.2.2.2.2.1.2.1
  have hr : γ.r < 60 := by
    obtain ⟨r', p, a1, a2, a3, a4⟩ := I.ok.1.2.2.2.2.2.1
    have e : r' = γ.r := (pk_lEQ (by omega) (by omega)).mp (a3.symm.trans I.f5)
    rcases Nat.lt_or_ge γ.r 60 with z | z
    · exact z
    · exact absurd (by rw [a3, a4, show r' = p by omega]) h56
  obtain ⟨b, ow', k1, k2, k3, k4, k5, k6, k7, k8, k9, k10, S1, S2⟩ := keep_facts I hr
  have hRk : (rKeep h A γ.r).i (A + 5) 2 = nI γ.r := ((k8 (A + 5) (by have := I.2.1; omega) (by omega) (by omega)).2.2.1 2).trans I.hr
  obtain ⟨D1, D2, D3, D4⟩ := so_drawF (k := k) (T := T) (r := γ.r) (L := L) S1 I.ok h4 (by omega) hk h0 hT6 h12 I.f5 hr6 hL6 h10 h56
  obtain ⟨E1, E2, E3⟩ := erT_fr (h := rKeep h A γ.r) (A := A) (k := k) (T := T) (r := γ.r) (L := L) hRk
  obtain ⟨c, hc, e8, ec, -⟩ := I.c (by omega)
  have hap : ∀ j bj, j < 60 → h.r (A + 67) j = some bj → bj + 62 ≤ A ∨ A + 68 ≤ bj := fun j bj hj hb => I.ap hj hb
  obtain ⟨i1, i2, i3, i4, i5, i6, i7, i8, i9, i10⟩ := I
  generalize rKeep h A γ.r = g0 at k1 k2 k3 k4 k5 k8 k10 S1 S2 hRk D1 E1 E2 E3 ⊢
  generalize erT (coL A g0) A k T γ.r L = g at D1 E1 E2 E3 ⊢
  have gn : g.n = g0.n := by show g.1.1 = _; rw [E1]
  have gr : ∀ x j, g.r x j = g0.r x j := fun x j => by show g.1.2.2 x j = _; rw [E1]
  have gk : ∀ x, g.kd x = g0.kd x := fun x => by show g.1.2.1 x = _; rw [E1]
  -- old cells of the ring: not in the book kept
  have lA : ∀ x, A ≤ x → x < A + 68 → x ≠ A + 67 → Eq1 h g0 x := fun x h1 h2 h3 => k8 x (by omega) h3 (by omega)
  have lb : ∀ x, x < h.n → ow x ≠ 1000 * a + 1 + γ.r → x < b ∨ b + 62 ≤ x := fun x hx ho => by
    rcases Nat.lt_or_ge x b with z | z
    · exact Or.inl z
    · rcases Nat.lt_or_ge x (b + 62) with y | y
      · exact absurd ((k7 x hx).symm.trans (k6 x z y)) ho
      · exact Or.inr y
  have lB : ∀ j bj, j < 60 → j ≠ γ.r → h.r (A + 67) j = some bj → ∀ x, bj ≤ x → x < bj + 62 → Eq1 h g0 x := fun j bj hj hjr hb x h1 h2 => by
    obtain ⟨-, b2, b3⟩ := i7 j bj hj hb
    have := hap j bj hj hb
    exact k8 x (by omega) (by omega) (lb x (by omega) (by rw [b3 x h1 h2]; omega))
  have lS : ∀ i q, i < 512 → h.r (A + 4) i = some q → (q < A ∨ A + 68 ≤ q) ∧ Eq1 h g0 q := fun i q hi hq => by
    obtain ⟨-, q2, q3⟩ := i9 i q hi hq
    have hqA : q < A ∨ A + 68 ≤ q := by
      rcases Nat.lt_or_ge q A with z | z
      · exact Or.inl z
      · rcases Nat.lt_or_ge q (A + 68) with y | y
        · have := i3 q z y
          omega
        · exact Or.inr y
    exact ⟨hqA, k8 q q2 (by omega) (lb q q2 (by rw [q3]; omega))⟩
  have hRS : RSh g0.1 A := Eq1.rsh (fun x h1 h2 h3 => lA x h1 h2 h3) k10 i1
  refine ⟨ow', ⟨by rw [E1]; exact hRS, by omega, fun x h1 h2 => (k7 x (by omega)).trans (i3 x h1 h2), ?_, ?_, ?_, fun j bj hj hb => ?_, fun j h1 h2 => ?_, fun i q hi hq => ?_, fun i hi => ?_⟩, ⟨by omega, fun x hx hl => ?_⟩, k7⟩
  · exact ((E2 A (by omega) (by omega)).2.2.1 10).trans (((lA A (by omega) (by omega) (by omega)).2.2.1 10).trans i4)
  · -- the numbers
    obtain ⟨j1, j2, j3, j4, j5⟩ := i5
    have eG : ∀ j, j ≤ γ.r → upG γ.G (γ.r + 1) (drawF γ.f) j = γ.G j := fun j hj => upG_n (by omega)
    refine ⟨Nat.le_succ_of_le j1, hr, fun j h1 h2 => ?_, fun j j' h1 h2 h3 => ?_, fun j h1 h2 => ?_⟩
    · show Ok (K + 1) (upG γ.G (γ.r + 1) (drawF γ.f) j) ∧ upG γ.G (γ.r + 1) (drawF γ.f) j 5 = lN j
      rcases Nat.lt_or_ge γ.r j with z | z
      · have e : j = γ.r + 1 := Nat.le_antisymm h2 z
        rw [e, upG_s]
        exact ⟨D2, D3⟩
      · rw [eG j z]
        exact ⟨(j3 j h1 z).1.mono (Nat.le_succ _), (j3 j h1 z).2⟩
    · show (upG γ.G (γ.r + 1) (drawF γ.f) j 10).toInt ≤ (upG γ.G (γ.r + 1) (drawF γ.f) j' 10).toInt ∧ (upG γ.G (γ.r + 1) (drawF γ.f) j 8).toInt ≤ (upG γ.G (γ.r + 1) (drawF γ.f) j' 8).toInt
      have d10 : drawF γ.f 10 = γ.f 10 := D4 10 (by decide) (by decide) (by decide) (by decide) (by decide)
      have d8 : drawF γ.f 8 = γ.f 8 := D4 8 (by decide) (by decide) (by decide) (by decide) (by decide)
      rcases Nat.lt_or_ge γ.r j' with z | z
      · have e : j' = γ.r + 1 := Nat.le_antisymm h3 z
        rw [e, upG_s, d10, d8]
        rcases Nat.lt_or_ge γ.r j with y | y
        · have e2 : j = γ.r + 1 := by omega
          rw [e2, upG_s, d10, d8]
          exact ⟨Int.le_refl _, Int.le_refl _⟩
        · rw [eG j y]
          exact j4 j γ.r h1 y (Nat.le_refl _)
      · rw [eG j' z, eG j (by omega)]
        exact j4 j j' h1 h2 z
    · show upG γ.G (γ.r + 1) (drawF γ.f) j 4 = 1
      have h2' : j < γ.r + 1 := h2
      rw [eG j (by omega)]
      rcases Nat.lt_or_ge j γ.r with z | z
      · exact j5 j h1 z
      · have e : j = γ.r := by omega
        rw [e]
        exact h4
  · show Sm g A (A + 5) (upG γ.G (γ.r + 1) (drawF γ.f) (γ.r + 1))
    rw [upG_s]
    exact D1
  · rw [gr] at hb
    by_cases e : j = γ.r
    · subst e
      rw [k1] at hb
      cases hb
      exact ⟨by rw [E1]; exact k3, by omega, k6⟩
    · rw [k2 j e] at hb
      obtain ⟨b1, b2, b3⟩ := i7 j bj hj hb
      exact ⟨by rw [E1]; exact Eq1.bsh (lB j bj hj e hb) b1, by omega, fun x h1 h2 => (k7 x (by omega)).trans (b3 x h1 h2)⟩
  · have h2' : j < γ.r + 1 := h2
    show ∃ b, g.r (A + 67) j = some b ∧ Sm g A b (upG γ.G (γ.r + 1) (drawF γ.f) j)
    rw [show upG γ.G (γ.r + 1) (drawF γ.f) j = γ.G j from upG_n (by omega)]
    by_cases e : j = γ.r
    · subst e
      refine ⟨b, (gr _ _).trans k1, S2.frame2 (fun x hx => E2 x (by omega) (by omega)) (fun i _ => (E2 (A + 2) (by omega) (by omega)).2.2.1 i) (fun i hi => E3 i ?_)⟩
      have hb2 : g0.i b 2 = nI γ.r := (t64_n (by omega)).mp ((S2.k 5 (by decide)).symm.trans (i5.2.2.1 γ.r i5.1 (Nat.le_refl _)).2)
      rw [hb2, nI_clamp (by omega)] at hi
      exact hi
    · obtain ⟨bj, hb, Sb⟩ := i8 j h1 (by omega)
      have hj6 : j < 60 := by omega
      have S0 : Sm g0 A bj (γ.G j) := Sb.frame (fun x hx => by
        rcases hx with z | z | z | z | z
        · exact lA x (by omega) (by omega) (by omega)
        · exact lA x (by omega) (by omega) (by omega)
        · exact lA x (by omega) (by omega) (by omega)
        · exact lA x (by omega) (by omega) (by omega)
        · exact lB j bj hj6 e hb x z.1 z.2)
      have hap' := hap j bj hj6 hb
      refine ⟨bj, (gr _ _).trans ((k2 j e).trans hb), S0.frame2 (fun x hx => E2 x (by omega) (by omega)) (fun i _ => (E2 (A + 2) (by omega) (by omega)).2.2.1 i) (fun i hi => E3 i ?_)⟩
      have hb2 : g0.i bj 2 = nI j := (t64_n (by omega)).mp ((S0.k 5 (by decide)).symm.trans (i5.2.2.1 j h1 (by omega)).2)
      rw [hb2, nI_clamp (by omega)] at hi
      omega
  · rw [gr, (lA (A + 4) (by omega) (by omega) (by omega)).2.1] at hq
    obtain ⟨q1, q2, q3⟩ := i9 i q hi hq
    exact ⟨(gk q).trans ((lS i q hi hq).2.1.trans q1), by omega, (k7 q q2).trans q3⟩
  · have hi : i < ((upG γ.G (γ.r + 1) (drawF γ.f) (γ.r + 1)) 8).toInt.toNat := hi
    show ∃ q, g.r (A + 4) i = some q ∧ StV g q (γ.Z i) ∧ ((upG γ.G (γ.r + 1) (drawF γ.f) (γ.r + 1)) 4 = 2 → g.l q 4 = γ.Z i 4) ∧ (¬ (upG γ.G (γ.r + 1) (drawF γ.f) (γ.r + 1)) 4 = 2 → γ.Z i 4 = 0)
    rw [upG_s, D4 8 (by decide) (by decide) (by decide) (by decide) (by decide)] at hi
    rw [upG_s, D4 4 (by decide) (by decide) (by decide) (by decide) (by decide), h4]
    obtain ⟨q, hq, ⟨s1, s2, s3, s4, s5⟩, s6, s7⟩ := i10 i hi
    have hlS := lS i q (by omega) hq
    have e : Eq1 h g q := hlS.2.trans (E2 q (by omega) (by omega))
    refine ⟨q, (gr _ _).trans (((lA (A + 4) (by omega) (by omega) (by omega)).2.1 i).trans hq), ⟨by rw [e.2.2.1]; exact s1, by rw [e.2.2.1]; exact s2, by rw [e.2.2.2]; exact s3, by rw [e.2.2.2]; exact s4, s5⟩, fun z => absurd z (by decide), fun _ => s7 (by rw [h4]; decide)⟩
  · have hxA : x < A ∨ A + 68 ≤ x := by
      rcases Nat.lt_or_ge x A with z | z
      · exact Or.inl z
      · rcases Nat.lt_or_ge x (A + 68) with y | y
        · have := i3 x z y
          omega
        · exact Or.inr y
    exact (k8 x hx (by omega) (lb x hx (by omega))).trans (E2 x (by omega) (by omega))
end

