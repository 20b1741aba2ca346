/-! a round's end: what comes in -/
section
variable {h : Hp} {A K : Nat} {f : Fl}
theorem mn_lN {a b : Nat} (ha : a < 2 ^ 63) (hb : b < 2 ^ 63) : mn64 (lN a) (lN b) = lN (min a b) := by
  unfold mn64
  by_cases h : a ≤ b
  · rw [if_pos ((pk_lLE ha hb).mpr h), Nat.min_eq_left h]
  · rw [if_neg (fun z => h ((pk_lLE ha hb).mp z)), Nat.min_eq_right (by omega)]
/-- the last two stores of putting in -/
theorem sim_pfE {n m d5 d6 : Nat} {l : Int64} (S : Sm h A (A + 5) f) (O : Ok K f) (hn : n < 60) (h4 : ¬ f 4 = 0) (e5 : f (ix n 5) = lN d5) (e6 : f (ix n 6) = lN d6) {t : Nat} (hl : l = lN t) (hm : m ≤ t) (b5 : d5 + t ≤ K * 10000000) (b6 : d6 + m ≤ K * 10000000) (hsu : f (ix n 2) = -1 → m = 0 ∧ d6 = 0) :
    Sm (pfE h (A + 5 + 2 + n) l (lN m)).2 A (A + 5) (upF (upF f (ix n 6) (f (ix n 6) + lN m)) (ix n 5) (upF f (ix n 6) (f (ix n 6) + lN m) (ix n 5) + (l - lN m))) ∧ Ok K (upF (upF f (ix n 6) (f (ix n 6) + lN m)) (ix n 5) (upF f (ix n 6) (f (ix n 6) + lN m) (ix n 5) + (l - lN m))) := by
  have q5 : upF f (ix n 6) (f (ix n 6) + lN m) (ix n 5) = f (ix n 5) := upF_n _ _ (fun z => absurd (ix_inj (by decide) (by decide) z).2 (by decide))
  constructor
  · have S1 : Sm (pf2 h (A + 5 + 2 + n) (lN m)) A (A + 5) (upF f (ix n 6) (f (ix n 6) + lN m)) := by
      rw [show f (ix n 6) = h.l (A + 5 + 2 + n) 7 from S.s hn 6 (by decide)]
      exact S.l7 hn
    have S2 : Sm (pf3 (pf2 h (A + 5 + 2 + n) (lN m)) (A + 5 + 2 + n) (l - lN m)) A (A + 5) (upF (upF f (ix n 6) (f (ix n 6) + lN m)) (ix n 5) (upF f (ix n 6) (f (ix n 6) + lN m) (ix n 5) + (l - lN m))) := by
      rw [show upF f (ix n 6) (f (ix n 6) + lN m) (ix n 5) = (pf2 h (A + 5 + 2 + n) (lN m)).l (A + 5 + 2 + n) 6 from S1.s hn 5 (by decide)]
      exact S1.l6 hn
    exact S2
  · rw [q5]
    have C := ((SeatCh.refl (f := f) (n := n)).up (j := 6) (x := f (ix n 6) + lN m) hn (by decide)).up (j := 5) (x := f (ix n 5) + (l - lN m)) hn (by decide)
    refine O.ch (Nat.le_refl _) C (Or.inr Iff.rfl) (((O.2.2 n hn).s6 h4 ⟨d6 + m, b6, by rw [e6, lN_add]⟩ (fun z => ?_)).s5 h4 ⟨d5 + (t - m), by omega, by rw [e5, hl, lN_sub hm, lN_add]⟩)
    obtain ⟨z1, z2⟩ := hsu z
    rw [e6, z1, z2]
    decide
/-- one place that is late -/
theorem lk_step {n p c d5 d6 : Nat} {y : Int64} (S : Sm h A (A + 5) f) (O : Ok K f) (hn : n < 60) (h4 : f 4 = 1) (hK : K ≤ 600) (hm : isMem f n = true) (hs : isSt f n = false) (ep : f 1 = lN p) (hp : p ≤ 9999999) (ec : f (ix n 13) = lN c) (hc : c < p) (e5 : f (ix n 5) = lN d5) (e6 : f (ix n 6) = lN d6) (b5 : d5 + p ≤ K * 10000000) (b6 : d6 + p ≤ K * 10000000) :
    ∃ m ψ, m ≤ p - c ∧ lkS n (f, y) = (ψ, y + lN m) ∧ (rPif h A (A + 5 + 2 + n) (lN (p - c))).1 = lN m ∧ Sm (rPif h A (A + 5 + 2 + n) (lN (p - c))).2 A (A + 5) ψ ∧ Ok K ψ ∧ (∀ k, (∀ s, s < 60 → k ≠ ix s 7) → k ≠ ix n 5 → k ≠ ix n 6 → k ≠ ix n 12 → ψ k = f k) ∧ ∀ M, (∀ s, s < 60 → ∃ d, d ≤ M ∧ f (ix s 7) = lN d) → ∀ s, s < 60 → ∃ d, d ≤ M ∧ ψ (ix s 7) = lN d := by
  have hf4 : ¬ f 4 = 0 := by rw [h4]; decide
  have hlack : f 1 - f (ix n 13) = lN (p - c) := by rw [ep, ec, lN_sub (by omega)]
  have hpos : 0 < lN (p - c) := (pk_lLT (a := 0) (by decide) (by omega)).mpr (by omega)
  have hne : ¬ lN (p - c) = 0 := fun z => by have := (pk_lEQ (b := 0) (by omega) (by decide)).mp z; omega
  -- the place is not clean any more
  have S0 : Sm (pf0 h (A + 5 + 2 + n)) A (A + 5) (upF f (ix n 12) 0) := S.i5 (v := 0) hn
  have O0 : Ok K (upF f (ix n 12) 0) := O.ch (Nat.le_refl _) ((SeatCh.refl (n := n)).up hn (by decide)) (Or.inr Iff.rfl) ((O.2.2 n hn).s12 hf4)
  have r : ∀ s j, j < 17 → j ≠ 12 → upF f (ix n 12) 0 (ix s j) = f (ix s j) := fun s j hj h1 => upF_n _ _ (fun z => h1 (ix_inj hj (by decide) z).2)
  have rl : ∀ k, k < 13 → upF f (ix n 12) 0 k = f k := fun k hk => upF_n _ _ (ix_low hk).symm
  have ro : ∀ k, k ≠ ix n 12 → upF f (ix n 12) 0 k = f k := fun k hk => upF_n _ _ hk
  have hlk : lkS n (f, y) = (upF (upF (if 0 < lkPut (upF f (ix n 12) 0) n then upF (upF f (ix n 12) 0) (ix (upF f (ix n 12) 0 (ix n 2)).toInt.toNat 7) (upF f (ix n 12) 0 (ix (upF f (ix n 12) 0 (ix n 2)).toInt.toNat 7) + -lkPut (upF f (ix n 12) 0) n) else upF f (ix n 12) 0) (ix n 6) ((if 0 < lkPut (upF f (ix n 12) 0) n then upF (upF f (ix n 12) 0) (ix (upF f (ix n 12) 0 (ix n 2)).toInt.toNat 7) (upF f (ix n 12) 0 (ix (upF f (ix n 12) 0 (ix n 2)).toInt.toNat 7) + -lkPut (upF f (ix n 12) 0) n) else upF f (ix n 12) 0) (ix n 6) + lkPut (upF f (ix n 12) 0) n)) (ix n 5) (upF (if 0 < lkPut (upF f (ix n 12) 0) n then upF (upF f (ix n 12) 0) (ix (upF f (ix n 12) 0 (ix n 2)).toInt.toNat 7) (upF f (ix n 12) 0 (ix (upF f (ix n 12) 0 (ix n 2)).toInt.toNat 7) + -lkPut (upF f (ix n 12) 0) n) else upF f (ix n 12) 0) (ix n 6) ((if 0 < lkPut (upF f (ix n 12) 0) n then upF (upF f (ix n 12) 0) (ix (upF f (ix n 12) 0 (ix n 2)).toInt.toNat 7) (upF f (ix n 12) 0 (ix (upF f (ix n 12) 0 (ix n 2)).toInt.toNat 7) + -lkPut (upF f (ix n 12) 0) n) else upF f (ix n 12) 0) (ix n 6) + lkPut (upF f (ix n 12) 0) n) (ix n 5) + (f 1 - f (ix n 13) - lkPut (upF f (ix n 12) 0) n)), y + lkPut (upF f (ix n 12) 0) n) := by
    unfold lkS
    dsimp only
    rw [if_neg (show ¬ isPl f n = false by rw [isPl_1 h4, hm]; decide), if_neg (show ¬ isSt f n = true by rw [hs]; decide), if_neg (show ¬ f 1 - f (ix n 13) = 0 by rw [hlack]; exact hne)]
  rw [hlk, hlack]
  clear hlk
  have e5' : upF f (ix n 12) 0 (ix n 5) = lN d5 := (r n 5 (by decide) (by decide)).trans e5
  have e6' : upF f (ix n 12) 0 (ix n 6) = lN d6 := (r n 6 (by decide) (by decide)).trans e6
  have e2' : upF f (ix n 12) 0 (ix n 2) = f (ix n 2) := r n 2 (by decide) (by decide)
  have hP : rPif h A (A + 5 + 2 + n) (lN (p - c)) = (match sN ((pf0 h (A + 5 + 2 + n)).i (A + 5 + 2 + n) 2) with | none => pfE (pf0 h (A + 5 + 2 + n)) (A + 5 + 2 + n) (lN (p - c)) 0 | some q => if (pf0 h (A + 5 + 2 + n)).i (A + 5 + 2 + q) 4 = 0 then pfE (pf1 (pf0 h (A + 5 + 2 + n)) (A + 5 + 2 + q) (mn64 (lN (p - c)) ((pf0 h (A + 5 + 2 + n)).l (A + 5 + 2 + q) 8))) (A + 5 + 2 + n) (lN (p - c)) (mn64 (lN (p - c)) ((pf0 h (A + 5 + 2 + n)).l (A + 5 + 2 + q) 8)) else pfE (pf0 h (A + 5 + 2 + n)) (A + 5 + 2 + n) (lN (p - c)) 0) := by
    unfold rPif
    rw [if_pos hpos]
    cases sN ((pf0 h (A + 5 + 2 + n)).i (A + 5 + 2 + n) 2) <;> rfl
  rw [hP]
  clear hP
  have hc6 : f (ix n 2) = -1 → d6 = 0 := fun z => by
    have w : f (ix n 6) = 0 := (O.2.2 n hn).2.2.2.2.2.2.2.2.2.2.1 z
    rw [e6] at w
    exact (pk_lEQ (b := 0) (by have : d6 ≤ 600 * 10000000 := by omega
                               omega) (by decide)).mp w
  -- nobody puts in
  have none0 : lkPut (upF f (ix n 12) 0) n = 0 → (f (ix n 2) = -1 → (0 : Nat) = 0) → ∃ m ψ, m ≤ p - c ∧ (upF (upF (if 0 < lkPut (upF f (ix n 12) 0) n then upF (upF f (ix n 12) 0) (ix (upF f (ix n 12) 0 (ix n 2)).toInt.toNat 7) (upF f (ix n 12) 0 (ix (upF f (ix n 12) 0 (ix n 2)).toInt.toNat 7) + -lkPut (upF f (ix n 12) 0) n) else upF f (ix n 12) 0) (ix n 6) ((if 0 < lkPut (upF f (ix n 12) 0) n then upF (upF f (ix n 12) 0) (ix (upF f (ix n 12) 0 (ix n 2)).toInt.toNat 7) (upF f (ix n 12) 0 (ix (upF f (ix n 12) 0 (ix n 2)).toInt.toNat 7) + -lkPut (upF f (ix n 12) 0) n) else upF f (ix n 12) 0) (ix n 6) + lkPut (upF f (ix n 12) 0) n)) (ix n 5) (upF (if 0 < lkPut (upF f (ix n 12) 0) n then upF (upF f (ix n 12) 0) (ix (upF f (ix n 12) 0 (ix n 2)).toInt.toNat 7) (upF f (ix n 12) 0 (ix (upF f (ix n 12) 0 (ix n 2)).toInt.toNat 7) + -lkPut (upF f (ix n 12) 0) n) else upF f (ix n 12) 0) (ix n 6) ((if 0 < lkPut (upF f (ix n 12) 0) n then upF (upF f (ix n 12) 0) (ix (upF f (ix n 12) 0 (ix n 2)).toInt.toNat 7) (upF f (ix n 12) 0 (ix (upF f (ix n 12) 0 (ix n 2)).toInt.toNat 7) + -lkPut (upF f (ix n 12) 0) n) else upF f (ix n 12) 0) (ix n 6) + lkPut (upF f (ix n 12) 0) n) (ix n 5) + (lN (p - c) - lkPut (upF f (ix n 12) 0) n)), y + lkPut (upF f (ix n 12) 0) n) = (ψ, y + lN m) ∧ (pfE (pf0 h (A + 5 + 2 + n)) (A + 5 + 2 + n) (lN (p - c)) 0).1 = lN m ∧ Sm (pfE (pf0 h (A + 5 + 2 + n)) (A + 5 + 2 + n) (lN (p - c)) 0).2 A (A + 5) ψ ∧ Ok K ψ ∧ (∀ k, (∀ s, s < 60 → k ≠ ix s 7) → k ≠ ix n 5 → k ≠ ix n 6 → k ≠ ix n 12 → ψ k = f k) ∧ ∀ M, (∀ s, s < 60 → ∃ d, d ≤ M ∧ f (ix s 7) = lN d) → ∀ s, s < 60 → ∃ d, d ≤ M ∧ ψ (ix s 7) = lN d := by
    intro hz _
    have E := sim_pfE (m := 0) (t := p - c) S0 O0 hn (by rw [rl 4 (by decide)]; exact hf4) e5' e6' rfl (Nat.zero_le _) (by omega) (by omega) (fun z => ⟨rfl, hc6 (e2' ▸ z)⟩)
    refine ⟨0, _, Nat.zero_le _, ?_, rfl, E.1, E.2, fun k h1 h2 h3 h5 => ?_, fun M hM s hs => ?_⟩
    · rw [hz, if_neg (by decide)]
      rfl
    · rw [upF_n _ _ h2, upF_n _ _ h3, upF_n _ _ h5]
    · have x5 : ix s 7 ≠ ix n 5 := fun z => absurd (ix_inj (by decide) (by decide) z).2 (by decide)
      have x6 : ix s 7 ≠ ix n 6 := fun z => absurd (ix_inj (by decide) (by decide) z).2 (by decide)
      rw [upF_n _ _ x5, upF_n _ _ x6, r s 7 (by decide) (by decide)]
      exact hM s hs
  have su0 : (pf0 h (A + 5 + 2 + n)).i (A + 5 + 2 + n) 2 = h.i (A + 5 + 2 + n) 2 := up2_k _ _ (by decide)
  have e2 : f (ix n 2) = (h.i (A + 5 + 2 + n) 2).toInt64 := S.s hn 2 (by decide)
  rcases O.su n hn with z | ⟨q, hq, z⟩
  · have y2 : h.i (A + 5 + 2 + n) 2 = -1 := t64_em.mp (e2.symm.trans z)
    rw [su0, y2, show sN (-1 : Int32) = none by decide]
    exact none0 (by unfold lkPut; rw [e2', z, if_pos (by decide)]) (fun _ => rfl)
  · have y2 : h.i (A + 5 + 2 + n) 2 = nI q := (t64_n (by omega)).mp (e2.symm.trans z)
    rw [su0, y2, sN_nI hq]
    dsimp only
    have hst := S0.st O0 hq
    have hist : isSt (upF f (ix n 12) 0) q = isSt f q := by unfold isSt; rw [r q 4 (by decide) (by decide)]
    have hpv : lkPut (upF f (ix n 12) 0) n = if isSt f q then 0 else if lN (p - c) ≤ f (ix q 7) then lN (p - c) else f (ix q 7) := by
      unfold lkPut
      rw [e2', z, lN_i, if_neg (nI_ne hq), lN_nat (by omega), hist, rl 1 (by decide), r n 13 (by decide) (by decide), r q 7 (by decide) (by decide), hlack]
    cases hq4 : isSt f q with
    | true =>
      rw [hist, hq4] at hst
      rw [if_neg (of_decide_eq_false hst)]
      exact none0 (by rw [hpv, hq4]; rfl) (fun _ => rfl)
    | false =>
      rw [hist, hq4] at hst
      rw [if_pos (of_decide_eq_true hst)]
      obtain ⟨d, hd, ed⟩ := (O.2.2 q hq).2.2.2.2.2.1
      have ed : f (ix q 7) = lN d := ed
      have hd2 : d ≤ 600 * 10000000000 := Nat.le_trans hd (Nat.mul_le_mul_right _ hK)
      have edc : (pf0 h (A + 5 + 2 + n)).l (A + 5 + 2 + q) 8 = lN d := (S0.s hq 7 (by decide)).symm.trans ((r q 7 (by decide) (by decide)).trans ed)
      have hput : lkPut (upF f (ix n 12) 0) n = lN (min (p - c) d) := by
        rw [hpv, hq4, if_neg (by decide), ed]
        exact mn_lN (by omega) (by omega)
      rw [edc, mn_lN (by omega) (by omega), hput, e2', z, lN_nat (by omega), r q 7 (by decide) (by decide), ed]
      have hmin : min (p - c) d ≤ p - c := Nat.min_le_left _ _
      have hmin2 : min (p - c) d ≤ d := Nat.min_le_right _ _
      generalize min (p - c) d = m at hmin hmin2 ⊢
      -- the surety's deposit
      have hg2 : (if 0 < lN m then upF (upF f (ix n 12) 0) (ix q 7) (lN d + -lN m) else upF f (ix n 12) 0) = upF (upF f (ix n 12) 0) (ix q 7) (lN d - lN m) := by
        by_cases h0 : m = 0
        · subst h0
          rw [if_neg (by decide), show lN 0 = 0 from rfl, Int64.sub_zero]
          exact (upF_same _ ((r q 7 (by decide) (by decide)).trans ed)).symm
        · rw [if_pos (show 0 < lN m from (pk_lLT (a := 0) (by decide) (by omega)).mpr (by omega)), Int64.sub_eq_add_neg]
      rw [hg2]
      have S1 : Sm (pf1 (pf0 h (A + 5 + 2 + n)) (A + 5 + 2 + q) (lN m)) A (A + 5) (upF (upF f (ix n 12) 0) (ix q 7) (lN d - lN m)) := by
        unfold pf1
        rw [edc]
        exact S0.l8 hq
      have O1 : Ok K (upF (upF f (ix n 12) 0) (ix q 7) (lN d - lN m)) := O0.ch (Nat.le_refl _) ((SeatCh.refl (n := q)).up hq (by decide)) (Or.inr Iff.rfl) ((O0.2.2 q hq).s7 (by rw [rl 4 (by decide)]; exact hf4) ⟨d - m, by omega, lN_sub hmin2⟩)
      have r7 : ∀ j, j < 17 → j ≠ 7 → j ≠ 12 → upF (upF f (ix n 12) 0) (ix q 7) (lN d - lN m) (ix n j) = f (ix n j) := fun j hj h1 h2 => (upF_n _ _ (fun z => h1 (ix_inj hj (by decide) z).2)).trans (r n j hj h2)
      have E := sim_pfE (m := m) (t := p - c) S1 O1 hn (by rw [upF_n _ _ (ix_low (by decide)).symm, rl 4 (by decide)]; exact hf4) ((r7 5 (by decide) (by decide) (by decide)).trans e5) ((r7 6 (by decide) (by decide) (by decide)).trans e6) rfl hmin (by omega) (by omega) (fun w => by rw [r7 2 (by decide) (by decide) (by decide), z] at w; exact absurd w (lN_ne hq))
      refine ⟨m, _, hmin, rfl, rfl, E.1, E.2, fun k h1 h2 h3 h5 => ?_, fun M hM s hs => ?_⟩
      · rw [upF_n _ _ h2, upF_n _ _ h3, upF_n _ _ (h1 q hq), upF_n _ _ h5]
      · have x5 : ix s 7 ≠ ix n 5 := fun z => absurd (ix_inj (by decide) (by decide) z).2 (by decide)
        have x6 : ix s 7 ≠ ix n 6 := fun z => absurd (ix_inj (by decide) (by decide) z).2 (by decide)
        rw [upF_n _ _ x5, upF_n _ _ x6]
        obtain ⟨v, hv, ev⟩ := hM s hs
        by_cases e : s = q
        · subst e
          have hdM : d ≤ M := by
            by_cases hv2 : v < 2 ^ 63
            · have := (pk_lEQ hv2 (by omega)).mp (ev.symm.trans ed)
              omega
            · omega
          exact ⟨d - m, by omega, by rw [upF_s, lN_sub hmin2]⟩
        · rw [upF_n _ _ (fun z => e (ix_inj (by decide) (by decide) z).1), r s 7 (by decide) (by decide)]
          exact ⟨v, hv, ev⟩
end

