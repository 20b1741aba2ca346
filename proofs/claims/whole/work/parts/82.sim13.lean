/-! a round's end: the bid shared, the claim repaid -/
section
variable {h : Hp} {A K : Nat} {f : Fl}
theorem ot_eq {b n : Nat} {s : Int32} (S : Sm h A (A + 5) f) (O : Ok K f) (h4 : f 4 = 1) (hb : b < 60) (hs : s = nI b) (hn : n < 60) : otP h A s n = isOt f b n := by
  unfold otP isOt
  rw [S.go O hn, isPl_1 h4, hs]
  congr 2
  exact decide_eq_decide.mpr (nI_eq (by omega) (by omega))
theorem ok_10 {n : Nat} {x : Int64} (O : Ok K f) (h4 : ¬ f 4 = 0) (hn : n < 60) : Ok K (upF f (ix n 10) x) := O.ch (Nat.le_refl _) ((SeatCh.refl (n := n)).up hn (by decide)) (Or.inr Iff.rfl) ((O.2.2 n hn).s10 h4)
/-- only what was shared differs -/
def Fr10 (f g : Fl) : Prop := ∀ k, (∀ s, s < 60 → k ≠ ix s 10) → g k = f k
theorem Fr10.refl : Fr10 f f := fun _ _ => rfl
theorem Fr10.up {g : Fl} {n : Nat} {x : Int64} (F : Fr10 f g) (hn : n < 60) : Fr10 f (upF g (ix n 10) x) := fun k hk => (upF_n _ _ (hk n hn)).trans (F k hk)
theorem Fr10.low {g : Fl} (F : Fr10 f g) {k : Nat} (hk : k < 13) : g k = f k := F k (fun s _ => (ix_low hk).symm)
theorem Fr10.seat {g : Fl} (F : Fr10 f g) {s j : Nat} (hj : j < 17) (h : j ≠ 10) : g (ix s j) = f (ix s j) := F _ (fun t _ z => h (ix_inj hj (by decide) z).2)
theorem sim_sb {b : Nat} {s : Int32} {part : Int64} (S : Sm h A (A + 5) f) (O : Ok K f) (h4 : f 4 = 1) (hb : b < 60) (hs : s = nI b) (N : Nat) (hN : N ≤ 60) : Sm (itr (sbC A s part) N h) A (A + 5) (itr (shS b part) N f) ∧ Ok K (itr (shS b part) N f) ∧ Fr10 f (itr (shS b part) N f) :=
  itr_sim (p := sbC A s part) (q := shS b part) (x := h) (y := f) (R := fun _ g φ => Sm g A (A + 5) φ ∧ Ok K φ ∧ Fr10 f φ) N ⟨S, O, Fr10.refl⟩ (fun n hn g φ I => by
    obtain ⟨S1, O1, F⟩ := I
    have h4' : φ 4 = 1 := (F.low (by decide)).trans h4
    have hn6 : n < 60 := by omega
    unfold sbC shS
    rw [ot_eq S1 O1 h4' hb hs hn6]
    cases isOt φ b n with
    | false => exact ⟨S1, O1, F⟩
    | true =>
      rw [if_pos rfl, if_pos rfl, show φ (ix n 10) = g.l (A + 5 + 2 + n) 11 from S1.s hn6 10 (by decide)]
      exact ⟨S1.l11 hn6, ok_10 O1 (by rw [h4']; decide) hn6, F.up hn6⟩)
theorem sim_ss {b : Nat} {s : Int32} {ne : Bool} {x : Int64} (S : Sm h A (A + 5) f) (O : Ok K f) (h4 : f 4 = 1) (hb : b < 60) (hs : s = nI b) (N : Nat) (hN : N ≤ 60) : (Sm (itr (ssC A s ne) N (h, x)).1 A (A + 5) (itr (s1S b ne) N (f, x)).1 ∧ (itr (ssC A s ne) N (h, x)).2 = (itr (s1S b ne) N (f, x)).2) ∧ Ok K (itr (s1S b ne) N (f, x)).1 ∧ Fr10 f (itr (s1S b ne) N (f, x)).1 :=
  itr_sim (p := ssC A s ne) (q := s1S b ne) (x := (h, x)) (y := (f, x)) (R := fun _ g φ => (Sm g.1 A (A + 5) φ.1 ∧ g.2 = φ.2) ∧ Ok K φ.1 ∧ Fr10 f φ.1) N ⟨⟨S, rfl⟩, O, Fr10.refl⟩ (fun n hn g φ I => by
    obtain ⟨g1, g2⟩ := g
    obtain ⟨φ1, φ2⟩ := φ
    obtain ⟨⟨S1, e⟩, O1, F⟩ := I
    dsimp only at S1 e O1 F
    subst e
    have h4' : φ1 4 = 1 := (F.low (by decide)).trans h4
    have hn6 : n < 60 := by omega
    unfold ssC s1S
    dsimp only
    rw [ot_eq S1 O1 h4' hb hs hn6, S1.ne O1 hn6 (by rw [h4']; decide)]
    by_cases h0 : 0 < g2
    · rw [if_pos h0, if_pos h0]
      by_cases hc : isOt φ1 b n = true ∧ isNe φ1 n = ne
      · rw [if_pos hc, if_pos (by rw [hc.1, hc.2]; cases ne <;> rfl), show φ1 (ix n 10) = g1.l (A + 5 + 2 + n) 11 from S1.s hn6 10 (by decide)]
        exact ⟨⟨S1.l11 hn6, rfl⟩, ok_10 O1 (by rw [h4']; decide) hn6, F.up hn6⟩
      · rw [if_neg hc, if_neg (fun z => hc (by rw [Bool.and_eq_true, beq_iff_eq] at z; exact z))]
        exact ⟨⟨S1, rfl⟩, O1, F⟩
    · rw [if_neg h0, if_neg h0]
      exact ⟨⟨S1, rfl⟩, O1, F⟩)
theorem sh0 {b : Nat} : ∀ N, itr (shS b 0) N f = f := by
  intro N
  induction N with
  | zero => rfl
  | succ N ih =>
    rw [itr_succ, ih]
    unfold shS
    split
    · exact upF_same _ (Int64.add_zero _).symm
    · rfl
theorem s10 {b : Nat} {ne : Bool} : ∀ N, itr (s1S b ne) N (f, 0) = (f, 0) := by
  intro N
  induction N with
  | zero => rfl
  | succ N ih =>
    rw [itr_succ, ih]
    unfold s1S
    exact if_neg (show ¬ (0 : Int64) < 0 by decide)
theorem shares0 {b : Nat} {oth : Int64} (ho : (0 : Int64) / oth = 0) : shares f b 0 oth = f := by
  unfold shares
  dsimp only
  rw [ho, sh0, show (0 : Int64) - 0 * oth = 0 by rw [Int64.zero_mul]; rfl, s10, s10]
theorem sim_share {b bd : Nat} {s : Int32} (S : Sm h A (A + 5) f) (O : Ok K f) (h4 : f 4 = 1) (hb : b < 60) (hs : s = nI b) (hbd : bd < 2 ^ 62) (hz : cnt (isOt f b) 60 = 0 → bd = 0) :
    Sm (rShare h A s (nI (cnt (isOt f b) 60)) (lN bd)) A (A + 5) (if 0 < lN bd then shares f b (lN bd) (lN (cnt (isOt f b) 60)) else f) ∧ Ok K (if 0 < lN bd then shares f b (lN bd) (lN (cnt (isOt f b) 60)) else f) ∧ Fr10 f (if 0 < lN bd then shares f b (lN bd) (lN (cnt (isOt f b) 60)) else f) := by
  have hc6 : cnt (isOt f b) 60 ≤ 60 := cnt_le _ 60
  generalize cnt (isOt f b) 60 = c at hc6 hz ⊢
  unfold rShare
  by_cases h0 : c = 0
  · rw [hz h0, h0, if_neg (show ¬ 0 < nI 0 by decide), if_neg (show ¬ 0 < lN 0 by decide)]
    exact ⟨S, O, Fr10.refl⟩
  · rw [if_pos (show 0 < nI c from nI_lt (a := 0) (by omega) (by omega)), nI_l (by omega)]
    have hq : (if 0 < lN bd then shares f b (lN bd) (lN c) else f) = shares f b (lN bd) (lN c) := by
      by_cases hb0 : bd = 0
      · subst hb0
        rw [if_neg (by decide)]
        exact (shares0 (show lN 0 / lN c = 0 by rw [pk_lDiv (by decide) (by omega) (by omega), Nat.zero_div]; rfl)).symm
      · rw [if_pos (show 0 < lN bd from (pk_lLT (a := 0) (by decide) (by omega)).mpr (by omega))]
    rw [hq]
    unfold shares sbL ssL
    dsimp only
    obtain ⟨S1, O1, F1⟩ := sim_sb (part := lN bd / lN c) S O h4 hb hs 60 (Nat.le_refl _)
    generalize itr (sbC A s (lN bd / lN c)) 60 h = g1 at S1 ⊢
    generalize itr (shS b (lN bd / lN c)) 60 f = f1 at S1 O1 F1 ⊢
    generalize lN bd - lN bd / lN c * lN c = x
    have h41 : f1 4 = 1 := (F1.low (by decide)).trans h4
    obtain ⟨⟨S2, e2⟩, O2, F2⟩ := sim_ss (ne := true) (x := x) S1 O1 h41 hb hs 60 (Nat.le_refl _)
    generalize itr (ssC A s true) 60 (g1, x) = w1 at S2 e2 ⊢
    generalize itr (s1S b true) 60 (f1, x) = w2 at S2 e2 O2 F2 ⊢
    obtain ⟨g2, x2⟩ := w1
    obtain ⟨f2, y2⟩ := w2
    dsimp only at S2 e2 O2 F2
    subst e2
    have h42 : f2 4 = 1 := (F2.low (by decide)).trans h41
    obtain ⟨⟨S3, -⟩, O3, F3⟩ := sim_ss (ne := false) (x := x2) S2 O2 h42 hb hs 60 (Nat.le_refl _)
    exact ⟨S3, O3, fun k hk => (F3 k hk).trans ((F2 k hk).trans (F1 k hk))⟩
/-- the claim, the coins, the drawing -/
def dr2 (g : Fl) (b : Nat) (left : Int64) : Fl :=
  let claim := if g (ix b 6) ≤ left then g (ix b 6) else left
  let g1 := if 0 < claim then upF g (ix (g (ix b 2)).toInt.toNat 7) (g (ix (g (ix b 2)).toInt.toNat 7) + claim) else g
  let g2 := upF g1 (ix b 6) (g1 (ix b 6) + -claim)
  let g3 := upF g2 (ix b 9) (g2 (ix b 9) + (left - claim))
  upF g3 (ix b 3) 1
theorem draws_eq {b : Nat} {given : Int64} : draws f b given = dr2 (if 0 < dBid f b given then shares f b (dBid f b given) (lN (cnt (isOt f b) 60)) else f) b (given - dBid f b given) := rfl
theorem sim_dr2 {b lf : Nat} (S : Sm h A (A + 5) f) (O : Ok (K + 1) f) (h4 : f 4 = 1) (hb : b < 60) (hK : K ≤ 600) (hlf : lf ≤ 600000000) (hdr : f (ix b 3) = 0) (hdp : ∀ s, s < 60 → ∃ d, d ≤ K * 10000000000 ∧ f (ix s 7) = lN d) : Sm (rHand2 h A (A + 5 + 2 + b) (lN lf)) A (A + 5) (dr2 f b (lN lf)) ∧ Ok (K + 1) (dr2 f b (lN lf)) ∧ ∀ k, (∀ s, s < 60 → k ≠ ix s 7) → k ≠ ix b 6 → k ≠ ix b 9 → k ≠ ix b 3 → dr2 f b (lN lf) k = f k := by
  have hf4 : ¬ f 4 = 0 := by rw [h4]; decide
  have e2 : f (ix b 2) = (h.i (A + 5 + 2 + b) 2).toInt64 := S.s hb 2 (by decide)
  have e6c : f (ix b 6) = h.l (A + 5 + 2 + b) 7 := S.s hb 6 (by decide)
  obtain ⟨d6, hd6, e6⟩ := (O.2.2 b hb).2.2.2.2.1
  have e6 : f (ix b 6) = lN d6 := e6
  have hd62 : d6 ≤ 601 * 10000000 := Nat.le_trans hd6 (Nat.mul_le_mul_right _ (by omega))
  have e9 : f (ix b 9) = 0 := (O.2.2 b hb).2.2.2.2.2.2.2.2.2.1 hdr
  have hcl : (if f (ix b 6) ≤ lN lf then f (ix b 6) else lN lf) = lN (min d6 lf) := by rw [e6]; exact mn_lN (by omega) (by omega)
  have hmc : mn64 (h.l (A + 5 + 2 + b) 7) (lN lf) = lN (min d6 lf) := by rw [← e6c, e6]; exact mn_lN (by omega) (by omega)
  unfold dr2
  rw [hcl]
  have hm1 : min d6 lf ≤ d6 := Nat.min_le_left _ _
  have hm2 : min d6 lf ≤ lf := Nat.min_le_right _ _
  unfold rHand2 rRepay
  rw [hmc]
  have hz : f (ix b 2) = -1 → min d6 lf = 0 := fun z => by
    have w : f (ix b 6) = 0 := (O.2.2 b hb).2.2.2.2.2.2.2.2.2.2.1 z
    rw [e6] at w
    have := (pk_lEQ (b := 0) (by omega) (by decide)).mp w
    omega
  generalize min d6 lf = m at hm1 hm2 hz ⊢
  dsimp only
  -- the end: coins and drawing
  have fin : ∀ (g : Hp) (φ : Fl), Sm g A (A + 5) φ → Ok (K + 1) φ → (∀ k, (∀ s, s < 60 → k ≠ ix s 7) → k ≠ ix b 6 → φ k = f k) → Sm ((g.setL (A + 5 + 2 + b) 10 (lN lf - lN m)).setI (A + 5 + 2 + b) 3 1) A (A + 5) (upF (upF φ (ix b 9) (φ (ix b 9) + (lN lf - lN m))) (ix b 3) 1) ∧ Ok (K + 1) (upF (upF φ (ix b 9) (φ (ix b 9) + (lN lf - lN m))) (ix b 3) 1) ∧ ∀ k, (∀ s, s < 60 → k ≠ ix s 7) → k ≠ ix b 6 → k ≠ ix b 9 → k ≠ ix b 3 → upF (upF φ (ix b 9) (φ (ix b 9) + (lN lf - lN m))) (ix b 3) 1 k = f k := by
    intro g φ S1 O1 fr
    have q9 : φ (ix b 9) = 0 := (fr _ (fun s _ z => absurd (ix_inj (by decide) (by decide) z).2 (by decide)) (fun z => absurd (ix_inj (by decide) (by decide) z).2 (by decide))).trans e9
    have q4 : ¬ φ 4 = 0 := by rw [fr 4 (fun s _ => (ix_low (by decide)).symm) (ix_low (by decide)).symm]; exact hf4
    rw [q9, Int64.zero_add]
    refine ⟨(S1.l10 hb).i3 (v := 1) hb, ?_, fun k h1 h2 h3 h5 => by rw [upF_n _ _ h5, upF_n _ _ h3]; exact fr k h1 h2⟩
    have hc : upF (upF φ (ix b 9) (lN lf - lN m)) (ix b 3) 1 = upF (upF φ (ix b 3) 1) (ix b 9) (lN lf - lN m) := upF_comm _ _ _ (fun z => absurd (ix_inj (by decide) (by decide) z).2 (by decide))
    rw [hc]
    have C := ((SeatCh.refl (f := φ) (n := b)).up (j := 3) (x := 1) hb (by decide)).up (j := 9) (x := lN lf - lN m) hb (by decide)
    exact O1.ch (Nat.le_refl _) C (Or.inr Iff.rfl) (((O1.2.2 b hb).s3 q4).s9 q4 (fun z => absurd (show (1 : Int64) = 0 from z) (by decide)))
  have ok6 : ∀ φ : Fl, Ok (K + 1) φ → ¬ φ 4 = 0 → φ (ix b 6) = lN d6 → Ok (K + 1) (upF φ (ix b 6) (lN d6 + -lN m)) := fun φ O1 q4 q6 => by
    refine O1.ch (Nat.le_refl _) ((SeatCh.refl (n := b)).up hb (by decide)) (Or.inr Iff.rfl) ((O1.2.2 b hb).s6 q4 ⟨d6 - m, by omega, by rw [← Int64.sub_eq_add_neg, lN_sub hm1]⟩ (fun z => ?_))
    have w : φ (ix b 6) = 0 := (O1.2.2 b hb).2.2.2.2.2.2.2.2.2.2.1 z
    rw [q6] at w
    have := (pk_lEQ (b := 0) (by omega) (by decide)).mp w
    rw [← Int64.sub_eq_add_neg, lN_sub hm1, show d6 - m = 0 by omega]
    rfl
  rcases O.su b hb with z | ⟨q, hq, z⟩
  · have y : h.i (A + 5 + 2 + b) 2 = -1 := t64_em.mp (e2.symm.trans z)
    have hm0 := hz z
    subst hm0
    rw [y, show sN (-1 : Int32) = none by decide, if_neg (show ¬ 0 < lN 0 by decide)]
    dsimp only
    have hs : upF f (ix b 6) (f (ix b 6) + -lN 0) = f := upF_same _ (by rw [show -lN 0 = 0 by decide, Int64.add_zero])
    rw [hs]
    exact fin h f S O (fun _ _ _ => rfl)
  · have y : h.i (A + 5 + 2 + b) 2 = nI q := (t64_n (by omega)).mp (e2.symm.trans z)
    rw [y, sN_nI hq, z, lN_nat (by omega)]
    dsimp only
    obtain ⟨d, hd, ed⟩ := hdp q hq
    have hg1 : (if 0 < lN m then upF f (ix q 7) (f (ix q 7) + lN m) else f) = upF f (ix q 7) (f (ix q 7) + lN m) := by
      by_cases h0 : m = 0
      · subst h0
        rw [if_neg (by decide), show lN 0 = 0 from rfl, Int64.add_zero]
        exact (upF_same _ rfl).symm
      · rw [if_pos (show 0 < lN m from (pk_lLT (a := 0) (by decide) (by omega)).mpr (by omega))]
    rw [hg1]
    have S1 : Sm (rpH h A (A + 5 + 2 + b) q (lN m)) A (A + 5) (upF f (ix q 7) (f (ix q 7) + lN m)) := by
      unfold rpH
      rw [show f (ix q 7) = h.l (A + 5 + 2 + q) 8 from S.s hq 7 (by decide)]
      exact S.l8 hq
    have O1 : Ok (K + 1) (upF f (ix q 7) (f (ix q 7) + lN m)) := by
      refine O.ch (Nat.le_refl _) ((SeatCh.refl (n := q)).up hq (by decide)) (Or.inr Iff.rfl) ((O.2.2 q hq).s7 hf4 ⟨d + m, ?_, by rw [ed, lN_add]⟩)
      rw [show (K + 1) * 10000000000 = K * 10000000000 + 10000000000 from Nat.succ_mul _ _]
      omega
    have q6 : upF f (ix q 7) (f (ix q 7) + lN m) (ix b 6) = lN d6 := (upF_n _ _ (fun w => absurd (ix_inj (by decide) (by decide) w).2 (by decide))).trans e6
    have q4 : ¬ upF f (ix q 7) (f (ix q 7) + lN m) 4 = 0 := by rw [upF_n _ _ (ix_low (by decide)).symm]; exact hf4
    rw [q6]
    have S2 : Sm (rpG (rpH h A (A + 5 + 2 + b) q (lN m)) (A + 5 + 2 + b) (lN m)) A (A + 5) (upF (upF f (ix q 7) (f (ix q 7) + lN m)) (ix b 6) (lN d6 + -lN m)) := by
      unfold rpG
      rw [show (rpH h A (A + 5 + 2 + b) q (lN m)).l (A + 5 + 2 + b) 7 = lN d6 from (S1.s hb 6 (by decide)).symm.trans q6, ← Int64.sub_eq_add_neg]
      exact S1.l7 hb
    exact fin _ _ S2 (ok6 _ O1 q4 q6) (fun k h1 h2 => by rw [upF_n _ _ h2, upF_n _ _ (h1 q hq)])
end

