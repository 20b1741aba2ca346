/-! a round's end, whole -/
section
variable {h : Hp} {A K : Nat} {f : Fl}
theorem bbS_or {n : Nat} {b : Option Nat} : bbS f n b = b ∨ (bbS f n b = some n ∧ isAb f n = true) := by
  unfold bbS
  by_cases hc : (isAb f n && (match b with | none => true | some q => decide (f (ix q 15) < f (ix n 15)))) = true
  · right
    refine ⟨if_pos hc, ?_⟩
    rw [Bool.and_eq_true] at hc
    exact hc.1
  · left
    exact if_neg hc
theorem who_able {b : Nat} (O : Ok K f) (hw : who f = some b) : b < 60 ∧ isAb f b = true := by
  have fa : ∀ {q}, fnd (isAb f) 60 = some q → q < 60 ∧ isAb f q = true := fun h => ⟨(fnd_some h).1, (fnd_some h).2.1⟩
  unfold who at hw
  split at hw
  · split at hw
    · rename_i k hk
      cases hw
      have hz := fnd_some hk
      obtain ⟨t, h1, h2, h3, -⟩ := O.1.2.2.2.2.2.2.2.2.2.2.2
      rw [h2, lN_nat (by omega)] at hz
      obtain ⟨q, hq, e⟩ := h3 k hz.1
      have hz2 := hz.2.1
      rw [e, lN_nat (by omega)] at hz2 ⊢
      exact ⟨hq, hz2⟩
    · exact fa hw
  · split at hw
    · split at hw
      · cases hw
      · have hz := fnd_some hw
        have := hz.2.1
        rw [Bool.and_eq_true] at this
        exact ⟨hz.1, this.1⟩
    · split at hw
      · have key : ∀ N, N ≤ 60 → ∀ q, itr (bbS f) N none = some q → q < 60 ∧ isAb f q = true := by
          intro N
          induction N with
          | zero => intro _ q h; cases h
          | succ N ih =>
            intro hN q h
            rw [itr_succ] at h
            have ih := ih (by omega)
            generalize itr (bbS f) N none = o at h ih
            rcases bbS_or (f := f) (n := N) (b := o) with z | ⟨z, za⟩
            · rw [z] at h
              exact ih q h
            · rw [z] at h
              cases h
              exact ⟨by omega, za⟩
        exact key 60 (Nat.le_refl _) b hw
      · split at hw
        · exact fa hw
        · split at hw
          · rename_i hc
            cases hw
            rcases O.1.2.2.2.2.2.2.2.2.2.1 with z | ⟨q, hq, z⟩
            · rename_i hne
              exact absurd (by rw [z]; decide) hne
            · have hc1 := hc.1
              rw [z, lN_nat (by omega)] at hc1 ⊢
              exact ⟨hq, hc1⟩
          · exact fa hw
/-- handing out to the one that draws -/
theorem so_hand {b gv : Nat} (S : Sm h A (A + 5) f) (O : Ok (K + 1) f) (h4 : f 4 = 1) (hb : b < 60) (hab : isAb f b = true) (hK : K ≤ 600) (hgv : gv ≤ 600000000) (hdp : ∀ s, s < 60 → ∃ d, d ≤ K * 10000000000 ∧ f (ix s 7) = lN d) :
    (rHand h A (nI b) (lN gv)).1 = dBid f b (lN gv) ∧ Sm (rHand h A (nI b) (lN gv)).2 A (A + 5) (draws f b (lN gv)) ∧ Ok (K + 1) (draws f b (lN gv)) ∧ ∀ k, k < 13 ∨ 1033 ≤ k → draws f b (lN gv) k = f k := by
  have ec : cnt (otP h A (nI b)) 60 = cnt (isOt f b) 60 := cnt_cong (fun s hs => ot_eq S O h4 hb rfl hs)
  have hc6 : cnt (isOt f b) 60 ≤ 60 := cnt_le _ 60
  have hdr : f (ix b 3) = 0 := by
    unfold isAb isNe at hab
    rw [Bool.and_eq_true, Bool.and_eq_true, Bool.and_eq_true, decide_eq_true_eq] at hab
    exact hab.1.2
  obtain ⟨o, ho, eo⟩ := (O.2.2 b hb).2.2.2.2.2.2.2.1
  have eo : f (ix b 15) = lN o := eo
  have key : ∃ bd, bd ≤ gv ∧ dBid f b (lN gv) = lN bd ∧ hBid h (A + 5 + 2 + b) (nI (cnt (isOt f b) 60)) (lN gv) = lN bd ∧ (cnt (isOt f b) 60 = 0 → bd = 0) := by
    unfold dBid hBid
    rw [← show f (ix b 15) = h.l (A + 5 + 2 + b) 16 from S.s hb 15 (by decide)]
    by_cases hz : cnt (isOt f b) 60 = 0
    · refine ⟨0, Nat.zero_le _, ?_, by rw [hz, if_pos (show nI 0 = 0 from rfl)]; rfl, fun _ => rfl⟩
      split
      · rfl
      · rfl
    · have hnz : ¬ nI (cnt (isOt f b) 60) = 0 := nI_ne0 (by omega) (by omega)
      rw [if_neg hz, if_neg hnz]
      by_cases h2 : f 0 = 2
      · refine ⟨min o gv, Nat.min_le_right _ _, ?_, by rw [eo]; exact mn_lN (by omega) (by omega), fun z => absurd z hz⟩
        rw [if_neg (nn h2), eo, Nat.min_comm]
        exact mn_lN (by omega) (by omega)
      · have h15 : f (ix b 15) = 0 := (O.2.2 b hb).2.2.2.2.2.2.2.2.1 h2
        refine ⟨0, Nat.zero_le _, by rw [if_pos h2]; rfl, ?_, fun _ => rfl⟩
        rw [h15]
        have := mn_lN (a := 0) (b := gv) (by decide) (by omega)
        rw [Nat.zero_min] at this
        exact this
  obtain ⟨bd, hbd, e1, e2, e3⟩ := key
  have eH : rHand h A (nI b) (lN gv) = (lN bd, rHand2 (rShare h A (nI b) (nI (cnt (isOt f b) 60)) (lN bd)) A (A + 5 + 2 + b) (lN (gv - bd))) := by
    unfold rHand
    rw [sN_nI hb]
    dsimp only
    rw [ec, e2, lN_sub hbd]
  obtain ⟨S1, O1, F1⟩ := sim_share (bd := bd) S O h4 hb rfl (by omega) e3
  rw [eH, draws_eq, e1, lN_sub hbd]
  dsimp only
  generalize (if 0 < lN bd then shares f b (lN bd) (lN (cnt (isOt f b) 60)) else f) = φ at S1 O1 F1 ⊢
  generalize rShare h A (nI b) (nI (cnt (isOt f b) 60)) (lN bd) = g at S1 ⊢
  obtain ⟨S2, O2, F2⟩ := sim_dr2 (lf := gv - bd) S1 O1 ((F1.low (by decide)).trans h4) hb hK (by omega) ((F1.seat (by decide) (by decide)).trans hdr) (fun s hs => by rw [F1.seat (by decide) (by decide)]; exact hdp s hs)
  refine ⟨rfl, S2, O2, fun k hk => ?_⟩
  have q : ∀ s j, s < 60 → j < 17 → k ≠ ix s j := fun s j hs hj => hk.elim (fun z => (ix_low z).symm) (fun z => by have := ix_lt2 hs hj; omega)
  rw [F2 k (fun s hs => q s 7 hs (by decide)) (q b 6 hb (by decide)) (q b 9 hb (by decide)) (q b 3 hb (by decide))]
  exact F1 k (fun s hs => q s 10 hs (by decide))
/-- the round kept and ended -/
theorem so_end {r p : Nat} {s : Int32} {gi bi ga : Int64} (S : Sm h A (A + 5) f) (O : Ok K f) (h4 : ¬ f 4 = 0) (h5 : f 5 = lN r) (h6 : f 6 = lN p) (hrp : r < p) (hp : p ≤ 60) : Sm (er6 (er5 (rKR h A r s gi bi ga) A) A) A (A + 5) (endR f s.toInt64 gi bi ga) ∧ Ok K (endR f s.toInt64 gi bi ga) ∧ endR f s.toInt64 gi bi ga 5 = lN (r + 1) ∧ ∀ k, k < 13 → k ≠ 5 → k ≠ 7 → k ≠ 9 → endR f s.toInt64 gi bi ga k = f k := by
  obtain ⟨T, hT6, -, hT, h60⟩ := Ok.T S O
  obtain ⟨L, hL6, -, hL⟩ := Ok.L S O
  have hR : h.i (A + 5) 2 = nI r := (t64_n (by omega)).mp ((S.k 5 (by decide)).symm.trans h5)
  have hLc : (h.i (A + 5) 6).toNatClampNeg ≤ 60 := by rw [hL, nI_clamp (by omega)]; exact hL6
  have hj : ∀ i, 4 * (h.i (A + 5) 2).toNatClampNeg ≤ r * 4 + i := fun i => by rw [hR, nI_clamp (by omega)]; omega
  have S1 : Sm (rKR h A r s gi bi ga) A (A + 5) (upF (upF (upF (upF f (1153 + r * 4) s.toInt64) (1153 + (r * 4 + 1)) gi) (1153 + (r * 4 + 2)) bi) (1153 + (r * 4 + 3)) ga) := (((S.kept h60 hLc (hj 0)).kept h60 hLc (hj 1)).kept h60 hLc (hj 2)).kept h60 hLc (hj 3)
  have hk : ∀ i, i < 4 → upF (upF (upF (upF f (1153 + r * 4) s.toInt64) (1153 + (r * 4 + 1)) gi) (1153 + (r * 4 + 2)) bi) (1153 + (r * 4 + 3)) ga (1153 + (r * 4 + i)) = (rKR h A r s gi bi ga).l (A + 3) (r * 4 + i) := by
    intro i hi
    unfold rKR
    rcases (show i = 0 ∨ i = 1 ∨ i = 2 ∨ i = 3 by omega) with rfl | rfl | rfl | rfl
    · rw [upF_n _ _ (by omega), upF_n _ _ (by omega), upF_n _ _ (by omega), Nat.add_zero, upF_s]
      exact ((up2_k _ _ (by omega)).trans ((up2_k _ _ (by omega)).trans ((up2_k _ _ (by omega)).trans (up2_s _ _ _ _)))).symm
    · rw [upF_n _ _ (by omega), upF_n _ _ (by omega), upF_s]
      exact ((up2_k _ _ (by omega)).trans ((up2_k _ _ (by omega)).trans (up2_s _ _ _ _))).symm
    · rw [upF_n _ _ (by omega), upF_s]
      exact ((up2_k _ _ (by omega)).trans (up2_s _ _ _ _)).symm
    · rw [upF_s]
      exact (up2_s _ _ _ _).symm
  have O1 : Ok K (upF (upF (upF (upF f (1153 + r * 4) s.toInt64) (1153 + (r * 4 + 1)) gi) (1153 + (r * 4 + 2)) bi) (1153 + (r * 4 + 3)) ga) := O.hi (fun k hk => by rw [upF_n _ _ (by omega), upF_n _ _ (by omega), upF_n _ _ (by omega), upF_n _ _ (by omega)])
  have el : ∀ k, k < 1153 → upF (upF (upF (upF f (1153 + r * 4) s.toInt64) (1153 + (r * 4 + 1)) gi) (1153 + (r * 4 + 2)) bi) (1153 + (r * 4 + 3)) ga k = f k := fun k hk => by rw [upF_n _ _ (by omega), upF_n _ _ (by omega), upF_n _ _ (by omega), upF_n _ _ (by omega)]
  have eR : endR f s.toInt64 gi bi ga = upF (upF (upF (itr frN 60 (upF (upF (upF (upF f (1153 + r * 4) s.toInt64) (1153 + (r * 4 + 1)) gi) (1153 + (r * 4 + 2)) bi) (1153 + (r * 4 + 3)) ga)) 7 (-1)) 9 (-1)) 5 (upF (upF (itr frN 60 (upF (upF (upF (upF f (1153 + r * 4) s.toInt64) (1153 + (r * 4 + 1)) gi) (1153 + (r * 4 + 2)) bi) (1153 + (r * 4 + 3)) ga)) 7 (-1)) 9 (-1) 5 + 1) := by
    unfold endR
    dsimp only
    rw [h5, lN_nat (by omega), frN_split, show 1153 + 4 * r = 1153 + r * 4 by omega, show 1153 + r * 4 + 1 = 1153 + (r * 4 + 1) by omega, show 1153 + r * 4 + 2 = 1153 + (r * 4 + 2) by omega, show 1153 + r * 4 + 3 = 1153 + (r * 4 + 3) by omega]
  rw [eR]
  clear eR
  have hR1 : (rKR h A r s gi bi ga).i (A + 5) 2 = nI r := hR
  generalize upF (upF (upF (upF f (1153 + r * 4) s.toInt64) (1153 + (r * 4 + 1)) gi) (1153 + (r * 4 + 2)) bi) (1153 + (r * 4 + 3)) ga = φ at S1 hk O1 el ⊢
  generalize rKR h A r s gi bi ga = g at S1 hk hR1 ⊢
  obtain ⟨S2, O2, L2, k2⟩ := sim_frL S1 O1 (by rw [el 4 (by decide)]; exact h4) 60 (Nat.le_refl _)
  have hE2 : Eq1 g (itr (frC (A + 5)) 60 g) (A + 5) := Eq1.it (fun n hn y => frC_eq (Or.inl (by omega)) hn)
  unfold er5 er6
  generalize itr frN 60 φ = ψ at S2 O2 L2 ⊢
  generalize itr (frC (A + 5)) 60 g = y at S2 k2 hE2 ⊢
  have hR2 : y.i (A + 5) 2 = nI r := (hE2.2.2.1 2).trans hR1
  have q5 : upF (upF ψ 7 (-1)) 9 (-1) 5 + 1 = lN (r + 1) := by rw [upF_n _ _ (by decide), upF_n _ _ (by decide), L2 5 (Or.inl (by decide)), el 5 (by decide), h5, lN_1]
  have hR3 : ((y.setI (A + 5) 4 (-1)).setI (A + 5) 5 (-1)).i (A + 5) 2 = nI r := ((up2_k _ _ (by decide)).trans (up2_k _ _ (by decide))).trans hR2
  have h4' : ¬ ψ 4 = 0 := by rw [L2 4 (Or.inl (by decide)), el 4 (by decide)]; exact h4
  rw [q5, hR3, nI_1]
  refine ⟨((S2.b4 (v := -1)).b5 (v := -1)).round hR3 (by omega) (fun i hi => ?_), ((O2.q7 h4' (Or.inl rfl)).q9 (by rw [upF_n _ _ (by decide)]; exact h4') (Or.inl rfl)).q5 (p := p) (by rw [upF_n _ _ (by decide), upF_n _ _ (by decide)]; exact h4') (by rw [upF_n _ _ (by decide), upF_n _ _ (by decide), L2 6 (Or.inl (by decide)), el 6 (by decide)]; exact h6) hp (by omega), upF_s _ _ _, fun k hk13 a5 a7 a9 => by rw [upF_n _ _ a5, upF_n _ _ a9, upF_n _ _ a7, L2 k (Or.inl hk13), el k (by omega)]⟩
  rw [upF_n _ _ (by omega), upF_n _ _ (by omega), L2 _ (Or.inr (by omega)), hk i hi]
  exact (congrFun k2 (r * 4 + i)).symm
/-- a round's end: after the book is kept -/
theorem so_drawF {k T r L : Nat} (S : Sm h A (A + 5) f) (O : Ok K f) (h4 : f 4 = 1) (hK : K + 1 ≤ 600) (hk : k < 4) (h0 : f 0 = lN k) (hT6 : T ≤ 60) (h12 : f 12 = lN T) (h5 : f 5 = lN r) (hr : r ≤ 60) (hL6 : L ≤ 60) (h10 : f 10 = lN L) (h56 : ¬ f 5 = f 6) : Sm (erT (coL A h) A k T r L) A (A + 5) (drawF f) ∧ Ok (K + 1) (drawF f) ∧ drawF f 5 = lN (r + 1) ∧ ∀ k, k < 13 → k ≠ 3 → k ≠ 5 → k ≠ 7 → k ≠ 9 → drawF f k = f k := by
  obtain ⟨p, hp1, hp9, ep⟩ := O.1.2.1
  obtain ⟨r', P, hrP, hP, er, e6⟩ := O.1.2.2.2.2.2.1
  have hrr : r' = r := (pk_lEQ (by omega) (by omega)).mp (er.symm.trans h5)
  subst hrr
  have hrP2 : r' < P := by
    rcases Nat.lt_or_ge r' P with z | z
    · exact z
    · exact absurd (by rw [h5, e6, show r' = P by omega]) h56
  obtain ⟨c, hc, e3⟩ := O.1.2.2.2.1
  have hc2 : c ≤ 600 * 10000000000 := Nat.le_trans hc (Nat.mul_le_mul_right _ (by omega))
  have hPm : cnt (isMem f) 60 = P := by
    have := cnt_le (isMem f) 60
    exact (pk_lEQ (by omega) (by omega)).mp ((O.2.1 (by rw [h4]; decide)).symm.trans e6)
  have C := so_collect S O h4 hK ep hp9 60 (Nat.le_refl _)
  unfold coL drawF
  rw [lacks_eq]
  generalize itr (coS A) 60 (h, 0) = a at C ⊢
  generalize itr lkS 60 (f, 0) = b at C ⊢
  obtain ⟨g, x⟩ := a
  obtain ⟨φ, y⟩ := b
  obtain ⟨S1, O1, l1, l2, l3, -, ex, yn, cn, ey, ec, hb, hdp⟩ := C
  dsimp only at S1 O1 l1 l2 l3 ex ey hdp ⊢
  have hgo : cnt (isGo f) 60 ≤ P := by
    rw [← hPm]
    exact cnt_sub (fun s hs => by unfold isGo at hs; rw [Bool.and_eq_true] at hs; exact hs.1) 60
  have hPp : P * p ≤ 600000000 := Nat.le_trans (Nat.mul_le_mul hP hp9) (by decide)
  have hxt : yn + cn ≤ P * p := Nat.le_trans hb (Nat.mul_le_mul_right _ hgo)
  have exx : x = lN (yn + cn) := by rw [ex, ey, ec, lN_add]
  have ein : cellSum φ y 60 = x := by rw [cellSum_sh (f := f) 60 (Nat.le_refl _) (fun s hs => l3 s hs 13 (by decide) (by decide) (by decide) (by decide) (by decide)), ex]
  rw [ein, exx]
  generalize yn + cn = tt at hxt ⊢
  have epu : pur φ = lN (P * p) := by unfold pur; rw [l1 6 (by decide), l1 1 (by decide), e6, ep, lN_mul]
  have e3' : φ 3 = lN c := (l1 3 (by decide)).trans e3
  have egv : (if φ 3 ≤ pur φ - lN tt then φ 3 else pur φ - lN tt) = lN (min c (P * p - tt)) := by
    rw [e3', epu, lN_sub hxt]
    exact mn_lN (by omega) (by omega)
  have egc : erGave g A (lN tt) = lN (min c (P * p - tt)) := by
    unfold erGave
    rw [purse_eq S1, ← show φ 3 = g.l (A + 5) 8 from S1.k 3 (by decide), e3', epu, lN_sub hxt]
    exact mn_lN (by omega) (by omega)
  unfold erT
  dsimp only
  rw [egv, egc]
  have hm1 : min c (P * p - tt) ≤ c := Nat.min_le_left _ _
  have hm2 : min c (P * p - tt) ≤ P * p - tt := Nat.min_le_right _ _
  generalize min c (P * p - tt) = gv at hm1 hm2 ⊢
  have kk : (K + 1 + 1) * 10000000000 = (K + 1) * 10000000000 + 10000000000 := Nat.succ_mul _ _
  have S2 : Sm (er2 g A (lN gv)) A (A + 5) (upF φ 3 (φ 3 + -lN gv)) := by
    unfold er2
    rw [← show φ 3 = g.l (A + 5) 8 from S1.k 3 (by decide), Int64.sub_eq_add_neg]
    exact S1.bl8
  have O2 : Ok (K + 1) (upF φ 3 (φ 3 + -lN gv)) := O1.q3 ⟨c - gv, by omega, by rw [e3', ← Int64.sub_eq_add_neg, lN_sub hm1]⟩
  have ev3 : upF φ 3 (φ 3 + -lN gv) 3 = lN (c - gv) := by rw [upF_s, e3', ← Int64.sub_eq_add_neg, lN_sub hm1]
  have eo : ∀ j, j ≠ 3 → j < 13 → upF φ 3 (φ 3 + -lN gv) j = f j := fun j h1 h2 => (upF_n _ _ h1).trans (l1 j h2)
  have hdp2 : ∀ s, s < 60 → ∃ d, d ≤ K * 10000000000 ∧ upF φ 3 (φ 3 + -lN gv) (ix s 7) = lN d := fun s hs => by rw [upF_n _ _ (ix_low (by decide))]; exact hdp s hs
  generalize er2 g A (lN gv) = g2 at S2 ⊢
  generalize upF φ 3 (φ 3 + -lN gv) = φ2 at S2 O2 ev3 eo hdp2 ⊢
  have h42 : φ2 4 = 1 := (eo 4 (by decide) (by decide)).trans h4
  have hw : rWho g2 A T r' L k = woI (who φ2) := so_who S2 O2 (by rw [h42]; decide) hk ((eo 0 (by decide) (by decide)).trans h0) ((t64_n (by omega)).mp ((S2.k 12 (by decide)).symm.trans ((eo 12 (by decide) (by decide)).trans h12))) hT6 ((eo 12 (by decide) (by decide)).trans h12) ((t64_n (by omega)).mp ((S2.k 5 (by decide)).symm.trans ((eo 5 (by decide) (by decide)).trans h5))) ((eo 5 (by decide) (by decide)).trans h5) hr ((t64_n (by omega)).mp ((S2.k 10 (by decide)).symm.trans ((eo 10 (by decide) (by decide)).trans h10))) ((eo 10 (by decide) (by decide)).trans h10) hL6
  unfold erU
  rw [hw, lN_add]
  cases hwh : who φ2 with
  | none =>
    dsimp only
    rw [show woI none = -1 from rfl]
    have eH : rHand g2 A (-1) (lN (tt + gv)) = (0, g2.setL (A + 5) 8 (g2.l (A + 5) 8 + lN (tt + gv))) := by
      unfold rHand
      rw [show sN (-1 : Int32) = none by decide]
    rw [eH]
    dsimp only
    have S3 : Sm (g2.setL (A + 5) 8 (g2.l (A + 5) 8 + lN (tt + gv))) A (A + 5) (upF φ2 3 (φ2 3 + lN (tt + gv))) := by
      rw [← show φ2 3 = g2.l (A + 5) 8 from S2.k 3 (by decide)]
      exact S2.bl8
    have O3 : Ok (K + 1) (upF φ2 3 (φ2 3 + lN (tt + gv))) := O2.q3 ⟨c - gv + (tt + gv), by omega, by rw [ev3, lN_add]⟩
    have E := so_end (s := -1) (gi := lN (tt + gv)) (bi := 0) (ga := lN gv) S3 O3 (by rw [upF_n _ _ (by decide), h42]; decide) ((upF_n _ _ (by decide)).trans ((eo 5 (by decide) (by decide)).trans h5)) ((upF_n _ _ (by decide)).trans ((eo 6 (by decide) (by decide)).trans e6)) hrP2 hP
    exact ⟨E.1, E.2.1, E.2.2.1, fun k hk a3 a5 a7 a9 => (E.2.2.2 k hk a5 a7 a9).trans ((upF_n _ _ a3).trans (eo k a3 hk))⟩
  | some b =>
    obtain ⟨hb6, hab⟩ := who_able O2 hwh
    dsimp only
    rw [show woI (some b) = nI b from rfl]
    obtain ⟨q1, S3, O3, l3'⟩ := so_hand (gv := tt + gv) S2 O2 h42 hb6 hab (by omega) (by omega) hdp2
    rw [q1, ← nI_l (show b < 2 ^ 31 by omega)]
    have E := so_end (s := nI b) (gi := lN (tt + gv)) (bi := dBid φ2 b (lN (tt + gv))) (ga := lN gv) S3 O3 (by rw [l3' 4 (Or.inl (by decide)), h42]; decide) ((l3' 5 (Or.inl (by decide))).trans ((eo 5 (by decide) (by decide)).trans h5)) ((l3' 6 (Or.inl (by decide))).trans ((eo 6 (by decide) (by decide)).trans e6)) hrP2 hP
    exact ⟨E.1, E.2.1, E.2.2.1, fun k hk a3 a5 a7 a9 => (E.2.2.2 k hk a5 a7 a9).trans ((l3' k (Or.inl hk)).trans (eo k a3 hk))⟩
end

