/-! the class: a round ended; what is kept of it -/
def erGave (g : Hp) (A : Nat) (x : Int64) : Int64 := mn64 (g.l (A + 5) 8) (g.l A 1 * (g.i (A + 5) 3).toInt64 - x)
def er2 (g : Hp) (A : Nat) (x : Int64) : Hp := g.setL (A + 5) 8 (g.l (A + 5) 8 - x)
def er5 (g : Hp) (A : Nat) : Hp := ((itr (frC (A + 5)) 60 g).setI (A + 5) 4 (-1)).setI (A + 5) 5 (-1)
def er6 (g : Hp) (A : Nat) : Hp := g.setI (A + 5) 2 (g.i (A + 5) 2 + 1)
def erU (g : Hp) (A k T r L : Nat) (x gave : Int64) : Hp := er6 (er5 (rKR (rHand g A (rWho g A T r L k) (x + gave)).2 A r (rWho g A T r L k) (x + gave) (rHand g A (rWho g A T r L k) (x + gave)).1 gave) A) A
def erT (w : Hp × Int64) (A k T r L : Nat) : Hp := erU (er2 w.1 A (erGave w.1 A w.2)) A k T r L w.2 (erGave w.1 A w.2)
def rEnd (h : Hp) (A k T r L : Nat) : Int32 × Hp := if h.i (A + 5) 1 = 1 then (if bLeft h (A + 5) = true then (0, erT (coL A (rKeep h A r)) A k T r L) else (8, h)) else (2, h)
theorem frK {B : Nat} {h : Hp} (N : Nat) : (itr (frC B) N h).1 = h.1 := itr_keep (step := frC B) (fun y : Hp => y.1) (fun _ _ => rfl) h N
theorem rHand_sh {A : Nat} {s : Int32} {c : Int64} {h : Hp} : (rHand h A s c).2.1 = h.1 := by
  unfold rHand
  split
  · rfl
  · unfold rHand2
    show (rRepay _ _ _ _).2.1 = _
    rw [rRepay_sh, rShare_sh]
theorem Eq1.rsh {h g : Hp} {A : Nat} (he : ∀ x, A ≤ x → x < A + 68 → x ≠ A + 67 → Eq1 h g x) (h67 : g.kd (A + 67) = h.kd (A + 67)) (hA : RSh h.1 A) : RSh g.1 A := by
  obtain ⟨a1, ⟨a2, a3⟩, ⟨a4, a5⟩, ⟨a6, a7⟩, ⟨a8, a9⟩, ⟨b1, b2⟩, ⟨b3, b4⟩⟩ := hA
  have e := he A (by omega) (by omega) (by omega)
  exact ⟨e.1.trans a1, ⟨(e.2.1 3).trans a2, (he (A + 1) (by omega) (by omega) (by omega)).1.trans a3⟩, ⟨(e.2.1 5).trans a4, (he (A + 2) (by omega) (by omega) (by omega)).1.trans a5⟩, ⟨(e.2.1 6).trans a6, (he (A + 3) (by omega) (by omega) (by omega)).1.trans a7⟩, ⟨(e.2.1 7).trans a8, (he (A + 4) (by omega) (by omega) (by omega)).1.trans a9⟩, ⟨(e.2.1 8).trans b1, Eq1.bsh (fun x h1 h2 => he x (by omega) (by omega) (by omega)) b2⟩, ⟨(e.2.1 9).trans b3, h67.trans b4⟩⟩
theorem er5_sh {g : Hp} {A : Nat} : (er5 g A).1 = g.1 := by
  unfold er5
  have q := frK (B := A + 5) (h := g) 60
  generalize itr (frC (A + 5)) 60 g = y at q ⊢
  exact q
section
variable {cx : Cx} {h : Hp} {A : Nat}
theorem rKeep_67 {r : Nat} (hlt : A + 68 ≤ h.n) (hb : ∀ b, h.r (A + 67) r = some b → b + 62 ≤ A ∨ A + 68 ≤ b) : (rKeep h A r).kd (A + 67) = h.kd (A + 67) := by
  unfold rKeep
  cases hm : h.r (A + 67) r with
  | none =>
    have e : (cpBk h.n (A + 5) (kbN h A r)).1 = (kbN h A r).1 := cpBk_sh
    have e2 : (kbN h A r).kd (A + 67) = h.kd (A + 67) := (bkN_eq (h := h.new (10 + 0) 0) (B := h.n) (x := A + 67) (by exact new_kn) rfl (by omega)).1.trans (Eq1.new (by omega)).1
    dsimp only
    generalize kbN h A r = g at e e2 ⊢
    generalize cpBk h.n (A + 5) g = y at e ⊢
    show y.1.2.1 (A + 67) = _
    rw [e]
    exact e2
  | some b =>
    have e : (cpBk b (A + 5) h).1 = h.1 := cpBk_sh
    exact congrArg (fun s : Sh => s.2.1 (A + 67)) e
theorem rKeep_rsh {r : Nat} (hA : RSh h.1 A) (hlt : A + 68 ≤ h.n) (hb : ∀ b, h.r (A + 67) r = some b → b + 62 ≤ A ∨ A + 68 ≤ b) : RSh (rKeep h A r).1 A :=
  Eq1.rsh (fun x h1 h2 h3 => rKeep_eq (by omega) h3 (fun b hm => by have := hb b hm; omega)) (rKeep_67 hlt hb) hA
theorem t_endRound {k T r L : Nat} (hA : RSh h.1 A) (hK : h.i A 0 = nI k) (hk4 : k < 4) (hT : h.i A 4 = nI T) (hT6 : T ≤ 60) (hR : h.i (A + 5) 2 = nI r) (hr : r ≤ 60) (hL : h.i (A + 5) 6 = nI L) (hL6 : L ≤ 60) (hlt : A + 68 ≤ h.n) (hpl : ∀ i, i < 60 → plB h (A + 5 + 2 + i)) (hb : ∀ b, h.r (A + 67) r = some b → BSh h.1 b ∧ (b + 62 ≤ A ∨ A + 68 ≤ b)) :
    Sp cx mX2_endRound 7 62 1150 h [.ref A] (Ri fun y g => y = (rEnd h A k T r L).1 ∧ g = (rEnd h A k T r L).2) := by
  have hB := hA.2.2.2.2.2.1.2
  refine Sp.ofQ 9 (by decide) (Nat.le_of_ble_eq_true rfl) rfl (fun Q hQ => ?_)
  unfold rEnd at hQ
  have L1 : h.i (A + 5) 1 = 1 → bLeft h (A + 5) = true → r < 60 → J cx mX2_endRound (Rm 7 62 1150) (rKeep h A r) 30 [some (.ref A), none, none, none, none, none, none, none, none, none] [] 0 0 Q := by
    intro h1 h2 hr6
    rw [if_pos h1, if_pos h2] at hQ
    have hA1 := rKeep_rsh (r := r) hA hlt (fun b hm => (hb b hm).2)
    have eA : Eq1 h (rKeep h A r) A := rKeep_eq (by omega) (by omega) (fun b hm => by have := (hb b hm).2; omega)
    have eB : Eq1 h (rKeep h A r) (A + 5) := rKeep_eq (by omega) (by omega) (fun b hm => by have := (hb b hm).2; omega)
    have hK := (eA.2.2.1 0).trans hK
    have hT := (eA.2.2.1 4).trans hT
    have hR := (eB.2.2.1 2).trans hR
    have hL := (eB.2.2.1 6).trans hL
    clear eA eB
    generalize rKeep h A r = g at hA1 hK hT hR hL hQ ⊢
    have S1 := t_collect (cx := cx) hA1
    have hA2 : RSh (coL A g).1.1 A := by rw [coL_sh]; exact hA1
    have eA : Eq1 g (coL A g).1 A := coL_eq (Or.inl (by omega))
    have eB : Eq1 g (coL A g).1 (A + 5) := coL_eq (Or.inl (by omega))
    have hK := (eA.2.2.1 0).trans hK
    have hT := (eA.2.2.1 4).trans hT
    have hR := (eB.2.2.1 2).trans hR
    have hL := (eB.2.2.1 6).trans hL
    clear eA eB
    generalize coL A g = w at S1 hA2 hK hT hR hL hQ
    obtain ⟨w1, w2⟩ := w
    unfold erT at hQ
    dsimp only at S1 hA2 hK hT hR hL hQ
    have S2 := t_purse (cx := cx) hA2
    have S3 : DL cx mJ9_min_f86c9 0 w1 [.long (w1.l (A + 5) 8), .long (w1.l A 1 * (w1.i (A + 5) 3).toInt64 - w2)] (erGave w1 A w2) w1 := s_min _ _
    generalize erGave w1 A w2 = gv at S3 hQ
    have hA3 : RSh (er2 w1 A gv).1 A := hA2
    have hK3 : (er2 w1 A gv).i A 0 = nI k := hK
    have hT3 : (er2 w1 A gv).i A 4 = nI T := hT
    have hR3 : (er2 w1 A gv).i (A + 5) 2 = nI r := hR
    have hL3 : (er2 w1 A gv).i (A + 5) 6 = nI L := hL
    have L2 : J cx mX2_endRound (Rm 7 62 1150) (er2 w1 A gv) 65 [some (.ref A), some (.long w2), none, some (.long gv), none, none, none, none, none, none] [] 0 0 Q := by
      generalize er2 w1 A gv = g2 at hA3 hK3 hT3 hR3 hL3 hQ ⊢
      unfold erU at hQ
      have S4 := t_whoDraws (cx := cx) hA3 hK3 hk4 hT3 hT6 hR3 (by omega) hL3 hL6
      generalize rWho g2 A T r L k = wh at S4 hQ
      have S5 := t_handOut (cx := cx) (s := wh) (c := w2 + gv) hA3
      have hA4 : RSh (rHand g2 A wh (w2 + gv)).2.1 A := by rw [rHand_sh]; exact hA3
      have hR4 : (rHand g2 A wh (w2 + gv)).2.i (A + 5) 2 = nI r := rHand_iB.trans hR3
      generalize rHand g2 A wh (w2 + gv) = y at S5 hA4 hR4 hQ
      have S6 := t_keepRound (cx := cx) (s := wh) (x := w2 + gv) (y := y.1) (z := gv) hA4 hR4 hr6
      have hA5 : RSh (rKR y.2 A r wh (w2 + gv) y.1 gv).1 A := hA4
      generalize rKR y.2 A r wh (w2 + gv) y.1 gv = g5 at S6 hA5 hQ
      have S7 : DV cx mX0_forgetRound 1 g5 [.ref (A + 5)] (er5 g5 A) := t_forgetRound (cx := cx) hA5.2.2.2.2.2.1.2
      have hA6 : RSh (er5 g5 A).1 A := by rw [er5_sh]; exact hA5
      generalize er5 g5 A = g6 at S7 hA6 hQ
      have hA := hA3
      refine j_lload1 (pc := 65) dX2_endRound_65 ?_
      refine j_lload3 (pc := 66) dX2_endRound_66 ?_
      refine j_ladd (pc := 67) dX2_endRound_67 ?_
      refine j_lstore5 (pc := 68) dX2_endRound_68 (by decide) trivial ?_
      refine j_aload0 (pc := 70) dX2_endRound_70 ?_
      refine cd_X2_226 (pc := 71) rfl (S4) hA.1 dX2_endRound_71 rfl rfl ?_
      refine j_istore7 (pc := 74) dX2_endRound_74 (by decide) trivial ?_
      refine j_aload0 (pc := 76) dX2_endRound_76 ?_
      refine j_iload7 (pc := 77) dX2_endRound_77 ?_
      refine j_lload5 (pc := 79) dX2_endRound_79 ?_
      refine cd_X2_229 (pc := 81) rfl (S5) hA.1 dX2_endRound_81 rfl rfl ?_
      refine j_lstore8 (pc := 84) dX2_endRound_84 (by decide) trivial ?_
      have hA := hA4
      refine j_aload0 (pc := 86) dX2_endRound_86 ?_
      refine j_iload7 (pc := 87) dX2_endRound_87 ?_
      refine j_lload5 (pc := 89) dX2_endRound_89 ?_
      refine j_lload8 (pc := 91) dX2_endRound_91 ?_
      refine j_lload3 (pc := 93) dX2_endRound_93 ?_
      refine cd_X2_233 (pc := 94) rfl (S6) hA.1 dX2_endRound_94 rfl rfl ?_
      have hA := hA5
      refine j_aload0 (pc := 97) dX2_endRound_97 ?_
      refine g_X2_42 (pc := 98) rfl hA.1 hA.2.2.2.2.2.1.1 dX2_endRound_98 ?_
      refine cd_X2_236 (pc := 101) rfl (S7) hA.2.2.2.2.2.1.2.1 dX2_endRound_101 rfl rfl ?_
      have hA := hA6
      refine j_aload0 (pc := 104) dX2_endRound_104 ?_
      refine g_X2_42 (pc := 105) rfl hA.1 hA.2.2.2.2.2.1.1 dX2_endRound_105 ?_
      refine j_dup (pc := 108) dX2_endRound_108 ?_
      refine g_X2_76 (pc := 109) rfl hA.2.2.2.2.2.1.2.1 dX2_endRound_109 ?_
      refine j_iconst (pc := 112) (v := 1) dX2_endRound_112 (by decide) ?_
      refine j_iadd (pc := 113) dX2_endRound_113 ?_
      refine p_X2_76 (pc := 114) rfl hA.2.2.2.2.2.1.2.1 dX2_endRound_114 ?_
      show J cx mX2_endRound _ (er6 g6 A) _ _ _ _ _ _
      refine j_iconst (pc := 117) (v := 0) dX2_endRound_117 (by decide) ?_
      refine j_iret (pc := 118) dX2_endRound_118 rfl rfl ?_
      exact hQ _ _ ⟨_, rfl, rfl, rfl⟩
    have hA := hA1
    refine j_aload0 (pc := 30) dX2_endRound_30 ?_
    refine cd_X2_217 (pc := 31) rfl (S1) hA.1 dX2_endRound_31 rfl rfl ?_
    have hA := hA2
    refine j_lstore1 (pc := 34) dX2_endRound_34 (by decide) trivial ?_
    refine j_aload0 (pc := 35) dX2_endRound_35 ?_
    refine g_X2_42 (pc := 36) rfl hA.1 hA.2.2.2.2.2.1.1 dX2_endRound_36 ?_
    refine g_X2_46 (pc := 39) rfl hA.2.2.2.2.2.1.2.1 dX2_endRound_39 ?_
    refine j_aload0 (pc := 42) dX2_endRound_42 ?_
    refine cd_X2_195 (pc := 43) rfl (S2) hA.1 dX2_endRound_43 rfl rfl ?_
    refine j_lload1 (pc := 46) dX2_endRound_46 ?_
    refine j_lsub (pc := 47) dX2_endRound_47 ?_
    refine cd_X2_220 (pc := 48) rfl (S3) dX2_endRound_48 rfl rfl ?_
    refine j_lstore3 (pc := 51) dX2_endRound_51 (by decide) trivial ?_
    refine j_aload0 (pc := 52) dX2_endRound_52 ?_
    refine g_X2_42 (pc := 53) rfl hA.1 hA.2.2.2.2.2.1.1 dX2_endRound_53 ?_
    refine j_dup (pc := 56) dX2_endRound_56 ?_
    refine g_X2_46 (pc := 57) rfl hA.2.2.2.2.2.1.2.1 dX2_endRound_57 ?_
    refine j_lload3 (pc := 60) dX2_endRound_60 ?_
    refine j_lsub (pc := 61) dX2_endRound_61 ?_
    refine p_X2_46 (pc := 62) rfl hA.2.2.2.2.2.1.2.1 dX2_endRound_62 ?_
    exact L2
  have S := t_keepBook (cx := cx) (r := r) hA hR
  refine j_aload0 (pc := 0) dX2_endRound_0 ?_
  refine g_X2_42 (pc := 1) rfl hA.1 hA.2.2.2.2.2.1.1 dX2_endRound_1 ?_
  refine g_X2_85 (pc := 4) rfl hA.2.2.2.2.2.1.2.1 dX2_endRound_4 ?_
  refine j_iconst (pc := 7) (v := 1) dX2_endRound_7 (by decide) ?_
  refine j_icmp_eq (pc := 8) (tgt := 13) dX2_endRound_8 (by decide) (fun c8 => ?_) (fun c8 => ?_)
  · refine j_aload0 (pc := 13) dX2_endRound_13 ?_
    refine g_X2_42 (pc := 14) rfl hA.1 hA.2.2.2.2.2.1.1 dX2_endRound_14 ?_
    refine cd_X2_148 (pc := 17) rfl (t_roundIsLeft hB) hA.2.2.2.2.2.1.2.1 dX2_endRound_17 rfl rfl ?_
    refine j_bif_ne (pc := 20) (tgt := 26) dX2_endRound_20 (by decide) (fun c20 => ?_) (fun c20 => ?_)
    · have hr6 : r < 60 := by have z := c20; unfold bLeft at z; rw [hR, Bool.and_eq_true, decide_eq_true_eq, decide_eq_true_eq] at z; exact (nI_ltI (by omega) (by omega)).mp z.2
      refine j_aload0 (pc := 26) dX2_endRound_26 ?_
      refine cs_X2_214 (pc := 27) rfl (S hr6 hlt hpl (fun b hm => ⟨(hb b hm).1, by have := (hb b hm).2; omega⟩)) hA.1 dX2_endRound_27 rfl rfl (by decide) (by decide) (fun h' q => ?_)
      subst q
      exact L1 c8 c20 hr6
    · refine j_bipush (pc := 23) (v := 8) dX2_endRound_23 (by decide) ?_
      refine j_iret (pc := 25) dX2_endRound_25 rfl rfl ?_
      exact hQ _ _ ⟨_, rfl, by rw [if_pos c8, if_neg (by rw [c20]; decide)], by rw [if_pos c8, if_neg (by rw [c20]; decide)]⟩
  · refine j_iconst (pc := 11) (v := 2) dX2_endRound_11 (by decide) ?_
    refine j_iret (pc := 12) dX2_endRound_12 rfl rfl ?_
    exact hQ _ _ ⟨_, rfl, by rw [if_neg c8], by rw [if_neg c8]⟩
theorem t_keptOf {k w : Int32} {r : Nat} (hA : RSh h.1 A) (hR : h.i (A + 5) 2 = nI r) (hr : r ≤ 60) : DL cx mX2_keptOf 1 h [.ref A, .int k, .int w] (if ¬ k < 0 ∧ k < nI r ∧ wn w.toInt64 0 3 = true then h.l (A + 3) (k.toNatClampNeg * 4 + w.toNatClampNeg) else -1) h := by
  by_cases hk : ¬ k < 0 ∧ k < nI r
  · obtain ⟨j, hj, rfl⟩ : ∃ j : Nat, j < r ∧ k = nI j := by
      rcases pk_ix k (n := r) (by omega) with z | z | ⟨j, hj, rfl⟩
      · exact absurd z hk.1
      · exact absurd hk.2 (Int32.not_lt.mpr z)
      · exact ⟨j, hj, rfl⟩
    by_cases hw : wn w.toInt64 0 3 = true
    · rw [if_pos ⟨hk.1, hk.2, hw⟩]
      obtain ⟨v, hv, rfl⟩ : ∃ v : Nat, v < 4 ∧ w = nI v := by
        have z := hw
        unfold wn at z
        rw [Bool.and_eq_true, decide_eq_true_eq, decide_eq_true_eq] at z
        have z1 := Int64.le_iff_toInt_le.mp z.1
        have z2 := Int64.le_iff_toInt_le.mp z.2
        rw [Int32.toInt_toInt64] at z1 z2
        rcases pk_ix w (n := 4) (by decide) with y | y | ⟨j, hj, rfl⟩
        · have := Int32.lt_iff_toInt_lt.mp y
          rw [show (0 : Int32).toInt = 0 from rfl] at this
          rw [show (0 : Int64).toInt = 0 from rfl] at z1
          omega
        · have := Int32.le_iff_toInt_le.mp y
          rw [show (nI 4).toInt = 4 from rfl] at this
          rw [show (3 : Int64).toInt = 3 from rfl] at z2
          omega
        · exact ⟨j, hj, rfl⟩
      rw [nI_clamp (show j < 2 ^ 31 by omega), nI_clamp (show v < 2 ^ 31 by omega)]
      refine Sp.of 1 (by decide) (Nat.le_of_ble_eq_true rfl) rfl ?_
      refine j_iload1 (pc := 0) dX2_keptOf_0 ?_
      refine j_if_lt (pc := 1) (tgt := 37) dX2_keptOf_1 (by decide) (fun c1 => by exact absurd c1 (nI_pos (by omega))) (fun c1 => ?_)
      refine j_iload1 (pc := 4) dX2_keptOf_4 ?_
      refine j_aload0 (pc := 5) dX2_keptOf_5 ?_
      refine g_X2_42 (pc := 6) rfl hA.1 hA.2.2.2.2.2.1.1 dX2_keptOf_6 ?_
      refine g_X2_76 (pc := 9) rfl hA.2.2.2.2.2.1.2.1 dX2_keptOf_9 ?_
      rw [hR]
      refine j_icmpN_ge (pc := 12) (tgt := 37) (by first | decide | omega) (by first | decide | omega) dX2_keptOf_12 (by decide) (fun c12 => by omega) (fun c12 => ?_)
      refine j_iload1 (pc := 15) dX2_keptOf_15 ?_
      refine j_bipush (pc := 16) (v := nI 60) dX2_keptOf_16 (by decide) ?_
      refine j_icmpN_ge (pc := 18) (tgt := 37) (by first | decide | omega) (by first | decide | omega) dX2_keptOf_18 (by decide) (fun c18 => by omega) (fun c18 => ?_)
      refine j_iload2 (pc := 21) dX2_keptOf_21 ?_
      refine j_i2l (pc := 22) dX2_keptOf_22 ?_
      refine j_lconst (pc := 23) (v := 0) dX2_keptOf_23 (by decide) ?_
      refine j_ldc2 (pc := 24) dX2_keptOf_24 wT_kl_X2_303 ?_
      refine cd_X2_94 (pc := 27) rfl (t_within) dX2_keptOf_27 rfl rfl ?_
      refine j_bif_eq (pc := 30) (tgt := 37) dX2_keptOf_30 (by decide) (fun c30 => by (rw [hw] at c30; cases c30)) (fun c30 => ?_)
      refine j_iconst (pc := 33) (v := 1) dX2_keptOf_33 (by decide) ?_
      refine j_goto (pc := 34) (tgt := 38) dX2_keptOf_34 (by decide) ?_
      refine j_istore3 (pc := 38) dX2_keptOf_38 (by decide) trivial ?_
      refine j_iload3 (pc := 39) dX2_keptOf_39 ?_
      refine j_if_eq (pc := 40) (tgt := 56) dX2_keptOf_40 (by decide) (fun c40 => by exact absurd c40 (by decide)) (fun c40 => ?_)
      refine j_aload0 (pc := 43) dX2_keptOf_43 ?_
      refine g_X2_29 (pc := 44) rfl hA.1 hA.2.2.2.1.1 dX2_keptOf_44 ?_
      refine j_iload1 (pc := 47) dX2_keptOf_47 ?_
      refine j_iconst (pc := 48) (v := nI 4) dX2_keptOf_48 (by decide) ?_
      refine j_imulN (pc := 49) dX2_keptOf_49 ?_
      refine j_iload2 (pc := 50) dX2_keptOf_50 ?_
      refine j_iaddN (pc := 51) dX2_keptOf_51 ?_
      refine j_lald (pc := 52) hA.2.2.2.1.2 (pk_in (j * 4 + v) 240 (by omega) rfl) dX2_keptOf_52 ?_
      rw [nI_clamp (show j * 4 + v < 2 ^ 31 by omega)]
      refine j_goto (pc := 53) (tgt := 59) dX2_keptOf_53 (by decide) ?_
      refine j_lret (pc := 59) dX2_keptOf_59 rfl ?_
      exact ⟨_, rfl, rfl, rfl⟩
    · rw [if_neg (fun z => hw z.2.2)]
      refine Sp.of 1 (by decide) (Nat.le_of_ble_eq_true rfl) rfl ?_
      refine j_iload1 (pc := 0) dX2_keptOf_0 ?_
      refine j_if_lt (pc := 1) (tgt := 37) dX2_keptOf_1 (by decide) (fun c1 => by exact absurd c1 (nI_pos (by omega))) (fun c1 => ?_)
      refine j_iload1 (pc := 4) dX2_keptOf_4 ?_
      refine j_aload0 (pc := 5) dX2_keptOf_5 ?_
      refine g_X2_42 (pc := 6) rfl hA.1 hA.2.2.2.2.2.1.1 dX2_keptOf_6 ?_
      refine g_X2_76 (pc := 9) rfl hA.2.2.2.2.2.1.2.1 dX2_keptOf_9 ?_
      rw [hR]
      refine j_icmpN_ge (pc := 12) (tgt := 37) (by first | decide | omega) (by first | decide | omega) dX2_keptOf_12 (by decide) (fun c12 => by omega) (fun c12 => ?_)
      refine j_iload1 (pc := 15) dX2_keptOf_15 ?_
      refine j_bipush (pc := 16) (v := nI 60) dX2_keptOf_16 (by decide) ?_
      refine j_icmpN_ge (pc := 18) (tgt := 37) (by first | decide | omega) (by first | decide | omega) dX2_keptOf_18 (by decide) (fun c18 => by omega) (fun c18 => ?_)
      refine j_iload2 (pc := 21) dX2_keptOf_21 ?_
      refine j_i2l (pc := 22) dX2_keptOf_22 ?_
      refine j_lconst (pc := 23) (v := 0) dX2_keptOf_23 (by decide) ?_
      refine j_ldc2 (pc := 24) dX2_keptOf_24 wT_kl_X2_303 ?_
      refine cd_X2_94 (pc := 27) rfl (t_within) dX2_keptOf_27 rfl rfl ?_
      refine j_bif_eq (pc := 30) (tgt := 37) dX2_keptOf_30 (by decide) (fun c30 => ?_) (fun c30 => by exact absurd c30 hw)
      refine j_iconst (pc := 37) (v := 0) dX2_keptOf_37 (by decide) ?_
      refine j_istore3 (pc := 38) dX2_keptOf_38 (by decide) trivial ?_
      refine j_iload3 (pc := 39) dX2_keptOf_39 ?_
      refine j_if_eq (pc := 40) (tgt := 56) dX2_keptOf_40 (by decide) (fun c40 => ?_) (fun c40 => by exact absurd rfl c40)
      refine j_ldc2 (pc := 56) dX2_keptOf_56 wT_kl_X2_271 ?_
      refine j_lret (pc := 59) dX2_keptOf_59 rfl ?_
      exact ⟨_, rfl, rfl, rfl⟩
  · rw [if_neg (fun z => hk ⟨z.1, z.2.1⟩)]
    refine Sp.of 1 (by decide) (Nat.le_of_ble_eq_true rfl) rfl ?_
    refine j_iload1 (pc := 0) dX2_keptOf_0 ?_
    refine j_if_lt (pc := 1) (tgt := 37) dX2_keptOf_1 (by decide) (fun c1 => ?_) (fun c1 => ?_)
    · refine j_iconst (pc := 37) (v := 0) dX2_keptOf_37 (by decide) ?_
      refine j_istore3 (pc := 38) dX2_keptOf_38 (by decide) trivial ?_
      refine j_iload3 (pc := 39) dX2_keptOf_39 ?_
      refine j_if_eq (pc := 40) (tgt := 56) dX2_keptOf_40 (by decide) (fun c40 => ?_) (fun c40 => by exact absurd rfl c40)
      refine j_ldc2 (pc := 56) dX2_keptOf_56 wT_kl_X2_271 ?_
      refine j_lret (pc := 59) dX2_keptOf_59 rfl ?_
      exact ⟨_, rfl, rfl, rfl⟩
    · refine j_iload1 (pc := 4) dX2_keptOf_4 ?_
      refine j_aload0 (pc := 5) dX2_keptOf_5 ?_
      refine g_X2_42 (pc := 6) rfl hA.1 hA.2.2.2.2.2.1.1 dX2_keptOf_6 ?_
      refine g_X2_76 (pc := 9) rfl hA.2.2.2.2.2.1.2.1 dX2_keptOf_9 ?_
      rw [hR]
      refine j_icmp_ge (pc := 12) (tgt := 37) dX2_keptOf_12 (by decide) (fun c12 => ?_) (fun c12 => by exact absurd ⟨c1, Int32.not_le.mp c12⟩ hk)
      refine j_iconst (pc := 37) (v := 0) dX2_keptOf_37 (by decide) ?_
      refine j_istore3 (pc := 38) dX2_keptOf_38 (by decide) trivial ?_
      refine j_iload3 (pc := 39) dX2_keptOf_39 ?_
      refine j_if_eq (pc := 40) (tgt := 56) dX2_keptOf_40 (by decide) (fun c40 => ?_) (fun c40 => by exact absurd rfl c40)
      refine j_ldc2 (pc := 56) dX2_keptOf_56 wT_kl_X2_271 ?_
      refine j_lret (pc := 59) dX2_keptOf_59 rfl ?_
      exact ⟨_, rfl, rfl, rfl⟩
end

