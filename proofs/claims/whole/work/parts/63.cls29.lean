/-! the class: what is told of the stops; a ring closed -/
def stV (h : Hp) (A q : Nat) (w : Int32) : Int64 := if w = 0 then (h.i q 0).toInt64 else if w = 1 then (h.i q 1).toInt64 else if w = 2 then h.l q 2 else if w = 3 then h.l q 3 else if w = 4 then (if h.i (A + 5) 1 = 2 then h.l q 4 else 0) else -1
def rStopOf (h : Hp) (A c : Nat) (k w : Int32) : Int64 := if ¬ k < 0 ∧ k < nI c then (match h.r (A + 4) k.toNatClampNeg with | none => -1 | some q => stV h A q w) else -1
/-- the stops told of are there -/
def StK (s : Sh) (A c : Nat) : Prop := ∀ i, i < c → ∃ q, s.2.2 (A + 4) i = some q ∧ s.2.1 q = kObj 3
def ps1 (h : Hp) (A : Nat) (x : Int64) : Hp := h.setL (A + 5) 8 (h.l (A + 5) 8 - x)
def ps2 (h : Hp) (q : Nat) (x : Int64) : Hp := h.setL q 4 (h.l q 2 - x)
def psS (A i : Nat) (h : Hp) : Hp := match h.r (A + 4) i with | none => h | some q => ps2 (ps1 h A (mn64 (h.l q 2) (h.l (A + 5) 8))) q (mn64 (h.l q 2) (h.l (A + 5) 8))
theorem psS_sh {A i : Nat} {h : Hp} : (psS A i h).1 = h.1 := by
  unfold psS
  split <;> rfl
theorem psK {A : Nat} {h : Hp} (N : Nat) : (itr (psS A) N h).1 = h.1 := itr_keep (step := psS A) (fun y : Hp => y.1) (fun _ _ => psS_sh) h N
def cFul (h : Hp) (B : Nat) : Nat := cnt (fun i => decide (¬ h.i (B + 2 + i) 5 = 0)) 60
def scS (A : Nat) (part : Int64) (i : Nat) (x : Hp × Int64) : Hp × Int64 := if x.1.i (A + 5 + 2 + i) 5 = 0 then x else (x.1.setL (A + 5 + 2 + i) 12 (x.1.l (A + 5 + 2 + i) 12 + (if 0 < x.2 then part + 1 else part)), x.2 - 1)
def scL (A : Nat) (part : Int64) (x : Hp × Int64) : Hp × Int64 := itr (scS A part) 60 x
theorem scS_sh {A i : Nat} {part : Int64} {x : Hp × Int64} : (scS A part i x).1.1 = x.1.1 := by
  unfold scS
  split <;> rfl
theorem scK {A : Nat} {part : Int64} {x : Hp × Int64} (N : Nat) : (itr (scS A part) N x).1.1 = x.1.1 := itr_keep (step := scS A part) (fun y : Hp × Int64 => y.1.1) (fun _ _ => scS_sh) x N
theorem scL_sh {A : Nat} {part : Int64} {x : Hp × Int64} : (scL A part x).1.1 = x.1.1 := by
  unfold scL
  rw [scK]
def rCh1 (h : Hp) (A : Nat) (n : Int64) : Hp := (scL A (h.l (A + 5) 8 / n) (h, h.l (A + 5) 8 - h.l (A + 5) 8 / n * n)).1.setL (A + 5) 8 0
def rChest (h : Hp) (A : Nat) : Hp := if 0 < nI (cFul h (A + 5)) then rCh1 h A (nI (cFul h (A + 5))).toInt64 else h
def dbS (B i : Nat) (h : Hp) : Hp := pDep h (B + 2 + i)
theorem dbK {B : Nat} {h : Hp} (N : Nat) : (itr (dbS B) N h).1 = h.1 := itr_keep (step := dbS B) (fun y : Hp => y.1) (fun _ _ => rfl) h N
def rFin2 (g : Hp) (A c : Nat) : Hp := (rChest (itr (psS A) c g) A).setI (A + 5) 1 2
def rFin (h : Hp) (A c : Nat) : Int32 × Hp := if h.i (A + 5) 1 = 1 then (if bLeft h (A + 5) = true then (8, h) else (0, rFin2 (itr (dbS (A + 5)) 60 h) A c)) else (2, h)
theorem rCh1_sh {h : Hp} {A : Nat} {n : Int64} : (rCh1 h A n).1 = h.1 := by
  unfold rCh1
  have e : (scL A (h.l (A + 5) 8 / n) (h, h.l (A + 5) 8 - h.l (A + 5) 8 / n * n)).1.1 = h.1 := scL_sh
  generalize scL A (h.l (A + 5) 8 / n) (h, h.l (A + 5) 8 - h.l (A + 5) 8 / n * n) = w at e ⊢
  exact e
theorem rChest_sh {h : Hp} {A : Nat} : (rChest h A).1 = h.1 := by
  unfold rChest
  split
  · exact rCh1_sh
  · rfl
section
variable {cx : Cx} {h : Hp} {A : Nat}
theorem stV_out {q : Nat} {w : Int32} (hw : w.toInt < 0 ∨ 4 < w.toInt) : stV h A q w = -1 := by
  unfold stV
  have hne : ∀ k : Nat, k ≤ 4 → ¬ w = nI k := by
    intro k hk e
    rw [e, nI_toInt (by omega)] at hw
    omega
  rw [if_neg (show ¬ w = 0 from hne 0 (by omega)), if_neg (show ¬ w = 1 from hne 1 (by omega)), if_neg (show ¬ w = 2 from hne 2 (by omega)), if_neg (show ¬ w = 3 from hne 3 (by omega)), if_neg (show ¬ w = 4 from hne 4 (by omega))]
theorem t_stopOf {c : Nat} {k w : Int32} (hA : RSh h.1 A) (hC : h.i (A + 5) 7 = nI c) (hc : c ≤ 512) (hst : StK h.1 A c) : DL cx mX2_stopOf 0 h [.ref A, .int k, .int w] (rStopOf h A c k w) h := by
  unfold rStopOf
  by_cases hk : ¬ k < 0 ∧ k < nI c
  · rw [if_pos hk]
    obtain ⟨j, hj, rfl⟩ : ∃ j : Nat, j < c ∧ k = nI j := by
      rcases pk_ix k (n := c) (by omega) with z | z | ⟨j, hj, rfl⟩
      · exact absurd z hk.1
      · exact absurd hk.2 (Int32.not_lt.mpr z)
      · exact ⟨j, hj, rfl⟩
    obtain ⟨q, hq1, hq2⟩ := hst j hj
    have hin : vp_in (nI j) 512 := pk_in j 512 (by omega) rfl
    have hcl : (nI j).toNatClampNeg = j := nI_clamp (by omega)
    have hq1 : h.r (A + 4) j = some q := hq1
    rw [hcl, hq1]
    dsimp only
    by_cases hw : w.toInt < 0 ∨ 4 < w.toInt
    · rw [stV_out hw]
      refine Sp.of 1 (by decide) (Nat.le_of_ble_eq_true rfl) rfl ?_
      refine j_iload1 (pc := 0) dX2_stopOf_0 ?_
      refine j_if_lt (pc := 1) (tgt := 31) dX2_stopOf_1 (by decide) (fun c1 => by exact absurd c1 (nI_pos (by omega))) (fun c1 => ?_)
      refine j_iload1 (pc := 4) dX2_stopOf_4 ?_
      refine j_aload0 (pc := 5) dX2_stopOf_5 ?_
      refine g_X2_42 (pc := 6) rfl hA.1 hA.2.2.2.2.2.1.1 dX2_stopOf_6 ?_
      refine g_X2_65 (pc := 9) rfl hA.2.2.2.2.2.1.2.1 dX2_stopOf_9 ?_
      rw [hC]
      refine j_icmpN_ge (pc := 12) (tgt := 31) (by first | decide | omega) (by first | decide | omega) dX2_stopOf_12 (by decide) (fun c12 => by omega) (fun c12 => ?_)
      refine j_iload1 (pc := 15) dX2_stopOf_15 ?_
      refine j_sipush (pc := 16) (v := nI 512) dX2_stopOf_16 (by decide) ?_
      refine j_icmpN_ge (pc := 19) (tgt := 31) (by first | decide | omega) (by first | decide | omega) dX2_stopOf_19 (by decide) (fun c19 => by omega) (fun c19 => ?_)
      refine j_aload0 (pc := 22) dX2_stopOf_22 ?_
      refine g_X2_35 (pc := 23) rfl hA.1 hA.2.2.2.2.1.1 dX2_stopOf_23 ?_
      refine j_iload1 (pc := 26) dX2_stopOf_26 ?_
      refine j_aald (pc := 27) (by decide) hA.2.2.2.2.1.2 hin (by rw [hcl]; exact hq1) dX2_stopOf_27 ?_
      refine j_goto (pc := 28) (tgt := 32) dX2_stopOf_28 (by decide) ?_
      refine j_astore3 (pc := 32) dX2_stopOf_32 (by decide) trivial ?_
      refine j_aload3 (pc := 33) dX2_stopOf_33 ?_
      refine j_ifnonnull (pc := 34) (tgt := 41) dX2_stopOf_34 (by decide) ?_
      refine j_iload2 (pc := 41) dX2_stopOf_41 ?_
      refine j_tabOut (tgt := 118) dX2_stopOf_42 hw (by decide) ?_
      refine j_ldc2 (pc := 118) dX2_stopOf_118 wT_kl_X2_271 ?_
      refine j_lret (pc := 121) dX2_stopOf_121 rfl ?_
      exact ⟨_, rfl, rfl, rfl⟩
    · obtain ⟨v, hv, rfl⟩ : ∃ v : Nat, v < 5 ∧ w = nI v := by
        rcases pk_ix w (n := 5) (by decide) with z | z | ⟨j, hj, rfl⟩
        · have := Int32.lt_iff_toInt_lt.mp z
          exact absurd (Or.inl (by rw [show (0 : Int32).toInt = 0 from by decide] at this; omega)) hw
        · have := Int32.le_iff_toInt_le.mp z
          rw [nI_toInt (by decide)] at this
          exact absurd (Or.inr (by omega)) hw
        · exact ⟨j, hj, rfl⟩
      rcases (show v = 0 ∨ v = 1 ∨ v = 2 ∨ v = 3 ∨ v = 4 by omega) with rfl | rfl | rfl | rfl | rfl
      · refine Sp.of 1 (by decide) (Nat.le_of_ble_eq_true rfl) rfl ?_
        refine j_iload1 (pc := 0) dX2_stopOf_0 ?_
        refine j_if_lt (pc := 1) (tgt := 31) dX2_stopOf_1 (by decide) (fun c1 => by exact absurd c1 (nI_pos (by omega))) (fun c1 => ?_)
        refine j_iload1 (pc := 4) dX2_stopOf_4 ?_
        refine j_aload0 (pc := 5) dX2_stopOf_5 ?_
        refine g_X2_42 (pc := 6) rfl hA.1 hA.2.2.2.2.2.1.1 dX2_stopOf_6 ?_
        refine g_X2_65 (pc := 9) rfl hA.2.2.2.2.2.1.2.1 dX2_stopOf_9 ?_
        rw [hC]
        refine j_icmpN_ge (pc := 12) (tgt := 31) (by first | decide | omega) (by first | decide | omega) dX2_stopOf_12 (by decide) (fun c12 => by omega) (fun c12 => ?_)
        refine j_iload1 (pc := 15) dX2_stopOf_15 ?_
        refine j_sipush (pc := 16) (v := nI 512) dX2_stopOf_16 (by decide) ?_
        refine j_icmpN_ge (pc := 19) (tgt := 31) (by first | decide | omega) (by first | decide | omega) dX2_stopOf_19 (by decide) (fun c19 => by omega) (fun c19 => ?_)
        refine j_aload0 (pc := 22) dX2_stopOf_22 ?_
        refine g_X2_35 (pc := 23) rfl hA.1 hA.2.2.2.2.1.1 dX2_stopOf_23 ?_
        refine j_iload1 (pc := 26) dX2_stopOf_26 ?_
        refine j_aald (pc := 27) (by decide) hA.2.2.2.2.1.2 hin (by rw [hcl]; exact hq1) dX2_stopOf_27 ?_
        refine j_goto (pc := 28) (tgt := 32) dX2_stopOf_28 (by decide) ?_
        refine j_astore3 (pc := 32) dX2_stopOf_32 (by decide) trivial ?_
        refine j_aload3 (pc := 33) dX2_stopOf_33 ?_
        refine j_ifnonnull (pc := 34) (tgt := 41) dX2_stopOf_34 (by decide) ?_
        refine j_iload2 (pc := 41) dX2_stopOf_41 ?_
        refine j_tabIn (off := 34) (tgt := 76) dX2_stopOf_42 (by decide) (by decide) (by decide) (by decide) ?_
        refine j_aload3 (pc := 76) dX2_stopOf_76 ?_
        refine g_X2_315 (pc := 77) rfl hq2 dX2_stopOf_77 ?_
        refine j_i2l (pc := 80) dX2_stopOf_80 ?_
        refine j_lret (pc := 81) dX2_stopOf_81 rfl ?_
        exact ⟨_, rfl, rfl, rfl⟩
      · refine Sp.of 1 (by decide) (Nat.le_of_ble_eq_true rfl) rfl ?_
        refine j_iload1 (pc := 0) dX2_stopOf_0 ?_
        refine j_if_lt (pc := 1) (tgt := 31) dX2_stopOf_1 (by decide) (fun c1 => by exact absurd c1 (nI_pos (by omega))) (fun c1 => ?_)
        refine j_iload1 (pc := 4) dX2_stopOf_4 ?_
        refine j_aload0 (pc := 5) dX2_stopOf_5 ?_
        refine g_X2_42 (pc := 6) rfl hA.1 hA.2.2.2.2.2.1.1 dX2_stopOf_6 ?_
        refine g_X2_65 (pc := 9) rfl hA.2.2.2.2.2.1.2.1 dX2_stopOf_9 ?_
        rw [hC]
        refine j_icmpN_ge (pc := 12) (tgt := 31) (by first | decide | omega) (by first | decide | omega) dX2_stopOf_12 (by decide) (fun c12 => by omega) (fun c12 => ?_)
        refine j_iload1 (pc := 15) dX2_stopOf_15 ?_
        refine j_sipush (pc := 16) (v := nI 512) dX2_stopOf_16 (by decide) ?_
        refine j_icmpN_ge (pc := 19) (tgt := 31) (by first | decide | omega) (by first | decide | omega) dX2_stopOf_19 (by decide) (fun c19 => by omega) (fun c19 => ?_)
        refine j_aload0 (pc := 22) dX2_stopOf_22 ?_
        refine g_X2_35 (pc := 23) rfl hA.1 hA.2.2.2.2.1.1 dX2_stopOf_23 ?_
        refine j_iload1 (pc := 26) dX2_stopOf_26 ?_
        refine j_aald (pc := 27) (by decide) hA.2.2.2.2.1.2 hin (by rw [hcl]; exact hq1) dX2_stopOf_27 ?_
        refine j_goto (pc := 28) (tgt := 32) dX2_stopOf_28 (by decide) ?_
        refine j_astore3 (pc := 32) dX2_stopOf_32 (by decide) trivial ?_
        refine j_aload3 (pc := 33) dX2_stopOf_33 ?_
        refine j_ifnonnull (pc := 34) (tgt := 41) dX2_stopOf_34 (by decide) ?_
        refine j_iload2 (pc := 41) dX2_stopOf_41 ?_
        refine j_tabIn (off := 40) (tgt := 82) dX2_stopOf_42 (by decide) (by decide) (by decide) (by decide) ?_
        refine j_aload3 (pc := 82) dX2_stopOf_82 ?_
        refine g_X2_318 (pc := 83) rfl hq2 dX2_stopOf_83 ?_
        refine j_i2l (pc := 86) dX2_stopOf_86 ?_
        refine j_lret (pc := 87) dX2_stopOf_87 rfl ?_
        exact ⟨_, rfl, rfl, rfl⟩
      · refine Sp.of 1 (by decide) (Nat.le_of_ble_eq_true rfl) rfl ?_
        refine j_iload1 (pc := 0) dX2_stopOf_0 ?_
        refine j_if_lt (pc := 1) (tgt := 31) dX2_stopOf_1 (by decide) (fun c1 => by exact absurd c1 (nI_pos (by omega))) (fun c1 => ?_)
        refine j_iload1 (pc := 4) dX2_stopOf_4 ?_
        refine j_aload0 (pc := 5) dX2_stopOf_5 ?_
        refine g_X2_42 (pc := 6) rfl hA.1 hA.2.2.2.2.2.1.1 dX2_stopOf_6 ?_
        refine g_X2_65 (pc := 9) rfl hA.2.2.2.2.2.1.2.1 dX2_stopOf_9 ?_
        rw [hC]
        refine j_icmpN_ge (pc := 12) (tgt := 31) (by first | decide | omega) (by first | decide | omega) dX2_stopOf_12 (by decide) (fun c12 => by omega) (fun c12 => ?_)
        refine j_iload1 (pc := 15) dX2_stopOf_15 ?_
        refine j_sipush (pc := 16) (v := nI 512) dX2_stopOf_16 (by decide) ?_
        refine j_icmpN_ge (pc := 19) (tgt := 31) (by first | decide | omega) (by first | decide | omega) dX2_stopOf_19 (by decide) (fun c19 => by omega) (fun c19 => ?_)
        refine j_aload0 (pc := 22) dX2_stopOf_22 ?_
        refine g_X2_35 (pc := 23) rfl hA.1 hA.2.2.2.2.1.1 dX2_stopOf_23 ?_
        refine j_iload1 (pc := 26) dX2_stopOf_26 ?_
        refine j_aald (pc := 27) (by decide) hA.2.2.2.2.1.2 hin (by rw [hcl]; exact hq1) dX2_stopOf_27 ?_
        refine j_goto (pc := 28) (tgt := 32) dX2_stopOf_28 (by decide) ?_
        refine j_astore3 (pc := 32) dX2_stopOf_32 (by decide) trivial ?_
        refine j_aload3 (pc := 33) dX2_stopOf_33 ?_
        refine j_ifnonnull (pc := 34) (tgt := 41) dX2_stopOf_34 (by decide) ?_
        refine j_iload2 (pc := 41) dX2_stopOf_41 ?_
        refine j_tabIn (off := 46) (tgt := 88) dX2_stopOf_42 (by decide) (by decide) (by decide) (by decide) ?_
        refine j_aload3 (pc := 88) dX2_stopOf_88 ?_
        refine g_X2_322 (pc := 89) rfl hq2 dX2_stopOf_89 ?_
        refine j_lret (pc := 92) dX2_stopOf_92 rfl ?_
        exact ⟨_, rfl, rfl, rfl⟩
      · refine Sp.of 1 (by decide) (Nat.le_of_ble_eq_true rfl) rfl ?_
        refine j_iload1 (pc := 0) dX2_stopOf_0 ?_
        refine j_if_lt (pc := 1) (tgt := 31) dX2_stopOf_1 (by decide) (fun c1 => by exact absurd c1 (nI_pos (by omega))) (fun c1 => ?_)
        refine j_iload1 (pc := 4) dX2_stopOf_4 ?_
        refine j_aload0 (pc := 5) dX2_stopOf_5 ?_
        refine g_X2_42 (pc := 6) rfl hA.1 hA.2.2.2.2.2.1.1 dX2_stopOf_6 ?_
        refine g_X2_65 (pc := 9) rfl hA.2.2.2.2.2.1.2.1 dX2_stopOf_9 ?_
        rw [hC]
        refine j_icmpN_ge (pc := 12) (tgt := 31) (by first | decide | omega) (by first | decide | omega) dX2_stopOf_12 (by decide) (fun c12 => by omega) (fun c12 => ?_)
        refine j_iload1 (pc := 15) dX2_stopOf_15 ?_
        refine j_sipush (pc := 16) (v := nI 512) dX2_stopOf_16 (by decide) ?_
        refine j_icmpN_ge (pc := 19) (tgt := 31) (by first | decide | omega) (by first | decide | omega) dX2_stopOf_19 (by decide) (fun c19 => by omega) (fun c19 => ?_)
        refine j_aload0 (pc := 22) dX2_stopOf_22 ?_
        refine g_X2_35 (pc := 23) rfl hA.1 hA.2.2.2.2.1.1 dX2_stopOf_23 ?_
        refine j_iload1 (pc := 26) dX2_stopOf_26 ?_
        refine j_aald (pc := 27) (by decide) hA.2.2.2.2.1.2 hin (by rw [hcl]; exact hq1) dX2_stopOf_27 ?_
        refine j_goto (pc := 28) (tgt := 32) dX2_stopOf_28 (by decide) ?_
        refine j_astore3 (pc := 32) dX2_stopOf_32 (by decide) trivial ?_
        refine j_aload3 (pc := 33) dX2_stopOf_33 ?_
        refine j_ifnonnull (pc := 34) (tgt := 41) dX2_stopOf_34 (by decide) ?_
        refine j_iload2 (pc := 41) dX2_stopOf_41 ?_
        refine j_tabIn (off := 51) (tgt := 93) dX2_stopOf_42 (by decide) (by decide) (by decide) (by decide) ?_
        refine j_aload3 (pc := 93) dX2_stopOf_93 ?_
        refine g_X2_325 (pc := 94) rfl hq2 dX2_stopOf_94 ?_
        refine j_lret (pc := 97) dX2_stopOf_97 rfl ?_
        exact ⟨_, rfl, rfl, rfl⟩
      · refine Sp.of 1 (by decide) (Nat.le_of_ble_eq_true rfl) rfl ?_
        refine j_iload1 (pc := 0) dX2_stopOf_0 ?_
        refine j_if_lt (pc := 1) (tgt := 31) dX2_stopOf_1 (by decide) (fun c1 => by exact absurd c1 (nI_pos (by omega))) (fun c1 => ?_)
        refine j_iload1 (pc := 4) dX2_stopOf_4 ?_
        refine j_aload0 (pc := 5) dX2_stopOf_5 ?_
        refine g_X2_42 (pc := 6) rfl hA.1 hA.2.2.2.2.2.1.1 dX2_stopOf_6 ?_
        refine g_X2_65 (pc := 9) rfl hA.2.2.2.2.2.1.2.1 dX2_stopOf_9 ?_
        rw [hC]
        refine j_icmpN_ge (pc := 12) (tgt := 31) (by first | decide | omega) (by first | decide | omega) dX2_stopOf_12 (by decide) (fun c12 => by omega) (fun c12 => ?_)
        refine j_iload1 (pc := 15) dX2_stopOf_15 ?_
        refine j_sipush (pc := 16) (v := nI 512) dX2_stopOf_16 (by decide) ?_
        refine j_icmpN_ge (pc := 19) (tgt := 31) (by first | decide | omega) (by first | decide | omega) dX2_stopOf_19 (by decide) (fun c19 => by omega) (fun c19 => ?_)
        refine j_aload0 (pc := 22) dX2_stopOf_22 ?_
        refine g_X2_35 (pc := 23) rfl hA.1 hA.2.2.2.2.1.1 dX2_stopOf_23 ?_
        refine j_iload1 (pc := 26) dX2_stopOf_26 ?_
        refine j_aald (pc := 27) (by decide) hA.2.2.2.2.1.2 hin (by rw [hcl]; exact hq1) dX2_stopOf_27 ?_
        refine j_goto (pc := 28) (tgt := 32) dX2_stopOf_28 (by decide) ?_
        refine j_astore3 (pc := 32) dX2_stopOf_32 (by decide) trivial ?_
        refine j_aload3 (pc := 33) dX2_stopOf_33 ?_
        refine j_ifnonnull (pc := 34) (tgt := 41) dX2_stopOf_34 (by decide) ?_
        refine j_iload2 (pc := 41) dX2_stopOf_41 ?_
        refine j_tabIn (off := 56) (tgt := 98) dX2_stopOf_42 (by decide) (by decide) (by decide) (by decide) ?_
        refine j_aload0 (pc := 98) dX2_stopOf_98 ?_
        refine g_X2_42 (pc := 99) rfl hA.1 hA.2.2.2.2.2.1.1 dX2_stopOf_99 ?_
        refine g_X2_85 (pc := 102) rfl hA.2.2.2.2.2.1.2.1 dX2_stopOf_102 ?_
        refine j_iconst (pc := 105) (v := 2) dX2_stopOf_105 (by decide) ?_
        refine j_icmp_ne (pc := 106) (tgt := 116) dX2_stopOf_106 (by decide) (fun c106 => ?_) (fun c106 => ?_)
        · refine j_lconst (pc := 116) (v := 0) dX2_stopOf_116 (by decide) ?_
          refine j_lret (pc := 117) dX2_stopOf_117 rfl ?_
          first | exact ⟨_, rfl, (if_neg c106).symm, rfl⟩ | exact ⟨_, rfl, (if_pos c106).symm, rfl⟩
        · refine j_aload3 (pc := 109) dX2_stopOf_109 ?_
          refine g_X2_328 (pc := 110) rfl hq2 dX2_stopOf_110 ?_
          refine j_goto (pc := 113) (tgt := 117) dX2_stopOf_113 (by decide) ?_
          refine j_lret (pc := 117) dX2_stopOf_117 rfl ?_
          first | exact ⟨_, rfl, (if_neg c106).symm, rfl⟩ | exact ⟨_, rfl, (if_pos c106).symm, rfl⟩
  · rw [if_neg hk]
    refine Sp.of 1 (by decide) (Nat.le_of_ble_eq_true rfl) rfl ?_
    refine j_iload1 (pc := 0) dX2_stopOf_0 ?_
    refine j_if_lt (pc := 1) (tgt := 31) dX2_stopOf_1 (by decide) (fun c1 => ?_) (fun c1 => ?_)
    · refine j_null (pc := 31) dX2_stopOf_31 ?_
      refine j_nstore3 (pc := 32) dX2_stopOf_32 (by decide) trivial ?_
      refine j_nload3 (pc := 33) dX2_stopOf_33 ?_
      refine j_ifnonnullN (pc := 34) dX2_stopOf_34 ?_
      refine j_ldc2 (pc := 37) dX2_stopOf_37 wT_kl_X2_271 ?_
      refine j_lret (pc := 40) dX2_stopOf_40 rfl ?_
      exact ⟨_, rfl, rfl, rfl⟩
    · refine j_iload1 (pc := 4) dX2_stopOf_4 ?_
      refine j_aload0 (pc := 5) dX2_stopOf_5 ?_
      refine g_X2_42 (pc := 6) rfl hA.1 hA.2.2.2.2.2.1.1 dX2_stopOf_6 ?_
      refine g_X2_65 (pc := 9) rfl hA.2.2.2.2.2.1.2.1 dX2_stopOf_9 ?_
      rw [hC]
      refine j_icmp_ge (pc := 12) (tgt := 31) dX2_stopOf_12 (by decide) (fun c12 => ?_) (fun c12 => by exact absurd ⟨c1, Int32.not_le.mp c12⟩ hk)
      refine j_null (pc := 31) dX2_stopOf_31 ?_
      refine j_nstore3 (pc := 32) dX2_stopOf_32 (by decide) trivial ?_
      refine j_nload3 (pc := 33) dX2_stopOf_33 ?_
      refine j_ifnonnullN (pc := 34) dX2_stopOf_34 ?_
      refine j_ldc2 (pc := 37) dX2_stopOf_37 wT_kl_X2_271 ?_
      refine j_lret (pc := 40) dX2_stopOf_40 rfl ?_
      exact ⟨_, rfl, rfl, rfl⟩
theorem t_payStops {c : Nat} (hA : RSh h.1 A) (hC : h.i (A + 5) 7 = nI c) (hc : c ≤ 512) (hst : StK h.1 A c) : DV cx mX2_payStops 1 h [.ref A] (itr (psS A) c h) := by
  refine Sp.ofQ 4 (by decide) (Nat.le_of_ble_eq_true rfl) rfl (fun Q hQ => ?_)
  have hi : ∀ N k, (itr (psS A) N h).i (A + 5) k = h.i (A + 5) k := fun N k => itr_keep (step := psS A) (fun y : Hp => y.i (A + 5) k) (fun n x => by unfold psS; split <;> rfl) h N
  have L : J cx mX2_payStops (Rm 1 0 0) h 2 [some (.ref A), some (.int (nI 0)), none, none, none] [] 0 0 Q := by
    refine dn (P := fun n => J cx mX2_payStops (Rm 1 0 0) (itr (psS A) n h) 2 [some (.ref A), some (.int (nI n)), none, none, none] [] 0 0 Q) c ?_ ?_
    · have hA1 : RSh (itr (psS A) c h).1 A := by rw [psK]; exact hA
      have hC1 := (hi c 7).trans hC
      generalize itr (psS A) c h = g at hA1 hC1 hQ ⊢
      have hA := hA1
      refine j_iload1 (pc := 2) dX2_payStops_2 ?_
      refine j_aload0 (pc := 3) dX2_payStops_3 ?_
      refine g_X2_42 (pc := 4) rfl hA.1 hA.2.2.2.2.2.1.1 dX2_payStops_4 ?_
      refine g_X2_65 (pc := 7) rfl hA.2.2.2.2.2.1.2.1 dX2_payStops_7 ?_
      rw [hC1]
      refine j_icmpN_ge (pc := 10) (tgt := 75) (by first | decide | omega) (by first | decide | omega) dX2_payStops_10 (by decide) (fun c10 => ?_) (fun c10 => by omega)
      refine j_vret (pc := 75) dX2_payStops_75 rfl ?_
      exact hQ _ _ ⟨rfl, rfl⟩
    · intro n hn ih
      have hA1 : RSh (itr (psS A) n h).1 A := by rw [psK]; exact hA
      have hC1 := (hi n 7).trans hC
      have hst1 : StK (itr (psS A) n h).1 A c := by rw [psK]; exact hst
      have ih : J cx mX2_payStops (Rm 1 0 0) (psS A n (itr (psS A) n h)) 2 [some (.ref A), some (.int (nI (n + 1))), none, none, none] [] 0 0 Q := ih
      generalize itr (psS A) n h = g at hA1 hC1 hst1 ih ⊢
      have hA := hA1
      obtain ⟨q, hq1, hq2⟩ := hst1 n hn
      have hq1 : g.r (A + 4) n = some q := hq1
      have hin : vp_in (nI n) 512 := pk_in n 512 (by omega) rfl
      have hcl : (nI n).toNatClampNeg = n := nI_clamp (by omega)
      have S : DL cx mJ9_min_f86c9 0 g [.long (g.l q 2), .long (g.l (A + 5) 8)] (mn64 (g.l q 2) (g.l (A + 5) 8)) g := s_min _ _
      have e : psS A n g = ps2 (ps1 g A (mn64 (g.l q 2) (g.l (A + 5) 8))) q (mn64 (g.l q 2) (g.l (A + 5) 8)) := by unfold psS; rw [hq1]
      rw [e] at ih
      generalize mn64 (g.l q 2) (g.l (A + 5) 8) = x at S ih
      refine j_iload1 (pc := 2) dX2_payStops_2 ?_
      refine j_aload0 (pc := 3) dX2_payStops_3 ?_
      refine g_X2_42 (pc := 4) rfl hA.1 hA.2.2.2.2.2.1.1 dX2_payStops_4 ?_
      refine g_X2_65 (pc := 7) rfl hA.2.2.2.2.2.1.2.1 dX2_payStops_7 ?_
      rw [hC1]
      refine j_icmpN_ge (pc := 10) (tgt := 75) (by first | decide | omega) (by first | decide | omega) dX2_payStops_10 (by decide) (fun c10 => by omega) (fun c10 => ?_)
      refine j_iload1 (pc := 13) dX2_payStops_13 ?_
      refine j_sipush (pc := 14) (v := nI 512) dX2_payStops_14 (by decide) ?_
      refine j_icmpN_ge (pc := 17) (tgt := 75) (by first | decide | omega) (by first | decide | omega) dX2_payStops_17 (by decide) (fun c17 => by omega) (fun c17 => ?_)
      refine j_aload0 (pc := 20) dX2_payStops_20 ?_
      refine g_X2_35 (pc := 21) rfl hA.1 hA.2.2.2.2.1.1 dX2_payStops_21 ?_
      refine j_iload1 (pc := 24) dX2_payStops_24 ?_
      refine j_aald (pc := 25) (by decide) hA.2.2.2.2.1.2 hin (by rw [hcl]; exact hq1) dX2_payStops_25 ?_
      refine j_astore2 (pc := 26) dX2_payStops_26 (by decide) trivial ?_
      refine j_aload2 (pc := 27) dX2_payStops_27 ?_
      refine j_ifnull (pc := 28) dX2_payStops_28 ?_
      refine j_aload2 (pc := 31) dX2_payStops_31 ?_
      refine g_X2_322 (pc := 32) rfl hq2 dX2_payStops_32 ?_
      refine j_aload0 (pc := 35) dX2_payStops_35 ?_
      refine g_X2_42 (pc := 36) rfl hA.1 hA.2.2.2.2.2.1.1 dX2_payStops_36 ?_
      refine g_X2_46 (pc := 39) rfl hA.2.2.2.2.2.1.2.1 dX2_payStops_39 ?_
      refine cd_X2_220 (pc := 42) rfl (S) dX2_payStops_42 rfl rfl ?_
      refine j_lstore3 (pc := 45) dX2_payStops_45 (by decide) trivial ?_
      refine j_aload0 (pc := 46) dX2_payStops_46 ?_
      refine g_X2_42 (pc := 47) rfl hA.1 hA.2.2.2.2.2.1.1 dX2_payStops_47 ?_
      refine j_dup (pc := 50) dX2_payStops_50 ?_
      refine g_X2_46 (pc := 51) rfl hA.2.2.2.2.2.1.2.1 dX2_payStops_51 ?_
      refine j_lload3 (pc := 54) dX2_payStops_54 ?_
      refine j_lsub (pc := 55) dX2_payStops_55 ?_
      refine p_X2_46 (pc := 56) rfl hA.2.2.2.2.2.1.2.1 dX2_payStops_56 ?_
      show J cx mX2_payStops _ (ps1 g A x) _ _ _ _ _ _
      refine j_aload2 (pc := 59) dX2_payStops_59 ?_
      refine j_aload2 (pc := 60) dX2_payStops_60 ?_
      refine g_X2_322 (pc := 61) rfl hq2 dX2_payStops_61 ?_
      refine j_lload3 (pc := 64) dX2_payStops_64 ?_
      refine j_lsub (pc := 65) dX2_payStops_65 ?_
      refine p_X2_328 (pc := 66) rfl hq2 dX2_payStops_66 ?_
      show J cx mX2_payStops _ (ps2 (ps1 g A x) q x) _ _ _ _ _ _
      refine j_iincN1 (pc := 69) dX2_payStops_69 (by decide) trivial ?_
      refine j_goto (pc := 72) (tgt := 2) dX2_payStops_72 (by decide) ?_
      exact J.wk ih (by simp [lcw])
  refine j_iconst (pc := 0) (v := nI 0) dX2_payStops_0 (by decide) ?_
  refine j_istore1 (pc := 1) dX2_payStops_1 (by decide) trivial ?_
  exact L
theorem t_shareChest (hA : RSh h.1 A) : DV cx mX2_shareChest 0 h [.ref A] (rChest h A) := by
  have hB := hA.2.2.2.2.2.1.2
  refine Sp.ofQ 9 (by decide) (Nat.le_of_ble_eq_true rfl) rfl (fun Q hQ => ?_)
  unfold rChest cFul at hQ
  have L2 : ∀ n : Int32, 0 < n → Q none (rCh1 h A n.toInt64) → ∀ part, part = h.l (A + 5) 8 / n.toInt64 → ∀ N, N = 60 → J cx mX2_shareChest (Rm 0 0 0) h 97 [some (.ref A), some (.int n), some (.long part), none, some (.long (h.l (A + 5) 8 - part * n.toInt64)), none, some (.ref (A + 5 + 1)), some (.int (nI N)), some (.int (nI 0)), none] [] 0 0 Q := by
    intro n h0 hQ part hpart N hN
    unfold rCh1 scL at hQ
    rw [← hpart, ← hN] at hQ
    generalize h.l (A + 5) 8 - part * n.toInt64 = left at hQ ⊢
    refine dn (P := fun m => J cx mX2_shareChest (Rm 0 0 0) (itr (scS A part) m (h, left)).1 97 [some (.ref A), some (.int n), some (.long part), none, some (.long (itr (scS A part) m (h, left)).2), none, some (.ref (A + 5 + 1)), some (.int (nI N)), some (.int (nI m)), none] [] 0 0 Q) N ?_ ?_
    · have hA1 : RSh (itr (scS A part) N (h, left)).1.1 A := by rw [scK]; exact hA
      generalize itr (scS A part) N (h, left) = w at hA1 hQ ⊢
      have hA := hA1
      refine j_iload8 (pc := 97) dX2_shareChest_97 ?_
      refine j_iload7 (pc := 99) dX2_shareChest_99 ?_
      refine j_icmpN_ge (pc := 101) (tgt := 155) (by first | decide | omega) (by first | decide | omega) dX2_shareChest_101 (by decide) (fun c101 => ?_) (fun c101 => by omega)
      refine j_aload0 (pc := 155) dX2_shareChest_155 ?_
      refine g_X2_42 (pc := 156) rfl hA.1 hA.2.2.2.2.2.1.1 dX2_shareChest_156 ?_
      refine j_lconst (pc := 159) (v := 0) dX2_shareChest_159 (by decide) ?_
      refine p_X2_46 (pc := 160) rfl hA.2.2.2.2.2.1.2.1 dX2_shareChest_160 ?_
      refine j_vret (pc := 163) dX2_shareChest_163 rfl ?_
      exact hQ
    · intro m hm ih
      have hn6 : m < 60 := by omega
      have hA1 : RSh (itr (scS A part) m (h, left)).1.1 A := by rw [scK]; exact hA
      have ih : J cx mX2_shareChest (Rm 0 0 0) (scS A part m (itr (scS A part) m (h, left))).1 97 [some (.ref A), some (.int n), some (.long part), none, some (.long (scS A part m (itr (scS A part) m (h, left))).2), none, some (.ref (A + 5 + 1)), some (.int (nI N)), some (.int (nI (m + 1))), none] [] 0 0 Q := ih
      generalize itr (scS A part) m (h, left) = w at hA1 ih ⊢
      obtain ⟨w1, w2⟩ := w
      dsimp only at hA1 ih ⊢
      have hA := hA1
      have hB := hA.2.2.2.2.2.1.2
      have hp := (hB.2.2.2 m hn6).2
      have e0 : w1.i (A + 5 + 2 + m) 5 = 0 → scS A part m (w1, w2) = (w1, w2) := fun a => if_pos a
      have e1 : ¬ w1.i (A + 5 + 2 + m) 5 = 0 → 0 < w2 → scS A part m (w1, w2) = (w1.setL (A + 5 + 2 + m) 12 (w1.l (A + 5 + 2 + m) 12 + (part + 1)), w2 - 1) := fun a b => by unfold scS; rw [if_neg a, if_pos b]
      have e2 : ¬ w1.i (A + 5 + 2 + m) 5 = 0 → ¬ 0 < w2 → scS A part m (w1, w2) = (w1.setL (A + 5 + 2 + m) 12 (w1.l (A + 5 + 2 + m) 12 + part), w2 - 1) := fun a b => by unfold scS; rw [if_neg a, if_neg b]
      refine j_iload8 (pc := 97) dX2_shareChest_97 ?_
      refine j_iload7 (pc := 99) dX2_shareChest_99 ?_
      refine j_icmpN_ge (pc := 101) (tgt := 155) (by first | decide | omega) (by first | decide | omega) dX2_shareChest_101 (by decide) (fun c101 => by omega) (fun c101 => ?_)
      refine j_aload6 (pc := 104) dX2_shareChest_104 ?_
      refine j_iload8 (pc := 106) dX2_shareChest_106 ?_
      refine j_aald (pc := 108) (by decide) hA.2.2.2.2.2.1.2.2.2.1 (pk_in m 60 hn6 rfl) (hB.r hn6) dX2_shareChest_108 ?_
      refine j_astore9 (pc := 109) dX2_shareChest_109 (by decide) trivial ?_
      refine j_aload9 (pc := 111) dX2_shareChest_111 ?_
      refine g_X2_134 (pc := 113) rfl hp dX2_shareChest_113 ?_
      refine j_if_eq (pc := 116) (tgt := 149) dX2_shareChest_116 (by decide) (fun c116 => ?_) (fun c116 => ?_)
      · refine j_iincN8 (pc := 149) dX2_shareChest_149 (by decide) trivial ?_
        refine j_goto (pc := 152) (tgt := 97) dX2_shareChest_152 (by decide) ?_
        first | (rw [e0 c116] at ih; exact J.wk ih (by simp [lcw])) | (rw [e2 c116 (Int64.not_lt.mpr c128)] at ih; exact J.wk ih (by simp [lcw])) | (rw [e1 c116 (Int64.not_le.mp c128)] at ih; exact J.wk ih (by simp [lcw]))
      · refine j_aload9 (pc := 119) dX2_shareChest_119 ?_
        refine j_dup (pc := 121) dX2_shareChest_121 ?_
        refine g_X2_331 (pc := 122) rfl hp dX2_shareChest_122 ?_
        refine j_lload4 (pc := 125) dX2_shareChest_125 ?_
        refine j_lconst (pc := 127) (v := 0) dX2_shareChest_127 (by decide) ?_
        refine j_lcmp_le (pc := 128) (tgt := 138) dX2_shareChest_128 dX2_shareChest_129 (by decide) (fun c128 => ?_) (fun c128 => ?_)
        · refine j_lload2 (pc := 138) dX2_shareChest_138 ?_
          refine j_ladd (pc := 139) dX2_shareChest_139 ?_
          refine p_X2_331 (pc := 140) rfl hp dX2_shareChest_140 ?_
          refine j_lload4 (pc := 143) dX2_shareChest_143 ?_
          refine j_lconst (pc := 145) (v := 1) dX2_shareChest_145 (by decide) ?_
          refine j_lsub (pc := 146) dX2_shareChest_146 ?_
          refine j_lstore4 (pc := 147) dX2_shareChest_147 (by decide) trivial ?_
          refine j_iincN8 (pc := 149) dX2_shareChest_149 (by decide) trivial ?_
          refine j_goto (pc := 152) (tgt := 97) dX2_shareChest_152 (by decide) ?_
          first | (rw [e0 c116] at ih; exact J.wk ih (by simp [lcw])) | (rw [e2 c116 (Int64.not_lt.mpr c128)] at ih; exact J.wk ih (by simp [lcw])) | (rw [e1 c116 (Int64.not_le.mp c128)] at ih; exact J.wk ih (by simp [lcw]))
        · refine j_lload2 (pc := 132) dX2_shareChest_132 ?_
          refine j_lconst (pc := 133) (v := 1) dX2_shareChest_133 (by decide) ?_
          refine j_ladd (pc := 134) dX2_shareChest_134 ?_
          refine j_goto (pc := 135) (tgt := 139) dX2_shareChest_135 (by decide) ?_
          refine j_ladd (pc := 139) dX2_shareChest_139 ?_
          refine p_X2_331 (pc := 140) rfl hp dX2_shareChest_140 ?_
          refine j_lload4 (pc := 143) dX2_shareChest_143 ?_
          refine j_lconst (pc := 145) (v := 1) dX2_shareChest_145 (by decide) ?_
          refine j_lsub (pc := 146) dX2_shareChest_146 ?_
          refine j_lstore4 (pc := 147) dX2_shareChest_147 (by decide) trivial ?_
          refine j_iincN8 (pc := 149) dX2_shareChest_149 (by decide) trivial ?_
          refine j_goto (pc := 152) (tgt := 97) dX2_shareChest_152 (by decide) ?_
          first | (rw [e0 c116] at ih; exact J.wk ih (by simp [lcw])) | (rw [e2 c116 (Int64.not_lt.mpr c128)] at ih; exact J.wk ih (by simp [lcw])) | (rw [e1 c116 (Int64.not_le.mp c128)] at ih; exact J.wk ih (by simp [lcw]))
  have L : ∀ N, N = 60 → J cx mX2_shareChest (Rm 0 0 0) h 16 [some (.ref A), some (.int (nI 0)), some (.ref (A + 5 + 1)), some (.int (nI N)), some (.int (nI 0)), none, none, none, none, none] [] 0 0 Q := by
    intro N hN
    rw [← hN] at hQ
    refine dn (P := fun n => J cx mX2_shareChest (Rm 0 0 0) h 16 [some (.ref A), some (.int (nI (cnt (fun i => decide (¬ h.i (A + 5 + 2 + i) 5 = 0)) n))), some (.ref (A + 5 + 1)), some (.int (nI N)), some (.int (nI n)), none, none, none, none, none] [] 0 0 Q) N ?_ ?_
    · generalize nI (cnt (fun i => decide (¬ h.i (A + 5 + 2 + i) 5 = 0)) N) = n at hQ ⊢
      refine j_iload4 (pc := 16) dX2_shareChest_16 ?_
      refine j_iload3 (pc := 18) dX2_shareChest_18 ?_
      refine j_icmpN_ge (pc := 19) (tgt := 50) (by first | decide | omega) (by first | decide | omega) dX2_shareChest_19 (by decide) (fun c19 => ?_) (fun c19 => by omega)
      refine j_iload1 (pc := 50) dX2_shareChest_50 ?_
      refine j_if_gt (pc := 51) (tgt := 55) dX2_shareChest_51 (by decide) (fun c51 => ?_) (fun c51 => ?_)
      · refine j_aload0 (pc := 55) dX2_shareChest_55 ?_
        refine g_X2_42 (pc := 56) rfl hA.1 hA.2.2.2.2.2.1.1 dX2_shareChest_56 ?_
        refine g_X2_46 (pc := 59) rfl hA.2.2.2.2.2.1.2.1 dX2_shareChest_59 ?_
        refine j_iload1 (pc := 62) dX2_shareChest_62 ?_
        refine j_i2l (pc := 63) dX2_shareChest_63 ?_
        refine j_ldiv (pc := 64) dX2_shareChest_64 ((fun z => by have e := congrArg Int64.toInt z; rw [Int32.toInt_toInt64] at e; have := Int32.lt_iff_toInt_lt.mp c51; rw [show (0 : Int32).toInt = 0 from rfl] at this; rw [show (0 : Int64).toInt = 0 from rfl] at e; omega)) ?_
        refine j_lstore2 (pc := 65) dX2_shareChest_65 (by decide) trivial ?_
        refine j_aload0 (pc := 66) dX2_shareChest_66 ?_
        refine g_X2_42 (pc := 67) rfl hA.1 hA.2.2.2.2.2.1.1 dX2_shareChest_67 ?_
        refine g_X2_46 (pc := 70) rfl hA.2.2.2.2.2.1.2.1 dX2_shareChest_70 ?_
        refine j_lload2 (pc := 73) dX2_shareChest_73 ?_
        refine j_iload1 (pc := 74) dX2_shareChest_74 ?_
        refine j_i2l (pc := 75) dX2_shareChest_75 ?_
        refine j_lmul (pc := 76) dX2_shareChest_76 ?_
        refine j_lsub (pc := 77) dX2_shareChest_77 ?_
        refine j_lstore4 (pc := 78) dX2_shareChest_78 (by decide) trivial ?_
        refine j_aload0 (pc := 80) dX2_shareChest_80 ?_
        refine g_X2_42 (pc := 81) rfl hA.1 hA.2.2.2.2.2.1.1 dX2_shareChest_81 ?_
        refine g_X2_126 (pc := 84) rfl hA.2.2.2.2.2.1.2.1 hA.2.2.2.2.2.1.2.2.1 dX2_shareChest_84 ?_
        refine j_astore6 (pc := 87) dX2_shareChest_87 (by decide) trivial ?_
        refine j_aload6 (pc := 89) dX2_shareChest_89 ?_
        refine j_alenR (pc := 91) (by decide) hA.2.2.2.2.2.1.2.2.2.1 dX2_shareChest_91 ?_
        show J cx mX2_shareChest (Rm 0 0 0) h 92 _ [.int (nI 60)] 0 0 Q
        refine j_istore7 (pc := 92) dX2_shareChest_92 (by decide) trivial ?_
        refine j_iconst (pc := 94) (v := nI 0) dX2_shareChest_94 (by decide) ?_
        refine j_istore8 (pc := 95) dX2_shareChest_95 (by decide) trivial ?_
        exact L2 n c51 (hQ _ _ ⟨rfl, by rw [if_pos c51]⟩) _ rfl 60 rfl
      · refine j_vret (pc := 54) dX2_shareChest_54 rfl ?_
        exact hQ _ _ ⟨rfl, by rw [if_neg c51]⟩
    · intro n hn ih
      have hn6 : n < 60 := by omega
      have hp := (hB.2.2.2 n hn6).2
      have e : cnt (fun i => decide (¬ h.i (A + 5 + 2 + i) 5 = 0)) (n + 1) = cnt (fun i => decide (¬ h.i (A + 5 + 2 + i) 5 = 0)) n + (if decide (¬ h.i (A + 5 + 2 + n) 5 = 0) = true then 1 else 0) := rfl
      rw [e] at ih
      refine j_iload4 (pc := 16) dX2_shareChest_16 ?_
      refine j_iload3 (pc := 18) dX2_shareChest_18 ?_
      refine j_icmpN_ge (pc := 19) (tgt := 50) (by first | decide | omega) (by first | decide | omega) dX2_shareChest_19 (by decide) (fun c19 => by omega) (fun c19 => ?_)
      refine j_aload2 (pc := 22) dX2_shareChest_22 ?_
      refine j_iload4 (pc := 23) dX2_shareChest_23 ?_
      refine j_aald (pc := 25) (by decide) hA.2.2.2.2.2.1.2.2.2.1 (pk_in n 60 hn6 rfl) (hB.r hn6) dX2_shareChest_25 ?_
      refine j_astore5 (pc := 26) dX2_shareChest_26 (by decide) trivial ?_
      refine j_iload1 (pc := 28) dX2_shareChest_28 ?_
      refine j_aload5 (pc := 29) dX2_shareChest_29 ?_
      refine g_X2_134 (pc := 31) rfl hp dX2_shareChest_31 ?_
      refine j_if_eq (pc := 34) (tgt := 41) dX2_shareChest_34 (by decide) (fun c34 => ?_) (fun c34 => ?_)
      · refine j_iconst (pc := 41) (v := nI 0) dX2_shareChest_41 (by decide) ?_
        refine j_iaddN (pc := 42) dX2_shareChest_42 ?_
        refine j_istore1 (pc := 43) dX2_shareChest_43 (by decide) trivial ?_
        refine j_iincN4 (pc := 44) dX2_shareChest_44 (by decide) trivial ?_
        refine j_goto (pc := 47) (tgt := 16) dX2_shareChest_47 (by decide) ?_
        first | (rw [if_neg (by rw [decide_eq_true_eq]; exact fun z => z c34)] at ih; exact J.wk ih (by simp [lcw])) | (rw [if_pos (by rw [decide_eq_true_eq]; exact c34)] at ih; exact J.wk ih (by simp [lcw]))
      · refine j_iconst (pc := 37) (v := nI 1) dX2_shareChest_37 (by decide) ?_
        refine j_goto (pc := 38) (tgt := 42) dX2_shareChest_38 (by decide) ?_
        refine j_iaddN (pc := 42) dX2_shareChest_42 ?_
        refine j_istore1 (pc := 43) dX2_shareChest_43 (by decide) trivial ?_
        refine j_iincN4 (pc := 44) dX2_shareChest_44 (by decide) trivial ?_
        refine j_goto (pc := 47) (tgt := 16) dX2_shareChest_47 (by decide) ?_
        first | (rw [if_neg (by rw [decide_eq_true_eq]; exact fun z => z c34)] at ih; exact J.wk ih (by simp [lcw])) | (rw [if_pos (by rw [decide_eq_true_eq]; exact c34)] at ih; exact J.wk ih (by simp [lcw]))
  refine j_iconst (pc := 0) (v := nI 0) dX2_shareChest_0 (by decide) ?_
  refine j_istore1 (pc := 1) dX2_shareChest_1 (by decide) trivial ?_
  refine j_aload0 (pc := 2) dX2_shareChest_2 ?_
  refine g_X2_42 (pc := 3) rfl hA.1 hA.2.2.2.2.2.1.1 dX2_shareChest_3 ?_
  refine g_X2_126 (pc := 6) rfl hA.2.2.2.2.2.1.2.1 hA.2.2.2.2.2.1.2.2.1 dX2_shareChest_6 ?_
  refine j_astore2 (pc := 9) dX2_shareChest_9 (by decide) trivial ?_
  refine j_aload2 (pc := 10) dX2_shareChest_10 ?_
  refine j_alenR (pc := 11) (by decide) hA.2.2.2.2.2.1.2.2.2.1 dX2_shareChest_11 ?_
  show J cx mX2_shareChest (Rm 0 0 0) h 12 [some (.ref A), some (.int (nI 0)), some (.ref (A + 5 + 1)), none, none, none, none, none, none, none] [.int (nI 60)] 0 0 Q
  refine j_istore3 (pc := 12) dX2_shareChest_12 (by decide) trivial ?_
  refine j_iconst (pc := 13) (v := nI 0) dX2_shareChest_13 (by decide) ?_
  refine j_istore4 (pc := 14) dX2_shareChest_14 (by decide) trivial ?_
  exact L 60 rfl
theorem t_finish {c : Nat} (hA : RSh h.1 A) (hC : h.i (A + 5) 7 = nI c) (hc : c ≤ 512) (hst : StK h.1 A c) : DI cx mX2_finish 2 h [.ref A] (rFin h A c).1 (rFin h A c).2 := by
  have hB := hA.2.2.2.2.2.1.2
  refine Sp.ofQ 4 (by decide) (Nat.le_of_ble_eq_true rfl) rfl (fun Q hQ => ?_)
  unfold rFin at hQ
  have L : h.i (A + 5) 1 = 1 → bLeft h (A + 5) = false → ∀ N, N = 60 → J cx mX2_finish (Rm 2 0 0) h 39 [some (.ref A), some (.ref (A + 5 + 1)), some (.int (nI N)), some (.int (nI 0)), none] [] 0 0 Q := by
    intro h1 h2 N hN
    rw [if_pos h1, if_neg (by rw [h2]; decide), ← hN] at hQ
    refine dn (P := fun n => J cx mX2_finish (Rm 2 0 0) (itr (dbS (A + 5)) n h) 39 [some (.ref A), some (.ref (A + 5 + 1)), some (.int (nI N)), some (.int (nI n)), none] [] 0 0 Q) N ?_ ?_
    · have e1 : (itr (dbS (A + 5)) N h).1 = h.1 := dbK N
      have hC1 : (itr (dbS (A + 5)) N h).i (A + 5) 7 = nI c := (itr_keep (step := dbS (A + 5)) (fun y : Hp => y.i (A + 5) 7) (fun _ _ => rfl) h N).trans hC
      generalize itr (dbS (A + 5)) N h = g at e1 hC1 hQ ⊢
      have hA1 : RSh g.1 A := by rw [e1]; exact hA
      have S1 := t_payStops (cx := cx) hA1 hC1 hc (by rw [e1]; exact hst)
      unfold rFin2 at hQ
      have hA2 : RSh (itr (psS A) c g).1 A := by rw [psK]; exact hA1
      generalize itr (psS A) c g = g2 at S1 hA2 hQ
      have S2 := t_shareChest (cx := cx) hA2
      have hA3 : RSh (rChest g2 A).1 A := by rw [rChest_sh]; exact hA2
      generalize rChest g2 A = g3 at S2 hA3 hQ
      have hA := hA1
      refine j_iload3 (pc := 39) dX2_finish_39 ?_
      refine j_iload2 (pc := 40) dX2_finish_40 ?_
      refine j_icmpN_ge (pc := 41) (tgt := 60) (by first | decide | omega) (by first | decide | omega) dX2_finish_41 (by decide) (fun c41 => ?_) (fun c41 => by omega)
      refine j_aload0 (pc := 60) dX2_finish_60 ?_
      refine cd_X2_334 (pc := 61) rfl (S1) hA.1 dX2_finish_61 rfl rfl ?_
      have hA := hA2
      refine j_aload0 (pc := 64) dX2_finish_64 ?_
      refine cd_X2_337 (pc := 65) rfl (S2) hA.1 dX2_finish_65 rfl rfl ?_
      have hA := hA3
      refine j_aload0 (pc := 68) dX2_finish_68 ?_
      refine g_X2_42 (pc := 69) rfl hA.1 hA.2.2.2.2.2.1.1 dX2_finish_69 ?_
      refine j_iconst (pc := 72) (v := 2) dX2_finish_72 (by decide) ?_
      refine p_X2_85 (pc := 73) rfl hA.2.2.2.2.2.1.2.1 dX2_finish_73 ?_
      refine j_iconst (pc := 76) (v := 0) dX2_finish_76 (by decide) ?_
      refine j_iret (pc := 77) dX2_finish_77 rfl rfl ?_
      exact hQ _ _ ⟨_, rfl, rfl, rfl⟩
    · intro n hn ih
      have hn6 : n < 60 := by omega
      have e1 : (itr (dbS (A + 5)) n h).1 = h.1 := dbK n
      have ih : J cx mX2_finish (Rm 2 0 0) (pDep (itr (dbS (A + 5)) n h) (A + 5 + 2 + n)) 39 [some (.ref A), some (.ref (A + 5 + 1)), some (.int (nI N)), some (.int (nI (n + 1))), none] [] 0 0 Q := ih
      generalize itr (dbS (A + 5)) n h = g at e1 ih ⊢
      have hA1 : RSh g.1 A := by rw [e1]; exact hA
      have hA := hA1
      have hB := hA.2.2.2.2.2.1.2
      have hp := (hB.2.2.2 n hn6).2
      refine j_iload3 (pc := 39) dX2_finish_39 ?_
      refine j_iload2 (pc := 40) dX2_finish_40 ?_
      refine j_icmpN_ge (pc := 41) (tgt := 60) (by first | decide | omega) (by first | decide | omega) dX2_finish_41 (by decide) (fun c41 => by omega) (fun c41 => ?_)
      refine j_aload1 (pc := 44) dX2_finish_44 ?_
      refine j_iload3 (pc := 45) dX2_finish_45 ?_
      refine j_aald (pc := 46) (by decide) hA.2.2.2.2.2.1.2.2.2.1 (pk_in n 60 hn6 rfl) (hB.r hn6) dX2_finish_46 ?_
      refine j_astore4 (pc := 47) dX2_finish_47 (by decide) trivial ?_
      refine j_aload4 (pc := 49) dX2_finish_49 ?_
      refine cd_X2_312 (pc := 51) rfl (t_takeDepositBack hp) hp dX2_finish_51 rfl rfl ?_
      refine j_iincN3 (pc := 54) dX2_finish_54 (by decide) trivial ?_
      refine j_goto (pc := 57) (tgt := 39) dX2_finish_57 (by decide) ?_
      exact J.wk ih (by simp [lcw])
  refine j_aload0 (pc := 0) dX2_finish_0 ?_
  refine g_X2_42 (pc := 1) rfl hA.1 hA.2.2.2.2.2.1.1 dX2_finish_1 ?_
  refine g_X2_85 (pc := 4) rfl hA.2.2.2.2.2.1.2.1 dX2_finish_4 ?_
  refine j_iconst (pc := 7) (v := 1) dX2_finish_7 (by decide) ?_
  refine j_icmp_eq (pc := 8) (tgt := 13) dX2_finish_8 (by decide) (fun c8 => ?_) (fun c8 => ?_)
  · refine j_aload0 (pc := 13) dX2_finish_13 ?_
    refine g_X2_42 (pc := 14) rfl hA.1 hA.2.2.2.2.2.1.1 dX2_finish_14 ?_
    refine cd_X2_148 (pc := 17) rfl (t_roundIsLeft hB) hA.2.2.2.2.2.1.2.1 dX2_finish_17 rfl rfl ?_
    refine j_bif_eq (pc := 20) (tgt := 26) dX2_finish_20 (by decide) (fun c20 => ?_) (fun c20 => ?_)
    · refine j_aload0 (pc := 26) dX2_finish_26 ?_
      refine g_X2_42 (pc := 27) rfl hA.1 hA.2.2.2.2.2.1.1 dX2_finish_27 ?_
      refine g_X2_126 (pc := 30) rfl hA.2.2.2.2.2.1.2.1 hA.2.2.2.2.2.1.2.2.1 dX2_finish_30 ?_
      refine j_astore1 (pc := 33) dX2_finish_33 (by decide) trivial ?_
      refine j_aload1 (pc := 34) dX2_finish_34 ?_
      refine j_alenR (pc := 35) (by decide) hA.2.2.2.2.2.1.2.2.2.1 dX2_finish_35 ?_
      show J cx mX2_finish (Rm 2 0 0) h 36 [some (.ref A), some (.ref (A + 5 + 1)), none, none, none] [.int (nI 60)] 0 0 Q
      refine j_istore2 (pc := 36) dX2_finish_36 (by decide) trivial ?_
      refine j_iconst (pc := 37) (v := nI 0) dX2_finish_37 (by decide) ?_
      refine j_istore3 (pc := 38) dX2_finish_38 (by decide) trivial ?_
      exact L c8 c20 60 rfl
    · refine j_bipush (pc := 23) (v := 8) dX2_finish_23 (by decide) ?_
      refine j_iret (pc := 25) dX2_finish_25 rfl rfl ?_
      exact hQ _ _ ⟨_, rfl, by rw [if_pos c8, if_pos c20], by rw [if_pos c8, if_pos c20]⟩
  · refine j_iconst (pc := 11) (v := 2) dX2_finish_11 (by decide) ?_
    refine j_iret (pc := 12) dX2_finish_12 rfl rfl ?_
    exact hQ _ _ ⟨_, rfl, by rw [if_neg c8], by rw [if_neg c8]⟩
end

