/-! the class: a place -/
def pMem (h : Hp) (p : Nat) : Bool := decide (2 ≤ h.i p 0)
def pGo (h : Hp) (p : Nat) : Bool := pMem h p && decide (h.i p 4 = 0)
def pNe (h : Hp) (p : Nat) : Bool := pMem h p && decide (h.i p 4 = 0) && decide (h.i p 3 = 0)
def pAb (h : Hp) (p : Nat) : Bool := pNe h p && decide (h.l p 6 = 0)
def pEmp (h : Hp) (p : Nat) : Hp := ((h.setI p 13 0).setI p 14 0).setI p 15 0
def pBack (h : Hp) (p : Nat) : Hp := pEmp (h.setL p 9 (h.l p 9 - (h.i p 13).toInt64)) p
def pDep (h : Hp) (p : Nat) : Hp := (h.setL p 12 (h.l p 12 + h.l p 8)).setL p 8 0
def bl (x : Int32) : Int64 := if x = 0 then 0 else 1
def pVal (h : Hp) (p : Nat) (w : Int32) : Int64 := if w = 1 then bl (h.i p 3) else if w = 2 then bl (h.i p 4) else if w = 3 then h.l p 6 else if w = 4 then h.l p 7 else if w = 5 then h.l p 8 else if w = 6 then h.l p 9 else if w = 7 then h.l p 10 else if w = 8 then h.l p 11 else if w = 9 then h.l p 12 else if w = 10 then bl (h.i p 5) else -1
section
variable {cx : Cx} {h : Hp} {p : Nat}
theorem t_init1 (hk : h.kd p = kObj 1) : DV cx mX1_init 1 h [.ref p] (h.setI p 2 (-1)) := by
  refine Sp.of 0 (by decide) (Nat.le_of_ble_eq_true rfl) rfl ?_
  refine j_aload0 (pc := 0) dX1_init_0 ?_
  refine ob_X1_3 (pc := 1) rfl (by decide) rfl dX1_init_1 ?_
  refine j_aload0 (pc := 4) dX1_init_4 ?_
  refine j_iconst (pc := 5) (v := (-1)) dX1_init_5 (by decide) ?_
  refine p_X1_9 (pc := 6) rfl hk dX1_init_6 ?_
  refine j_vret (pc := 9) dX1_init_9 rfl ?_
  exact ⟨rfl, rfl⟩
theorem t_isMember (hk : h.kd p = kObj 1) : DB cx mX1_isMember 0 h [.ref p] (pMem h p) h := by
  refine Sp.of 0 (by decide) (Nat.le_of_ble_eq_true rfl) rfl ?_
  refine j_aload0 (pc := 0) dX1_isMember_0 ?_
  refine g_X1_15 (pc := 1) rfl hk dX1_isMember_1 ?_
  refine j_iconst (pc := 4) (v := 2) dX1_isMember_4 (by decide) ?_
  refine j_icmp_lt (pc := 5) (tgt := 12) dX1_isMember_5 (by decide) (fun c5 => ?_) (fun c5 => ?_)
  · refine j_iconst (pc := 12) (v := 0) dX1_isMember_12 (by decide) ?_
    refine j_iret (pc := 13) dX1_isMember_13 rfl rfl ?_
    exact ⟨_, rfl, by simp_all [pMem, b2i, ← Int32.not_le], rfl⟩
  · refine j_iconst (pc := 8) (v := 1) dX1_isMember_8 (by decide) ?_
    refine j_goto (pc := 9) (tgt := 13) dX1_isMember_9 (by decide) ?_
    refine j_iret (pc := 13) dX1_isMember_13 rfl rfl ?_
    exact ⟨_, rfl, by simp_all [pMem, b2i, ← Int32.not_le], rfl⟩
theorem t_isGoing (hk : h.kd p = kObj 1) : DB cx mX1_isGoing 1 h [.ref p] (pGo h p) h := by
  refine Sp.of 0 (by decide) (Nat.le_of_ble_eq_true rfl) rfl ?_
  refine j_aload0 (pc := 0) dX1_isGoing_0 ?_
  refine cd_X1_68 (pc := 1) rfl (t_isMember hk) hk dX1_isGoing_1 rfl rfl ?_
  refine j_bif_eq (pc := 4) (tgt := 18) dX1_isGoing_4 (by decide) (fun c4 => ?_) (fun c4 => ?_)
  · refine j_iconst (pc := 18) (v := 0) dX1_isGoing_18 (by decide) ?_
    refine j_iret (pc := 19) dX1_isGoing_19 rfl rfl ?_
    exact ⟨_, rfl, by simp_all [pGo, b2i], rfl⟩
  · refine j_aload0 (pc := 7) dX1_isGoing_7 ?_
    refine g_X1_25 (pc := 8) rfl hk dX1_isGoing_8 ?_
    refine j_if_ne (pc := 11) (tgt := 18) dX1_isGoing_11 (by decide) (fun c11 => ?_) (fun c11 => ?_)
    · refine j_iconst (pc := 18) (v := 0) dX1_isGoing_18 (by decide) ?_
      refine j_iret (pc := 19) dX1_isGoing_19 rfl rfl ?_
      exact ⟨_, rfl, by simp_all [pGo, b2i], rfl⟩
    · refine j_iconst (pc := 14) (v := 1) dX1_isGoing_14 (by decide) ?_
      refine j_goto (pc := 15) (tgt := 19) dX1_isGoing_15 (by decide) ?_
      refine j_iret (pc := 19) dX1_isGoing_19 rfl rfl ?_
      exact ⟨_, rfl, by simp_all [pGo, b2i], rfl⟩
theorem t_isNeither (hk : h.kd p = kObj 1) : DB cx mX1_isNeither 2 h [.ref p] (pNe h p) h := by
  refine Sp.of 0 (by decide) (Nat.le_of_ble_eq_true rfl) rfl ?_
  refine j_aload0 (pc := 0) dX1_isNeither_0 ?_
  refine cd_X1_72 (pc := 1) rfl (t_isGoing hk) hk dX1_isNeither_1 rfl rfl ?_
  refine j_bif_eq (pc := 4) (tgt := 18) dX1_isNeither_4 (by decide) (fun c4 => ?_) (fun c4 => ?_)
  · refine j_iconst (pc := 18) (v := 0) dX1_isNeither_18 (by decide) ?_
    refine j_iret (pc := 19) dX1_isNeither_19 rfl rfl ?_
    exact ⟨_, rfl, by simp_all [pNe, pGo, b2i], rfl⟩
  · refine j_aload0 (pc := 7) dX1_isNeither_7 ?_
    refine g_X1_21 (pc := 8) rfl hk dX1_isNeither_8 ?_
    refine j_if_ne (pc := 11) (tgt := 18) dX1_isNeither_11 (by decide) (fun c11 => ?_) (fun c11 => ?_)
    · refine j_iconst (pc := 18) (v := 0) dX1_isNeither_18 (by decide) ?_
      refine j_iret (pc := 19) dX1_isNeither_19 rfl rfl ?_
      exact ⟨_, rfl, by simp_all [pNe, pGo, b2i], rfl⟩
    · refine j_iconst (pc := 14) (v := 1) dX1_isNeither_14 (by decide) ?_
      refine j_goto (pc := 15) (tgt := 19) dX1_isNeither_15 (by decide) ?_
      refine j_iret (pc := 19) dX1_isNeither_19 rfl rfl ?_
      exact ⟨_, rfl, by simp_all [pNe, pGo, b2i], rfl⟩
theorem t_isAble (hk : h.kd p = kObj 1) : DB cx mX1_isAble 3 h [.ref p] (pAb h p) h := by
  refine Sp.of 0 (by decide) (Nat.le_of_ble_eq_true rfl) rfl ?_
  refine j_aload0 (pc := 0) dX1_isAble_0 ?_
  refine cd_X1_75 (pc := 1) rfl (t_isNeither hk) hk dX1_isAble_1 rfl rfl ?_
  refine j_bif_eq (pc := 4) (tgt := 20) dX1_isAble_4 (by decide) (fun c4 => ?_) (fun c4 => ?_)
  · refine j_iconst (pc := 20) (v := 0) dX1_isAble_20 (by decide) ?_
    refine j_iret (pc := 21) dX1_isAble_21 rfl rfl ?_
    exact ⟨_, rfl, by simp_all [pAb, b2i], rfl⟩
  · refine j_aload0 (pc := 7) dX1_isAble_7 ?_
    refine g_X1_31 (pc := 8) rfl hk dX1_isAble_8 ?_
    refine j_lconst (pc := 11) (v := 0) dX1_isAble_11 (by decide) ?_
    refine j_lcmp_ne (pc := 12) (tgt := 20) dX1_isAble_12 dX1_isAble_13 (by decide) (fun c12 => ?_) (fun c12 => ?_)
    · refine j_iconst (pc := 20) (v := 0) dX1_isAble_20 (by decide) ?_
      refine j_iret (pc := 21) dX1_isAble_21 rfl rfl ?_
      exact ⟨_, rfl, by simp_all [pAb, b2i], rfl⟩
    · refine j_iconst (pc := 16) (v := 1) dX1_isAble_16 (by decide) ?_
      refine j_goto (pc := 17) (tgt := 21) dX1_isAble_17 (by decide) ?_
      refine j_iret (pc := 21) dX1_isAble_21 rfl rfl ?_
      exact ⟨_, rfl, by simp_all [pAb, b2i], rfl⟩
theorem t_emptyCell (hk : h.kd p = kObj 1) : DV cx mX1_emptyCell 0 h [.ref p] (pEmp h p) := by
  refine Sp.of 0 (by decide) (Nat.le_of_ble_eq_true rfl) rfl ?_
  refine j_aload0 (pc := 0) dX1_emptyCell_0 ?_
  refine j_iconst (pc := 1) (v := 0) dX1_emptyCell_1 (by decide) ?_
  refine p_X1_53 (pc := 2) rfl hk dX1_emptyCell_2 ?_
  refine j_aload0 (pc := 5) dX1_emptyCell_5 ?_
  refine j_iconst (pc := 6) (v := 0) dX1_emptyCell_6 (by decide) ?_
  refine p_X1_56' (pc := 7) rfl hk (by decide) dX1_emptyCell_7 ?_
  refine j_aload0 (pc := 10) dX1_emptyCell_10 ?_
  refine j_iconst (pc := 11) (v := 0) dX1_emptyCell_11 (by decide) ?_
  refine p_X1_59' (pc := 12) rfl hk (by decide) dX1_emptyCell_12 ?_
  refine j_vret (pc := 15) dX1_emptyCell_15 rfl ?_
  exact ⟨rfl, rfl⟩
theorem t_takeCellBack (hk : h.kd p = kObj 1) : DV cx mX1_takeCellBack 1 h [.ref p] (pBack h p) := by
  refine Sp.of 0 (by decide) (Nat.le_of_ble_eq_true rfl) rfl ?_
  refine j_aload0 (pc := 0) dX1_takeCellBack_0 ?_
  refine j_dup (pc := 1) dX1_takeCellBack_1 ?_
  refine g_X1_41 (pc := 2) rfl hk dX1_takeCellBack_2 ?_
  refine j_aload0 (pc := 5) dX1_takeCellBack_5 ?_
  refine g_X1_53 (pc := 6) rfl hk dX1_takeCellBack_6 ?_
  refine j_i2l (pc := 9) dX1_takeCellBack_9 ?_
  refine j_lsub (pc := 10) dX1_takeCellBack_10 ?_
  refine p_X1_41 (pc := 11) rfl hk dX1_takeCellBack_11 ?_
  refine j_aload0 (pc := 14) dX1_takeCellBack_14 ?_
  refine cd_X1_78 (pc := 15) rfl (t_emptyCell hk) hk dX1_takeCellBack_15 rfl rfl ?_
  refine j_vret (pc := 18) dX1_takeCellBack_18 rfl ?_
  exact ⟨rfl, rfl⟩
theorem t_takeDepositBack (hk : h.kd p = kObj 1) : DV cx mX1_takeDepositBack 0 h [.ref p] (pDep h p) := by
  refine Sp.of 0 (by decide) (Nat.le_of_ble_eq_true rfl) rfl ?_
  refine j_aload0 (pc := 0) dX1_takeDepositBack_0 ?_
  refine j_dup (pc := 1) dX1_takeDepositBack_1 ?_
  refine g_X1_50 (pc := 2) rfl hk dX1_takeDepositBack_2 ?_
  refine j_aload0 (pc := 5) dX1_takeDepositBack_5 ?_
  refine g_X1_38 (pc := 6) rfl hk dX1_takeDepositBack_6 ?_
  refine j_ladd (pc := 9) dX1_takeDepositBack_9 ?_
  refine p_X1_50 (pc := 10) rfl hk dX1_takeDepositBack_10 ?_
  refine j_aload0 (pc := 13) dX1_takeDepositBack_13 ?_
  refine j_lconst (pc := 14) (v := 0) dX1_takeDepositBack_14 (by decide) ?_
  refine p_X1_38 (pc := 15) rfl hk dX1_takeDepositBack_15 ?_
  refine j_vret (pc := 18) dX1_takeDepositBack_18 rfl ?_
  exact ⟨rfl, rfl⟩
theorem pVal_out {w : Int32} (hw : w.toInt < 1 ∨ 10 < w.toInt) : pVal h p w = -1 := by
  unfold pVal
  have hne : ∀ k : Nat, 1 ≤ k → k ≤ 10 → ¬ w = nI k := by
    intro k h1 hk e
    rw [e, nI_toInt (by omega)] at hw
    omega
  rw [if_neg (show ¬ w = 1 from hne 1 (by omega) (by omega)), if_neg (show ¬ w = 2 from hne 2 (by omega) (by omega)), if_neg (show ¬ w = 3 from hne 3 (by omega) (by omega)), if_neg (show ¬ w = 4 from hne 4 (by omega) (by omega)), if_neg (show ¬ w = 5 from hne 5 (by omega) (by omega)), if_neg (show ¬ w = 6 from hne 6 (by omega) (by omega)), if_neg (show ¬ w = 7 from hne 7 (by omega) (by omega)), if_neg (show ¬ w = 8 from hne 8 (by omega) (by omega)), if_neg (show ¬ w = 9 from hne 9 (by omega) (by omega)), if_neg (show ¬ w = 10 from hne 10 (by omega) (by omega))]
theorem t_valueOf {w : Int32} (hk : h.kd p = kObj 1) : DL cx mX1_valueOf 0 h [.ref p, .int w] (pVal h p w) h := by
  by_cases hw : w.toInt < 1 ∨ 10 < w.toInt
  · rw [pVal_out hw]
    refine Sp.of 0 (by decide) (Nat.le_of_ble_eq_true rfl) rfl ?_
    refine j_iload1 (pc := 0) dX1_valueOf_0 ?_
    refine j_tabOut (tgt := 130) dX1_valueOf_1 hw (by decide) ?_
    refine j_ldc2 (pc := 130) dX1_valueOf_130 wT_kl_X1_81 ?_
    refine j_lret (pc := 133) dX1_valueOf_133 rfl ?_
    exact ⟨_, rfl, rfl, rfl⟩
  · obtain ⟨k, hk1, hk2, rfl⟩ : ∃ k : Nat, 1 ≤ k ∧ k < 11 ∧ w = nI k := by
      rcases pk_ix w (n := 11) (by decide) with z | z | ⟨j, hj, rfl⟩
      · have := Int32.lt_iff_toInt_lt.mp z
        exact absurd (Or.inl (by rw [show (0 : Int32).toInt = 0 from by decide] at this; omega)) hw
      · have := Int32.le_iff_toInt_le.mp z
        rw [nI_toInt (by decide)] at this
        exact absurd (Or.inr (by omega)) hw
      · rw [nI_toInt (by omega)] at hw
        exact ⟨j, by omega, hj, rfl⟩
    rcases (show k = 1 ∨ k = 2 ∨ k = 3 ∨ k = 4 ∨ k = 5 ∨ k = 6 ∨ k = 7 ∨ k = 8 ∨ k = 9 ∨ k = 10 by omega) with rfl | rfl | rfl | rfl | rfl | rfl | rfl | rfl | rfl | rfl
    · refine Sp.of 0 (by decide) (Nat.le_of_ble_eq_true rfl) rfl ?_
      refine j_iload1 (pc := 0) dX1_valueOf_0 ?_
      refine j_tabIn (off := 55) (tgt := 56) dX1_valueOf_1 (by decide) (by decide) (by decide) (by decide) ?_
      refine j_aload0 (pc := 56) dX1_valueOf_56 ?_
      refine g_X1_21 (pc := 57) rfl hk dX1_valueOf_57 ?_
      refine j_if_eq (pc := 60) (tgt := 67) dX1_valueOf_60 (by decide) (fun c60 => ?_) (fun c60 => ?_)
      · refine j_lconst (pc := 67) (v := 0) dX1_valueOf_67 (by decide) ?_
        refine j_lret (pc := 68) dX1_valueOf_68 rfl ?_
        first | exact ⟨_, rfl, rfl, rfl⟩ | exact ⟨_, rfl, (if_pos c60).symm, rfl⟩ | exact ⟨_, rfl, (if_neg c60).symm, rfl⟩ | exact ⟨_, rfl, (if_pos c73).symm, rfl⟩ | exact ⟨_, rfl, (if_neg c73).symm, rfl⟩ | exact ⟨_, rfl, (if_pos c121).symm, rfl⟩ | exact ⟨_, rfl, (if_neg c121).symm, rfl⟩
      · refine j_lconst (pc := 63) (v := 1) dX1_valueOf_63 (by decide) ?_
        refine j_goto (pc := 64) (tgt := 68) dX1_valueOf_64 (by decide) ?_
        refine j_lret (pc := 68) dX1_valueOf_68 rfl ?_
        first | exact ⟨_, rfl, rfl, rfl⟩ | exact ⟨_, rfl, (if_pos c60).symm, rfl⟩ | exact ⟨_, rfl, (if_neg c60).symm, rfl⟩ | exact ⟨_, rfl, (if_pos c73).symm, rfl⟩ | exact ⟨_, rfl, (if_neg c73).symm, rfl⟩ | exact ⟨_, rfl, (if_pos c121).symm, rfl⟩ | exact ⟨_, rfl, (if_neg c121).symm, rfl⟩
    · refine Sp.of 0 (by decide) (Nat.le_of_ble_eq_true rfl) rfl ?_
      refine j_iload1 (pc := 0) dX1_valueOf_0 ?_
      refine j_tabIn (off := 68) (tgt := 69) dX1_valueOf_1 (by decide) (by decide) (by decide) (by decide) ?_
      refine j_aload0 (pc := 69) dX1_valueOf_69 ?_
      refine g_X1_25 (pc := 70) rfl hk dX1_valueOf_70 ?_
      refine j_if_eq (pc := 73) (tgt := 80) dX1_valueOf_73 (by decide) (fun c73 => ?_) (fun c73 => ?_)
      · refine j_lconst (pc := 80) (v := 0) dX1_valueOf_80 (by decide) ?_
        refine j_lret (pc := 81) dX1_valueOf_81 rfl ?_
        first | exact ⟨_, rfl, rfl, rfl⟩ | exact ⟨_, rfl, (if_pos c60).symm, rfl⟩ | exact ⟨_, rfl, (if_neg c60).symm, rfl⟩ | exact ⟨_, rfl, (if_pos c73).symm, rfl⟩ | exact ⟨_, rfl, (if_neg c73).symm, rfl⟩ | exact ⟨_, rfl, (if_pos c121).symm, rfl⟩ | exact ⟨_, rfl, (if_neg c121).symm, rfl⟩
      · refine j_lconst (pc := 76) (v := 1) dX1_valueOf_76 (by decide) ?_
        refine j_goto (pc := 77) (tgt := 81) dX1_valueOf_77 (by decide) ?_
        refine j_lret (pc := 81) dX1_valueOf_81 rfl ?_
        first | exact ⟨_, rfl, rfl, rfl⟩ | exact ⟨_, rfl, (if_pos c60).symm, rfl⟩ | exact ⟨_, rfl, (if_neg c60).symm, rfl⟩ | exact ⟨_, rfl, (if_pos c73).symm, rfl⟩ | exact ⟨_, rfl, (if_neg c73).symm, rfl⟩ | exact ⟨_, rfl, (if_pos c121).symm, rfl⟩ | exact ⟨_, rfl, (if_neg c121).symm, rfl⟩
    · refine Sp.of 0 (by decide) (Nat.le_of_ble_eq_true rfl) rfl ?_
      refine j_iload1 (pc := 0) dX1_valueOf_0 ?_
      refine j_tabIn (off := 81) (tgt := 82) dX1_valueOf_1 (by decide) (by decide) (by decide) (by decide) ?_
      refine j_aload0 (pc := 82) dX1_valueOf_82 ?_
      refine g_X1_31 (pc := 83) rfl hk dX1_valueOf_83 ?_
      refine j_lret (pc := 86) dX1_valueOf_86 rfl ?_
      first | exact ⟨_, rfl, rfl, rfl⟩ | exact ⟨_, rfl, (if_pos c60).symm, rfl⟩ | exact ⟨_, rfl, (if_neg c60).symm, rfl⟩ | exact ⟨_, rfl, (if_pos c73).symm, rfl⟩ | exact ⟨_, rfl, (if_neg c73).symm, rfl⟩ | exact ⟨_, rfl, (if_pos c121).symm, rfl⟩ | exact ⟨_, rfl, (if_neg c121).symm, rfl⟩
    · refine Sp.of 0 (by decide) (Nat.le_of_ble_eq_true rfl) rfl ?_
      refine j_iload1 (pc := 0) dX1_valueOf_0 ?_
      refine j_tabIn (off := 86) (tgt := 87) dX1_valueOf_1 (by decide) (by decide) (by decide) (by decide) ?_
      refine j_aload0 (pc := 87) dX1_valueOf_87 ?_
      refine g_X1_35 (pc := 88) rfl hk dX1_valueOf_88 ?_
      refine j_lret (pc := 91) dX1_valueOf_91 rfl ?_
      first | exact ⟨_, rfl, rfl, rfl⟩ | exact ⟨_, rfl, (if_pos c60).symm, rfl⟩ | exact ⟨_, rfl, (if_neg c60).symm, rfl⟩ | exact ⟨_, rfl, (if_pos c73).symm, rfl⟩ | exact ⟨_, rfl, (if_neg c73).symm, rfl⟩ | exact ⟨_, rfl, (if_pos c121).symm, rfl⟩ | exact ⟨_, rfl, (if_neg c121).symm, rfl⟩
    · refine Sp.of 0 (by decide) (Nat.le_of_ble_eq_true rfl) rfl ?_
      refine j_iload1 (pc := 0) dX1_valueOf_0 ?_
      refine j_tabIn (off := 91) (tgt := 92) dX1_valueOf_1 (by decide) (by decide) (by decide) (by decide) ?_
      refine j_aload0 (pc := 92) dX1_valueOf_92 ?_
      refine g_X1_38 (pc := 93) rfl hk dX1_valueOf_93 ?_
      refine j_lret (pc := 96) dX1_valueOf_96 rfl ?_
      first | exact ⟨_, rfl, rfl, rfl⟩ | exact ⟨_, rfl, (if_pos c60).symm, rfl⟩ | exact ⟨_, rfl, (if_neg c60).symm, rfl⟩ | exact ⟨_, rfl, (if_pos c73).symm, rfl⟩ | exact ⟨_, rfl, (if_neg c73).symm, rfl⟩ | exact ⟨_, rfl, (if_pos c121).symm, rfl⟩ | exact ⟨_, rfl, (if_neg c121).symm, rfl⟩
    · refine Sp.of 0 (by decide) (Nat.le_of_ble_eq_true rfl) rfl ?_
      refine j_iload1 (pc := 0) dX1_valueOf_0 ?_
      refine j_tabIn (off := 96) (tgt := 97) dX1_valueOf_1 (by decide) (by decide) (by decide) (by decide) ?_
      refine j_aload0 (pc := 97) dX1_valueOf_97 ?_
      refine g_X1_41 (pc := 98) rfl hk dX1_valueOf_98 ?_
      refine j_lret (pc := 101) dX1_valueOf_101 rfl ?_
      first | exact ⟨_, rfl, rfl, rfl⟩ | exact ⟨_, rfl, (if_pos c60).symm, rfl⟩ | exact ⟨_, rfl, (if_neg c60).symm, rfl⟩ | exact ⟨_, rfl, (if_pos c73).symm, rfl⟩ | exact ⟨_, rfl, (if_neg c73).symm, rfl⟩ | exact ⟨_, rfl, (if_pos c121).symm, rfl⟩ | exact ⟨_, rfl, (if_neg c121).symm, rfl⟩
    · refine Sp.of 0 (by decide) (Nat.le_of_ble_eq_true rfl) rfl ?_
      refine j_iload1 (pc := 0) dX1_valueOf_0 ?_
      refine j_tabIn (off := 101) (tgt := 102) dX1_valueOf_1 (by decide) (by decide) (by decide) (by decide) ?_
      refine j_aload0 (pc := 102) dX1_valueOf_102 ?_
      refine g_X1_44 (pc := 103) rfl hk dX1_valueOf_103 ?_
      refine j_lret (pc := 106) dX1_valueOf_106 rfl ?_
      first | exact ⟨_, rfl, rfl, rfl⟩ | exact ⟨_, rfl, (if_pos c60).symm, rfl⟩ | exact ⟨_, rfl, (if_neg c60).symm, rfl⟩ | exact ⟨_, rfl, (if_pos c73).symm, rfl⟩ | exact ⟨_, rfl, (if_neg c73).symm, rfl⟩ | exact ⟨_, rfl, (if_pos c121).symm, rfl⟩ | exact ⟨_, rfl, (if_neg c121).symm, rfl⟩
    · refine Sp.of 0 (by decide) (Nat.le_of_ble_eq_true rfl) rfl ?_
      refine j_iload1 (pc := 0) dX1_valueOf_0 ?_
      refine j_tabIn (off := 106) (tgt := 107) dX1_valueOf_1 (by decide) (by decide) (by decide) (by decide) ?_
      refine j_aload0 (pc := 107) dX1_valueOf_107 ?_
      refine g_X1_47 (pc := 108) rfl hk dX1_valueOf_108 ?_
      refine j_lret (pc := 111) dX1_valueOf_111 rfl ?_
      first | exact ⟨_, rfl, rfl, rfl⟩ | exact ⟨_, rfl, (if_pos c60).symm, rfl⟩ | exact ⟨_, rfl, (if_neg c60).symm, rfl⟩ | exact ⟨_, rfl, (if_pos c73).symm, rfl⟩ | exact ⟨_, rfl, (if_neg c73).symm, rfl⟩ | exact ⟨_, rfl, (if_pos c121).symm, rfl⟩ | exact ⟨_, rfl, (if_neg c121).symm, rfl⟩
    · refine Sp.of 0 (by decide) (Nat.le_of_ble_eq_true rfl) rfl ?_
      refine j_iload1 (pc := 0) dX1_valueOf_0 ?_
      refine j_tabIn (off := 111) (tgt := 112) dX1_valueOf_1 (by decide) (by decide) (by decide) (by decide) ?_
      refine j_aload0 (pc := 112) dX1_valueOf_112 ?_
      refine g_X1_50 (pc := 113) rfl hk dX1_valueOf_113 ?_
      refine j_lret (pc := 116) dX1_valueOf_116 rfl ?_
      first | exact ⟨_, rfl, rfl, rfl⟩ | exact ⟨_, rfl, (if_pos c60).symm, rfl⟩ | exact ⟨_, rfl, (if_neg c60).symm, rfl⟩ | exact ⟨_, rfl, (if_pos c73).symm, rfl⟩ | exact ⟨_, rfl, (if_neg c73).symm, rfl⟩ | exact ⟨_, rfl, (if_pos c121).symm, rfl⟩ | exact ⟨_, rfl, (if_neg c121).symm, rfl⟩
    · refine Sp.of 0 (by decide) (Nat.le_of_ble_eq_true rfl) rfl ?_
      refine j_iload1 (pc := 0) dX1_valueOf_0 ?_
      refine j_tabIn (off := 116) (tgt := 117) dX1_valueOf_1 (by decide) (by decide) (by decide) (by decide) ?_
      refine j_aload0 (pc := 117) dX1_valueOf_117 ?_
      refine g_X1_28 (pc := 118) rfl hk dX1_valueOf_118 ?_
      refine j_if_eq (pc := 121) (tgt := 128) dX1_valueOf_121 (by decide) (fun c121 => ?_) (fun c121 => ?_)
      · refine j_lconst (pc := 128) (v := 0) dX1_valueOf_128 (by decide) ?_
        refine j_lret (pc := 129) dX1_valueOf_129 rfl ?_
        first | exact ⟨_, rfl, rfl, rfl⟩ | exact ⟨_, rfl, (if_pos c60).symm, rfl⟩ | exact ⟨_, rfl, (if_neg c60).symm, rfl⟩ | exact ⟨_, rfl, (if_pos c73).symm, rfl⟩ | exact ⟨_, rfl, (if_neg c73).symm, rfl⟩ | exact ⟨_, rfl, (if_pos c121).symm, rfl⟩ | exact ⟨_, rfl, (if_neg c121).symm, rfl⟩
      · refine j_lconst (pc := 124) (v := 1) dX1_valueOf_124 (by decide) ?_
        refine j_goto (pc := 125) (tgt := 129) dX1_valueOf_125 (by decide) ?_
        refine j_lret (pc := 129) dX1_valueOf_129 rfl ?_
        first | exact ⟨_, rfl, rfl, rfl⟩ | exact ⟨_, rfl, (if_pos c60).symm, rfl⟩ | exact ⟨_, rfl, (if_neg c60).symm, rfl⟩ | exact ⟨_, rfl, (if_pos c73).symm, rfl⟩ | exact ⟨_, rfl, (if_neg c73).symm, rfl⟩ | exact ⟨_, rfl, (if_pos c121).symm, rfl⟩ | exact ⟨_, rfl, (if_neg c121).symm, rfl⟩
end

