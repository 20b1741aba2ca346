/-! the class: paying into a cell -/
def rPut (h : Hp) (p : Nat) (x : Int64) : Hp := (h.setI p 13 (h.i p 13 + x.toInt32)).setL p 9 (h.l p 9 + x)
def rPay2 (h : Hp) (A p : Nat) : Int32 × Hp := if h.i p 15 = 0 then (0, rPut (h.setI p 15 1) p (h.l A 1 / 2)) else (8, h)
def rPay1 (h : Hp) (A p : Nat) : Int32 × Hp := if h.i p 14 = 0 then (0, rPut (h.setI p 14 1) p (if h.i p 0 = 3 then h.l A 1 - h.l A 1 / 2 else h.l A 1)) else (8, h)
section
variable {cx : Cx} {h : Hp} {A p : Nat}
theorem t_putIntoCell {x : Int64} (hp : h.kd p = kObj 1) : DV cx mX2_putIntoCell 0 h [.ref A, .ref p, .long x] (rPut h p x) := by
  refine Sp.of 0 (by decide) (Nat.le_of_ble_eq_true rfl) rfl ?_
  refine j_aload1 (pc := 0) dX2_putIntoCell_0 ?_
  refine j_dup (pc := 1) dX2_putIntoCell_1 ?_
  refine g_X2_179 (pc := 2) rfl hp dX2_putIntoCell_2 ?_
  refine j_lload2 (pc := 5) dX2_putIntoCell_5 ?_
  refine j_l2i (pc := 6) dX2_putIntoCell_6 ?_
  refine j_iadd (pc := 7) dX2_putIntoCell_7 ?_
  refine p_X2_179 (pc := 8) rfl hp dX2_putIntoCell_8 ?_
  refine j_aload1 (pc := 11) dX2_putIntoCell_11 ?_
  refine j_dup (pc := 12) dX2_putIntoCell_12 ?_
  refine g_X2_182 (pc := 13) rfl hp dX2_putIntoCell_13 ?_
  refine j_lload2 (pc := 16) dX2_putIntoCell_16 ?_
  refine j_ladd (pc := 17) dX2_putIntoCell_17 ?_
  refine p_X2_182 (pc := 18) rfl hp dX2_putIntoCell_18 ?_
  refine j_vret (pc := 21) dX2_putIntoCell_21 rfl ?_
  exact ⟨rfl, rfl⟩
theorem t_paySecond (hA : RSh h.1 A) (hp : h.kd p = kObj 1) : DI cx mX2_paySecond 1 h [.ref A, .ref p] (rPay2 h A p).1 (rPay2 h A p).2 := by
  unfold rPay2
  refine Sp.of 0 (by decide) (Nat.le_of_ble_eq_true rfl) rfl ?_
  refine j_aload1 (pc := 0) dX2_paySecond_0 ?_
  refine g_X2_176 (pc := 1) rfl hp dX2_paySecond_1 ?_
  refine j_if_eq (pc := 4) (tgt := 10) dX2_paySecond_4 (by decide) (fun c4 => ?_) (fun c4 => ?_)
  · refine j_aload1 (pc := 10) dX2_paySecond_10 ?_
    refine j_iconst (pc := 11) (v := 1) dX2_paySecond_11 (by decide) ?_
    refine p_X2_176' (pc := 12) rfl hp (by decide) dX2_paySecond_12 ?_
    refine j_aload0 (pc := 15) dX2_paySecond_15 ?_
    refine j_aload1 (pc := 16) dX2_paySecond_16 ?_
    refine j_aload0 (pc := 17) dX2_paySecond_17 ?_
    refine g_X2_15 (pc := 18) rfl hA.1 dX2_paySecond_18 ?_
    refine j_ldc2 (pc := 21) dX2_paySecond_21 wT_kl_X2_170 ?_
    refine j_ldiv (pc := 24) dX2_paySecond_24 (by decide) ?_
    refine cd_X2_172 (pc := 25) rfl (t_putIntoCell hp) hA.1 dX2_paySecond_25 rfl rfl ?_
    refine j_iconst (pc := 28) (v := 0) dX2_paySecond_28 (by decide) ?_
    refine j_iret (pc := 29) dX2_paySecond_29 rfl rfl ?_
    exact ⟨_, rfl, by rw [if_pos c4], by rw [if_pos c4]; rfl⟩
  · refine j_bipush (pc := 7) (v := 8) dX2_paySecond_7 (by decide) ?_
    refine j_iret (pc := 9) dX2_paySecond_9 rfl rfl ?_
    exact ⟨_, rfl, by rw [if_neg c4], by rw [if_neg c4]⟩
theorem t_payFirst (hA : RSh h.1 A) (hp : h.kd p = kObj 1) : DI cx mX2_payFirst 1 h [.ref A, .ref p] (rPay1 h A p).1 (rPay1 h A p).2 := by
  unfold rPay1
  refine Sp.of 0 (by decide) (Nat.le_of_ble_eq_true rfl) rfl ?_
  have e0 : (h.setI p 14 1).i p 0 = h.i p 0 := by simp [Hp.setI, Hp.i, up2]
  refine j_aload1 (pc := 0) dX2_payFirst_0 ?_
  refine g_X2_167 (pc := 1) rfl hp dX2_payFirst_1 ?_
  refine j_if_eq (pc := 4) (tgt := 10) dX2_payFirst_4 (by decide) (fun c4 => ?_) (fun c4 => ?_)
  · refine j_aload1 (pc := 10) dX2_payFirst_10 ?_
    refine j_iconst (pc := 11) (v := 1) dX2_payFirst_11 (by decide) ?_
    refine p_X2_167' (pc := 12) rfl hp (by decide) dX2_payFirst_12 ?_
    refine j_aload0 (pc := 15) dX2_payFirst_15 ?_
    refine j_aload1 (pc := 16) dX2_payFirst_16 ?_
    refine j_aload1 (pc := 17) dX2_payFirst_17 ?_
    refine g_X2_98 (pc := 18) rfl hp dX2_payFirst_18 ?_
    rw [e0]
    refine j_iconst (pc := 21) (v := 3) dX2_payFirst_21 (by decide) ?_
    refine j_icmp_ne (pc := 22) (tgt := 41) dX2_payFirst_22 (by decide) (fun c22 => ?_) (fun c22 => ?_)
    · refine j_aload0 (pc := 41) dX2_payFirst_41 ?_
      refine g_X2_15 (pc := 42) rfl hA.1 dX2_payFirst_42 ?_
      refine cd_X2_172 (pc := 45) rfl (t_putIntoCell hp) hA.1 dX2_payFirst_45 rfl rfl ?_
      refine j_iconst (pc := 48) (v := 0) dX2_payFirst_48 (by decide) ?_
      refine j_iret (pc := 49) dX2_payFirst_49 rfl rfl ?_
      first | (rw [if_pos c4, if_pos c22]; exact ⟨_, rfl, rfl, rfl⟩) | (rw [if_pos c4, if_neg c22]; exact ⟨_, rfl, rfl, rfl⟩)
    · refine j_aload0 (pc := 25) dX2_payFirst_25 ?_
      refine g_X2_15 (pc := 26) rfl hA.1 dX2_payFirst_26 ?_
      refine j_aload0 (pc := 29) dX2_payFirst_29 ?_
      refine g_X2_15 (pc := 30) rfl hA.1 dX2_payFirst_30 ?_
      refine j_ldc2 (pc := 33) dX2_payFirst_33 wT_kl_X2_170 ?_
      refine j_ldiv (pc := 36) dX2_payFirst_36 (by decide) ?_
      refine j_lsub (pc := 37) dX2_payFirst_37 ?_
      refine j_goto (pc := 38) (tgt := 45) dX2_payFirst_38 (by decide) ?_
      refine cd_X2_172 (pc := 45) rfl (t_putIntoCell hp) hA.1 dX2_payFirst_45 rfl rfl ?_
      refine j_iconst (pc := 48) (v := 0) dX2_payFirst_48 (by decide) ?_
      refine j_iret (pc := 49) dX2_payFirst_49 rfl rfl ?_
      first | (rw [if_pos c4, if_pos c22]; exact ⟨_, rfl, rfl, rfl⟩) | (rw [if_pos c4, if_neg c22]; exact ⟨_, rfl, rfl, rfl⟩)
  · refine j_bipush (pc := 7) (v := 8) dX2_payFirst_7 (by decide) ?_
    refine j_iret (pc := 9) dX2_payFirst_9 rfl rfl ?_
    exact ⟨_, rfl, by rw [if_neg c4], by rw [if_neg c4]⟩
end

