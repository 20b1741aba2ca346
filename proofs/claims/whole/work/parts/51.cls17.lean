/-! the class: drawn by lot -/
def cAb (h : Hp) (B : Nat) : Nat := cnt (fun i => pAb h (B + 2 + i)) 60
def lotC (h : Hp) (A r T : Nat) : Int32 := if r < T then h.i (A + 2) r else 0
def rLots (h : Hp) (A r T : Nat) : Int32 := if nI (cAb h (A + 5)) = 0 then -1 else woI (fnd (abP h (A + 5) (lotC h A r T - lotC h A r T / nI (cAb h (A + 5)) * nI (cAb h (A + 5))).toInt64) 60)
section
variable {cx : Cx} {h : Hp} {A : Nat}
theorem t_drawnByLot {r T : Nat} (hA : RSh h.1 A) (hR : h.i (A + 5) 2 = nI r) (hr : r < 2 ^ 31) (hT : h.i (A + 5) 6 = nI T) (hT6 : T ≤ 60) : DI cx mX2_drawnByLot 5 h [.ref A] (rLots h A r T) h := by
  have hB := hA.2.2.2.2.2.1.2
  have S : DI cx mX0_countAble 4 h [.ref (A + 5)] (nI (cAb h (A + 5))) h := t_countAble (cx := cx) (h := h) (B := A + 5) hB
  unfold rLots
  generalize nI (cAb h (A + 5)) = k at S ⊢
  refine Sp.of 3 (by decide) (Nat.le_of_ble_eq_true rfl) rfl ?_
  refine j_aload0 (pc := 0) dX2_drawnByLot_0 ?_
  refine g_X2_42 (pc := 1) rfl hA.1 hA.2.2.2.2.2.1.1 dX2_drawnByLot_1 ?_
  refine cd_X2_268 (pc := 4) rfl (S) hA.2.2.2.2.2.1.2.1 dX2_drawnByLot_4 rfl rfl ?_
  refine j_istore1 (pc := 7) dX2_drawnByLot_7 (by decide) trivial ?_
  refine j_iload1 (pc := 8) dX2_drawnByLot_8 ?_
  refine j_if_ne (pc := 9) (tgt := 14) dX2_drawnByLot_9 (by decide) (fun c9 => ?_) (fun c9 => ?_)
  · refine j_aload0 (pc := 14) dX2_drawnByLot_14 ?_
    refine g_X2_42 (pc := 15) rfl hA.1 hA.2.2.2.2.2.1.1 dX2_drawnByLot_15 ?_
    refine g_X2_76 (pc := 18) rfl hA.2.2.2.2.2.1.2.1 dX2_drawnByLot_18 ?_
    rw [hR]
    refine j_istore2 (pc := 21) dX2_drawnByLot_21 (by decide) trivial ?_
    refine j_iload2 (pc := 22) dX2_drawnByLot_22 ?_
    refine j_if_lt (pc := 23) (tgt := 52) dX2_drawnByLot_23 (by decide) (fun c23 => by exact absurd c23 (nI_pos (by omega))) (fun c23 => ?_)
    refine j_iload2 (pc := 26) dX2_drawnByLot_26 ?_
    refine j_aload0 (pc := 27) dX2_drawnByLot_27 ?_
    refine g_X2_42 (pc := 28) rfl hA.1 hA.2.2.2.2.2.1.1 dX2_drawnByLot_28 ?_
    refine g_X2_116 (pc := 31) rfl hA.2.2.2.2.2.1.2.1 dX2_drawnByLot_31 ?_
    rw [hT]
    refine j_icmpN_ge (pc := 34) (tgt := 52) (by first | decide | omega) (by first | decide | omega) dX2_drawnByLot_34 (by decide) (fun c34 => ?_) (fun c34 => ?_)
    · refine j_iconst (pc := 52) (v := 0) dX2_drawnByLot_52 (by decide) ?_
      refine j_istore3 (pc := 53) dX2_drawnByLot_53 (by decide) trivial ?_
      refine j_aload0 (pc := 54) dX2_drawnByLot_54 ?_
      refine g_X2_42 (pc := 55) rfl hA.1 hA.2.2.2.2.2.1.1 dX2_drawnByLot_55 ?_
      refine j_iload3 (pc := 58) dX2_drawnByLot_58 ?_
      refine j_iload1 (pc := 59) dX2_drawnByLot_59 ?_
      refine j_irem (pc := 60) dX2_drawnByLot_60 (c9) ?_
      refine j_i2l (pc := 61) dX2_drawnByLot_61 ?_
      refine cd_X2_264 (pc := 62) rfl (t_ableNumber hB) hA.2.2.2.2.2.1.2.1 dX2_drawnByLot_62 rfl rfl ?_
      refine j_iret (pc := 65) dX2_drawnByLot_65 rfl rfl ?_
      first | (rw [if_neg c9]; unfold lotC; rw [if_pos c34]; exact ⟨_, rfl, rfl, rfl⟩) | (rw [if_neg c9]; unfold lotC; rw [if_neg (Nat.not_lt.mpr c34)]; exact ⟨_, rfl, rfl, rfl⟩)
    · refine j_iload2 (pc := 37) dX2_drawnByLot_37 ?_
      refine j_bipush (pc := 38) (v := nI 60) dX2_drawnByLot_38 (by decide) ?_
      refine j_icmpN_ge (pc := 40) (tgt := 52) (by first | decide | omega) (by first | decide | omega) dX2_drawnByLot_40 (by decide) (fun c40 => by omega) (fun c40 => ?_)
      refine j_aload0 (pc := 43) dX2_drawnByLot_43 ?_
      refine g_X2_26 (pc := 44) rfl hA.1 hA.2.2.1.1 dX2_drawnByLot_44 ?_
      refine j_iload2 (pc := 47) dX2_drawnByLot_47 ?_
      refine j_iald (pc := 48) hA.2.2.1.2 (pk_in r 60 (by omega) rfl) dX2_drawnByLot_48 ?_
      rw [nI_clamp (show r < 2 ^ 31 by omega)]
      refine j_goto (pc := 49) (tgt := 53) dX2_drawnByLot_49 (by decide) ?_
      refine j_istore3 (pc := 53) dX2_drawnByLot_53 (by decide) trivial ?_
      refine j_aload0 (pc := 54) dX2_drawnByLot_54 ?_
      refine g_X2_42 (pc := 55) rfl hA.1 hA.2.2.2.2.2.1.1 dX2_drawnByLot_55 ?_
      refine j_iload3 (pc := 58) dX2_drawnByLot_58 ?_
      refine j_iload1 (pc := 59) dX2_drawnByLot_59 ?_
      refine j_irem (pc := 60) dX2_drawnByLot_60 (c9) ?_
      refine j_i2l (pc := 61) dX2_drawnByLot_61 ?_
      refine cd_X2_264 (pc := 62) rfl (t_ableNumber hB) hA.2.2.2.2.2.1.2.1 dX2_drawnByLot_62 rfl rfl ?_
      refine j_iret (pc := 65) dX2_drawnByLot_65 rfl rfl ?_
      first | (rw [if_neg c9]; unfold lotC; rw [if_pos c34]; exact ⟨_, rfl, rfl, rfl⟩) | (rw [if_neg c9]; unfold lotC; rw [if_neg (Nat.not_lt.mpr c34)]; exact ⟨_, rfl, rfl, rfl⟩)
  · refine j_iconst (pc := 12) (v := (-1)) dX2_drawnByLot_12 (by decide) ?_
    refine j_iret (pc := 13) dX2_drawnByLot_13 rfl rfl ?_
    exact ⟨_, rfl, by rw [if_pos c9], rfl⟩
end

