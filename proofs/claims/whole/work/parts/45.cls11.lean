/-! the class: telling a lot, tearing the row -/
def rLot (h : Hp) (A : Nat) (x : Int32) (T : Nat) : Int32 × Hp := if h.i (A + 5) 1 = 2 then (2, h) else if h.i A 0 = 1 then (if x < 0 then (7, h) else if T < 60 then (0, (h.setI (A + 2) T x).setI (A + 5) 6 (nI (T + 1))) else (9, h)) else (4, h)
def rTear (h : Hp) (A : Nat) : Int32 × Hp := if h.i (A + 5) 1 = 1 then (if h.i (A + 5) 4 = -1 then (5, h) else (0, (itr (rrC (A + 5)) 60 h).setI (A + 5) 4 (-1))) else (2, h)
section
variable {cx : Cx} {h : Hp} {A : Nat}
theorem t_tellLot {x : Int32} {T : Nat} (hA : RSh h.1 A) (hT : h.i (A + 5) 6 = nI T) (hT6 : T ≤ 60) : DI cx mX2_tellLot 0 h [.ref A, .int x] (rLot h A x T).1 (rLot h A x T).2 := by
  unfold rLot
  refine Sp.of 0 (by decide) (Nat.le_of_ble_eq_true rfl) rfl ?_
  refine j_aload0 (pc := 0) dX2_tellLot_0 ?_
  refine g_X2_42 (pc := 1) rfl hA.1 hA.2.2.2.2.2.1.1 dX2_tellLot_1 ?_
  refine g_X2_85 (pc := 4) rfl hA.2.2.2.2.2.1.2.1 dX2_tellLot_4 ?_
  refine j_iconst (pc := 7) (v := 2) dX2_tellLot_7 (by decide) ?_
  refine j_icmp_ne (pc := 8) (tgt := 13) dX2_tellLot_8 (by decide) (fun c8 => ?_) (fun c8 => ?_)
  · refine j_aload0 (pc := 13) dX2_tellLot_13 ?_
    refine g_X2_9 (pc := 14) rfl hA.1 dX2_tellLot_14 ?_
    refine j_iconst (pc := 17) (v := 1) dX2_tellLot_17 (by decide) ?_
    refine j_icmp_eq (pc := 18) (tgt := 23) dX2_tellLot_18 (by decide) (fun c18 => ?_) (fun c18 => ?_)
    · refine j_iload1 (pc := 23) dX2_tellLot_23 ?_
      refine j_if_ge (pc := 24) (tgt := 30) dX2_tellLot_24 (by decide) (fun c24 => ?_) (fun c24 => ?_)
      · refine j_aload0 (pc := 30) dX2_tellLot_30 ?_
        refine g_X2_42 (pc := 31) rfl hA.1 hA.2.2.2.2.2.1.1 dX2_tellLot_31 ?_
        refine g_X2_116 (pc := 34) rfl hA.2.2.2.2.2.1.2.1 dX2_tellLot_34 ?_
        rw [hT]
        refine j_bipush (pc := 37) (v := nI 60) dX2_tellLot_37 (by decide) ?_
        refine j_icmpN_lt (pc := 39) (tgt := 45) (by first | decide | omega) (by first | decide | omega) dX2_tellLot_39 (by decide) (fun c39 => ?_) (fun c39 => ?_)
        · refine j_aload0 (pc := 45) dX2_tellLot_45 ?_
          refine g_X2_26 (pc := 46) rfl hA.1 hA.2.2.1.1 dX2_tellLot_46 ?_
          refine j_aload0 (pc := 49) dX2_tellLot_49 ?_
          refine g_X2_42 (pc := 50) rfl hA.1 hA.2.2.2.2.2.1.1 dX2_tellLot_50 ?_
          refine g_X2_116 (pc := 53) rfl hA.2.2.2.2.2.1.2.1 dX2_tellLot_53 ?_
          rw [hT]
          refine j_iload1 (pc := 56) dX2_tellLot_56 ?_
          refine j_iast (pc := 57) hA.2.2.1.2 (pk_in T 60 c39 rfl) dX2_tellLot_57 ?_
          rw [nI_clamp (show T < 2 ^ 31 by omega)]
          refine j_aload0 (pc := 58) dX2_tellLot_58 ?_
          refine g_X2_42 (pc := 59) rfl hA.1 hA.2.2.2.2.2.1.1 dX2_tellLot_59 ?_
          refine j_dup (pc := 62) dX2_tellLot_62 ?_
          refine g_X2_116 (pc := 63) rfl hA.2.2.2.2.2.1.2.1 dX2_tellLot_63 ?_
          rw [show (h.setI (A + 2) T x).i (A + 5) 6 = nI T from (up2_a _ _ (by omega)).trans hT]
          refine j_iconst (pc := 66) (v := nI 1) dX2_tellLot_66 (by decide) ?_
          refine j_iaddN (pc := 67) dX2_tellLot_67 ?_
          refine p_X2_116 (pc := 68) rfl hA.2.2.2.2.2.1.2.1 dX2_tellLot_68 ?_
          refine j_iconst (pc := 71) (v := 0) dX2_tellLot_71 (by decide) ?_
          refine j_iret (pc := 72) dX2_tellLot_72 rfl rfl ?_
          exact ⟨_, rfl, by rw [if_neg c8, if_pos c18, if_neg (Int32.not_lt.mpr c24), if_pos c39], by rw [if_neg c8, if_pos c18, if_neg (Int32.not_lt.mpr c24), if_pos c39]⟩
        · refine j_bipush (pc := 42) (v := 9) dX2_tellLot_42 (by decide) ?_
          refine j_iret (pc := 44) dX2_tellLot_44 rfl rfl ?_
          exact ⟨_, rfl, by rw [if_neg c8, if_pos c18, if_neg (Int32.not_lt.mpr c24), if_neg (Nat.not_lt.mpr c39)], by rw [if_neg c8, if_pos c18, if_neg (Int32.not_lt.mpr c24), if_neg (Nat.not_lt.mpr c39)]⟩
      · refine j_bipush (pc := 27) (v := 7) dX2_tellLot_27 (by decide) ?_
        refine j_iret (pc := 29) dX2_tellLot_29 rfl rfl ?_
        exact ⟨_, rfl, by rw [if_neg c8, if_pos c18, if_pos (Int32.not_le.mp c24)], by rw [if_neg c8, if_pos c18, if_pos (Int32.not_le.mp c24)]⟩
    · refine j_iconst (pc := 21) (v := 4) dX2_tellLot_21 (by decide) ?_
      refine j_iret (pc := 22) dX2_tellLot_22 rfl rfl ?_
      exact ⟨_, rfl, by rw [if_neg c8, if_neg c18], by rw [if_neg c8, if_neg c18]⟩
  · refine j_iconst (pc := 11) (v := 2) dX2_tellLot_11 (by decide) ?_
    refine j_iret (pc := 12) dX2_tellLot_12 rfl rfl ?_
    exact ⟨_, rfl, by rw [if_pos c8], by rw [if_pos c8]⟩
theorem t_tearRow (hA : RSh h.1 A) : DI cx mX2_tearRow 3 h [.ref A] (rTear h A).1 (rTear h A).2 := by
  have S := t_replaceRow (cx := cx) (h := h) (B := A + 5) (m := -1) hA.2.2.2.2.2.1.2
  unfold rTear
  refine Sp.of 0 (by decide) (Nat.le_of_ble_eq_true rfl) rfl ?_
  refine j_aload0 (pc := 0) dX2_tearRow_0 ?_
  refine g_X2_42 (pc := 1) rfl hA.1 hA.2.2.2.2.2.1.1 dX2_tearRow_1 ?_
  refine g_X2_85 (pc := 4) rfl hA.2.2.2.2.2.1.2.1 dX2_tearRow_4 ?_
  refine j_iconst (pc := 7) (v := 1) dX2_tearRow_7 (by decide) ?_
  refine j_icmp_eq (pc := 8) (tgt := 13) dX2_tearRow_8 (by decide) (fun c8 => ?_) (fun c8 => ?_)
  · refine j_aload0 (pc := 13) dX2_tearRow_13 ?_
    refine g_X2_42 (pc := 14) rfl hA.1 hA.2.2.2.2.2.1.1 dX2_tearRow_14 ?_
    refine g_X2_157 (pc := 17) rfl hA.2.2.2.2.2.1.2.1 dX2_tearRow_17 ?_
    refine j_iconst (pc := 20) (v := (-1)) dX2_tearRow_20 (by decide) ?_
    refine j_icmp_ne (pc := 21) (tgt := 26) dX2_tearRow_21 (by decide) (fun c21 => ?_) (fun c21 => ?_)
    · refine j_aload0 (pc := 26) dX2_tearRow_26 ?_
      refine g_X2_42 (pc := 27) rfl hA.1 hA.2.2.2.2.2.1.1 dX2_tearRow_27 ?_
      refine j_iconst (pc := 30) (v := (-1)) dX2_tearRow_30 (by decide) ?_
      refine cd_X2_153 (pc := 31) rfl (S) hA.2.2.2.2.2.1.2.1 dX2_tearRow_31 rfl rfl ?_
      refine j_iconst (pc := 34) (v := 0) dX2_tearRow_34 (by decide) ?_
      refine j_iret (pc := 35) dX2_tearRow_35 rfl rfl ?_
      exact ⟨_, rfl, by rw [if_pos c8, if_neg c21], by rw [if_pos c8, if_neg c21]⟩
    · refine j_iconst (pc := 24) (v := 5) dX2_tearRow_24 (by decide) ?_
      refine j_iret (pc := 25) dX2_tearRow_25 rfl rfl ?_
      exact ⟨_, rfl, by rw [if_pos c8, if_pos c21], by rw [if_pos c8, if_pos c21]⟩
  · refine j_iconst (pc := 11) (v := 2) dX2_tearRow_11 (by decide) ?_
    refine j_iret (pc := 12) dX2_tearRow_12 rfl rfl ?_
    exact ⟨_, rfl, by rw [if_neg c8], by rw [if_neg c8]⟩
end

