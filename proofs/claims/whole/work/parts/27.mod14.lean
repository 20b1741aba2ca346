/-! the reference: tell, check, look, count, copies -/
theorem lNmul3 (n : Nat) : (3 : Int64) * lN n = lN (3 * n) := by rw [show (3 : Int64) = lN 3 from rfl, lN_mul]
section
variable {cx : Cx} {h : Hp} {M a : Nat} {f : Fl}
def fTell (h : Hp) (M n : Nat) (x : Int64) : Int32 × Hp := if n = 180 then (-1, h) else (nI (n + 1), (h.setL (M + 5) n x).setI M 7 (nI (n + 1)))
theorem s_tell {x : Int64} {n : Nat} (hM : MSh h.1 M) (hn : h.i M 7 = nI n) (hn8 : n ≤ 180) : DI cx mX5_tell 0 h [.ref M, .long x] (fTell h M n x).1 (fTell h M n x).2 := by
  refine Sp.of 0 (by decide) (Nat.le_of_ble_eq_true rfl) rfl ?_
  refine j_aload0 (pc := 0) dX5_tell_0 ?_
  refine g_X5_176 (pc := 1) rfl hM.1 dX5_tell_1 ?_
  rw [hn]
  refine j_sipush (pc := 4) (v := nI 180) dX5_tell_4 (by decide) ?_
  refine j_icmpN_ne (pc := 7) (tgt := 12) (by first | decide | omega) (by first | decide | omega) dX5_tell_7 (by decide) (fun c7 => ?_) (fun c7 => ?_)
  · refine j_aload0 (pc := 12) dX5_tell_12 ?_
    refine g_X5_26 (pc := 13) rfl hM.1 hM.2.2.2.2.2.1 dX5_tell_13 ?_
    refine j_aload0 (pc := 16) dX5_tell_16 ?_
    refine g_X5_176 (pc := 17) rfl hM.1 dX5_tell_17 ?_
    rw [hn]
    refine j_lload1 (pc := 20) dX5_tell_20 ?_
    refine j_last (pc := 21) hM.2.2.2.2.2.2 (pk_in n 180 (by omega) rfl) dX5_tell_21 ?_
    rw [nI_clamp (by omega)]
    refine j_aload0 (pc := 22) dX5_tell_22 ?_
    refine j_dup (pc := 23) dX5_tell_23 ?_
    refine g_X5_176 (pc := 24) rfl hM.1 dX5_tell_24 ?_
    rw [show (h.setL (M + 5) n x).i M 7 = nI n from hn]
    refine j_iconst (pc := 27) (v := nI 1) dX5_tell_27 (by decide) ?_
    refine j_iaddN (pc := 28) dX5_tell_28 ?_
    refine p_X5_176 (pc := 29) rfl hM.1 dX5_tell_29 ?_
    refine j_aload0 (pc := 32) dX5_tell_32 ?_
    refine g_X5_176 (pc := 33) rfl hM.1 dX5_tell_33 ?_
    rw [show ((h.setL (M + 5) n x).setI M 7 (nI (n + 1))).i M 7 = nI (n + 1) from up2_s _ _ _ _]
    refine j_iret (pc := 36) dX5_tell_36 rfl rfl ?_
    exact ⟨_, rfl, by unfold fTell; rw [if_neg c7], by unfold fTell; rw [if_neg c7]⟩
  · refine j_iconst (pc := 10) (v := (-1)) dX5_tell_10 (by decide) ?_
    refine j_iret (pc := 11) dX5_tell_11 rfl rfl ?_
    exact ⟨_, rfl, by unfold fTell; rw [if_pos c7], by unfold fTell; rw [if_pos c7]⟩
theorem s_lookN {r : Int32} {s w : Int32} (hM : MSh h.1 M) (hr : isRi h M r = false) : DL cx mX5_look 3 h [.ref M, .int r, .int s, .int w] (-1) h := by
  refine Sp.of 0 (by decide) (Nat.le_of_ble_eq_true rfl) rfl ?_
  refine j_aload0 (pc := 0) dX5_look_0 ?_
  refine j_iload1 (pc := 1) dX5_look_1 ?_
  refine cd_X5_68 (pc := 2) rfl (s_isRing _ hM) hM.1 dX5_look_2 rfl rfl ?_
  refine j_bif_eq (pc := 5) (tgt := 25) dX5_look_5 (by decide) (fun c5 => ?_) (fun c5 => by exact nb c5 hr)
  refine j_ldc2 (pc := 25) dX5_look_25 wT_kl_X5_66 ?_
  refine j_lret (pc := 28) dX5_look_28 rfl ?_
  exact ⟨_, rfl, rfl, rfl⟩
theorem s_look {seat w : Int32} (hM : MSh h.1 M) (ha : a < 40) (hr : isRi h M (nI a) = true) : DL cx mX5_look 3 (mh h M a f) [.ref M, .int (nI a), .int seat, .int w] (fLook f (sN seat) w) (mh h M a f) := by
  rcases sN_cases seat with ⟨hso, hsn⟩ | ⟨s, hs, rfl, hso⟩ <;> rw [hso]
  · refine Sp.of 0 (by decide) (Nat.le_of_ble_eq_true rfl) rfl ?_
    refine j_aload0 (pc := 0) dX5_look_0 ?_
    refine j_iload1 (pc := 1) dX5_look_1 ?_
    refine cd_X5_68 (pc := 2) rfl (s_isRing _ hM) hM.1 dX5_look_2 rfl rfl ?_
    refine j_bif_eq (pc := 5) (tgt := 25) dX5_look_5 (by decide) (fun c5 => by exact nb hr c5) (fun c5 => ?_)
    refine j_iload2 (pc := 8) dX5_look_8 ?_
    refine cd_X5_33 (pc := 9) rfl (s_isSeat _) dX5_look_9 rfl rfl ?_
    refine j_bif_eq (pc := 12) (tgt := 25) dX5_look_12 (by decide) (fun c12 => ?_) (fun c12 => by simp [hso] at c12)
    refine j_ldc2 (pc := 25) dX5_look_25 wT_kl_X5_66 ?_
    refine j_lret (pc := 28) dX5_look_28 rfl ?_
    exact ⟨_, rfl, rfl, rfl⟩
  · refine Sp.of 0 (by decide) (Nat.le_of_ble_eq_true rfl) rfl ?_
    refine j_aload0 (pc := 0) dX5_look_0 ?_
    refine j_iload1 (pc := 1) dX5_look_1 ?_
    refine cd_X5_68 (pc := 2) rfl (s_isRing _ hM) hM.1 dX5_look_2 rfl rfl ?_
    refine j_bif_eq (pc := 5) (tgt := 25) dX5_look_5 (by decide) (fun c5 => by exact nb hr c5) (fun c5 => ?_)
    refine j_iload2 (pc := 8) dX5_look_8 ?_
    refine cd_X5_33 (pc := 9) rfl (s_isSeat _) dX5_look_9 rfl rfl ?_
    refine j_bif_eq (pc := 12) (tgt := 25) dX5_look_12 (by decide) (fun c12 => by simp [hso] at c12) (fun c12 => ?_)
    refine j_iload3 (pc := 15) dX5_look_15 ?_
    refine j_if_lt (pc := 16) (tgt := 25) dX5_look_16 (by decide) (fun c16 => ?_) (fun c16 => ?_)
    · refine j_ldc2 (pc := 25) dX5_look_25 wT_kl_X5_66 ?_
      refine j_lret (pc := 28) dX5_look_28 rfl ?_
      exact ⟨_, rfl, by simp_all [fLook, ← Int32.not_le], rfl⟩
    · refine j_iload3 (pc := 19) dX5_look_19 ?_
      refine j_bipush (pc := 20) (v := 11) dX5_look_20 (by decide) ?_
      refine j_icmp_le (pc := 22) (tgt := 29) dX5_look_22 (by decide) (fun c22 => ?_) (fun c22 => ?_)
      · refine j_iload3 (pc := 29) dX5_look_29 ?_
        refine j_if_le (pc := 30) (tgt := 52) dX5_look_30 (by decide) (fun c30 => ?_) (fun c30 => ?_)
        · obtain ⟨ww, hww, rfl⟩ := i_natc (n := 11) rfl (by decide) c16 c22
          refine j_aload0 (pc := 52) dX5_look_52 ?_
          refine j_iload1 (pc := 53) dX5_look_53 ?_
          refine j_iload2 (pc := 54) dX5_look_54 ?_
          refine j_gstF rfl dX5_look_55 ?_
          refine j_iload3 (pc := 58) dX5_look_58 ?_
          refine j_ialF (by omega) dX5_look_59 ?_
          refine j_fldN (by omega) ?_
          refine cd_X5_37 rfl s_at dX5_look_60 rfl rfl ?_
          refine cd_X5_41 rfl (s_get hM ha (ix_lt hs (fldI_lt (by omega)))) hM.1 dX5_look_63 rfl rfl ?_
          refine j_lret dX5_look_66 rfl ?_
          exact ⟨_, rfl, by simp_all [fLook, ← Int32.not_le, nI_clamp (show ww < 2 ^ 31 by omega)], rfl⟩
        · refine j_iload3 (pc := 33) dX5_look_33 ?_
          refine j_bipush (pc := 34) (v := 11) dX5_look_34 (by decide) ?_
          refine j_icmp_ge (pc := 36) (tgt := 52) dX5_look_36 (by decide) (fun c36 => ?_) (fun c36 => ?_)
          · obtain ⟨ww, hww, rfl⟩ := i_natc (n := 11) rfl (by decide) c16 c22
            refine j_aload0 (pc := 52) dX5_look_52 ?_
            refine j_iload1 (pc := 53) dX5_look_53 ?_
            refine j_iload2 (pc := 54) dX5_look_54 ?_
            refine j_gstF rfl dX5_look_55 ?_
            refine j_iload3 (pc := 58) dX5_look_58 ?_
            refine j_ialF (by omega) dX5_look_59 ?_
            refine j_fldN (by omega) ?_
            refine cd_X5_37 rfl s_at dX5_look_60 rfl rfl ?_
            refine cd_X5_41 rfl (s_get hM ha (ix_lt hs (fldI_lt (by omega)))) hM.1 dX5_look_63 rfl rfl ?_
            refine j_lret dX5_look_66 rfl ?_
            exact ⟨_, rfl, by simp_all [fLook, ← Int32.not_le, nI_clamp (show ww < 2 ^ 31 by omega)], rfl⟩
          · refine j_aload0 (pc := 39) dX5_look_39 ?_
            refine j_iload1 (pc := 40) dX5_look_40 ?_
            refine j_iload2 (pc := 41) dX5_look_41 ?_
            refine cd_X5_51 (pc := 42) rfl (s_isPlace hM ha hs) hM.1 dX5_look_42 rfl rfl ?_
            refine j_bif_ne (pc := 45) (tgt := 52) dX5_look_45 (by decide) (fun c45 => ?_) (fun c45 => ?_)
            · obtain ⟨ww, hww, rfl⟩ := i_natc (n := 11) rfl (by decide) c16 c22
              refine j_aload0 (pc := 52) dX5_look_52 ?_
              refine j_iload1 (pc := 53) dX5_look_53 ?_
              refine j_iload2 (pc := 54) dX5_look_54 ?_
              refine j_gstF rfl dX5_look_55 ?_
              refine j_iload3 (pc := 58) dX5_look_58 ?_
              refine j_ialF (by omega) dX5_look_59 ?_
              refine j_fldN (by omega) ?_
              refine cd_X5_37 rfl s_at dX5_look_60 rfl rfl ?_
              refine cd_X5_41 rfl (s_get hM ha (ix_lt hs (fldI_lt (by omega)))) hM.1 dX5_look_63 rfl rfl ?_
              refine j_lret dX5_look_66 rfl ?_
              exact ⟨_, rfl, by simp_all [fLook, ← Int32.not_le, nI_clamp (show ww < 2 ^ 31 by omega)], rfl⟩
            · refine j_ldc2 (pc := 48) dX5_look_48 wT_kl_X5_66 ?_
              refine j_lret (pc := 51) dX5_look_51 rfl ?_
              exact ⟨_, rfl, by simp_all [fLook, ← Int32.not_le], rfl⟩
      · refine j_ldc2 (pc := 25) dX5_look_25 wT_kl_X5_66 ?_
        refine j_lret (pc := 28) dX5_look_28 rfl ?_
        exact ⟨_, rfl, by simp_all [fLook, ← Int32.not_le], rfl⟩
end

