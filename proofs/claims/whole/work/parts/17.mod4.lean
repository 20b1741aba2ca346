/-! the reference: bid, need, yes, pay, open, replace, drawn, look, count, fair -/
theorem lN_2 : lN 2 = 2 := rfl
theorem lN_3 : lN 3 = 3 := rfl
/-- the sureties are seats -/
def suOK (f : Fl) : Prop := ∀ s, s < 60 → f (ix s 2) = -1 ∨ ∃ q, q < 60 ∧ f (ix s 2) = lN q
theorem m1_i : (-1 : Int64).toInt32 = -1 := by decide
theorem lN_ne {q : Nat} (hq : q < 60) : ¬ lN q = -1 := by
  intro h
  have h1 := congrArg Int64.toInt h
  rw [lN_toInt (by omega)] at h1
  have h2 : (-1 : Int64).toInt = -1 := by decide
  rw [h2] at h1
  omega
theorem nI_ne {q : Nat} (hq : q < 60) : ¬ nI q = -1 := by
  intro h
  have h1 := congrArg Int32.toInt h
  rw [nI_toInt (by omega)] at h1
  have h2 : (-1 : Int32).toInt = -1 := by decide
  rw [h2] at h1
  omega
section
variable {cx : Cx} {h : Hp} {M a : Nat} {f : Fl}
theorem s_bid {seat : Int32} {b : Int64} (hM : MSh h.1 M) (ha : a < 40) (hr : isRi h M (nI a) = true) : DI cx mX5_bid 4 (mh h M a f) [.ref M, .int (nI a), .int seat, .long b] (fBid f (sN seat) b).1 (mh h M a (fBid f (sN seat) b).2) := by
  rcases sN_cases seat with ⟨hso, hsn⟩ | ⟨s, hs, rfl, hso⟩ <;> rw [hso]
  · refine Sp.of 1 (by decide) (Nat.le_of_ble_eq_true rfl) rfl ?_
    refine j_aload0 dX5_bid_0 ?_
    refine j_iload1 dX5_bid_1 ?_
    refine j_iconst (v := nI 2) dX5_bid_2 (by decide) ?_
    refine cd_X5_95 rfl (s_againstKind hM ha hr (by decide)) hM.1 dX5_bid_3 rfl rfl ?_
    refine j_istore5 dX5_bid_6 (by decide) trivial ?_
    refine j_iload5 dX5_bid_8 ?_
    refine j_if_ne (tgt := 21) dX5_bid_10 (by decide) (fun c10 => ?_) (fun c10 => ?_)
    · refine j_iload5 dX5_bid_21 ?_
      refine j_if_eq (tgt := 29) dX5_bid_23 (by decide) (fun c23 => ?_) (fun c23 => ?_)
      · exfalso; simp_all [ag, lN_2] <;> (split at c23 <;> simp at c23)
      · refine j_iload5 dX5_bid_26 ?_
        refine j_iret dX5_bid_28 rfl rfl ?_
        exact ⟨_, rfl, by simp_all [fBid, lN_2], by simp_all [fBid, lN_2]⟩
    · refine j_aload0 dX5_bid_13 ?_
      refine j_iload1 dX5_bid_14 ?_
      refine j_iload2 dX5_bid_15 ?_
      refine cd_X5_81 rfl (s_against hM ha hr) hM.1 dX5_bid_16 rfl rfl ?_
      refine j_istore5 dX5_bid_19 (by decide) trivial ?_
      refine j_iload5 dX5_bid_21 ?_
      refine j_if_eq (tgt := 29) dX5_bid_23 (by decide) (fun c23 => ?_) (fun c23 => ?_)
      · exfalso; simp_all [ag, lN_2] <;> (split at c23 <;> simp at c23)
      · refine j_iload5 dX5_bid_26 ?_
        refine j_iret dX5_bid_28 rfl rfl ?_
        exact ⟨_, rfl, by simp_all [fBid, lN_2], by simp_all [fBid, lN_2]⟩
  · refine Sp.of 1 (by decide) (Nat.le_of_ble_eq_true rfl) rfl ?_
    refine j_aload0 dX5_bid_0 ?_
    refine j_iload1 dX5_bid_1 ?_
    refine j_iconst (v := nI 2) dX5_bid_2 (by decide) ?_
    refine cd_X5_95 rfl (s_againstKind hM ha hr (by decide)) hM.1 dX5_bid_3 rfl rfl ?_
    refine j_istore5 dX5_bid_6 (by decide) trivial ?_
    refine j_iload5 dX5_bid_8 ?_
    refine j_if_ne (tgt := 21) dX5_bid_10 (by decide) (fun c10 => ?_) (fun c10 => ?_)
    · refine j_iload5 dX5_bid_21 ?_
      refine j_if_eq (tgt := 29) dX5_bid_23 (by decide) (fun c23 => ?_) (fun c23 => ?_)
      · refine j_aload0 dX5_bid_29 ?_
        refine j_iload1 dX5_bid_30 ?_
        refine j_iload2 dX5_bid_31 ?_
        refine j_iconst (v := nI 3) dX5_bid_32 (by decide) ?_
        refine cd_X5_37 rfl (s_at) dX5_bid_33 rfl rfl ?_
        refine cd_X5_41 rfl (s_get hM ha (by first | decide | exact ix_lt hs (by decide) | omega)) hM.1 dX5_bid_36 rfl rfl ?_
        refine j_lconst (v := 1) dX5_bid_39 (by decide) ?_
        refine j_lcmp_ne (tgt := 47) dX5_bid_40 dX5_bid_41 (by decide) (fun c40 => ?_) (fun c40 => ?_)
        · refine j_lload3 dX5_bid_47 ?_
          refine j_lconst (v := 0) dX5_bid_48 (by decide) ?_
          refine j_lcmp_lt (tgt := 63) dX5_bid_49 dX5_bid_50 (by decide) (fun c49 => ?_) (fun c49 => ?_)
          · refine j_bipush (v := 7) dX5_bid_63 (by decide) ?_
            refine j_iret dX5_bid_65 rfl rfl ?_
            exact ⟨_, rfl, by simp_all [fBid, lN_2, ← Int64.not_le], by simp_all [fBid, lN_2, ← Int64.not_le]⟩
          · refine j_lload3 dX5_bid_53 ?_
            refine j_aload0 dX5_bid_54 ?_
            refine j_iload1 dX5_bid_55 ?_
            refine cd_X5_98 rfl (s_purse hM ha) hM.1 dX5_bid_56 rfl rfl ?_
            refine j_lcmp_le (tgt := 66) dX5_bid_59 dX5_bid_60 (by decide) (fun c59 => ?_) (fun c59 => ?_)
            · refine j_aload0 dX5_bid_66 ?_
              refine j_iload1 dX5_bid_67 ?_
              refine j_iload2 dX5_bid_68 ?_
              refine j_bipush (v := nI 15) dX5_bid_69 (by decide) ?_
              refine cd_X5_37 rfl (s_at) dX5_bid_71 rfl rfl ?_
              refine j_lload3 dX5_bid_74 ?_
              refine cd_X5_62 rfl (s_set hM ha (by first | decide | exact ix_lt hs (by decide) | omega)) hM.1 dX5_bid_75 rfl rfl ?_
              refine j_iconst (v := 0) dX5_bid_78 (by decide) ?_
              refine j_iret dX5_bid_79 rfl rfl ?_
              exact ⟨_, rfl, by simp_all [fBid, lN_2, ← Int64.not_le], by simp_all [fBid, lN_2, ← Int64.not_le]⟩
            · refine j_bipush (v := 7) dX5_bid_63 (by decide) ?_
              refine j_iret dX5_bid_65 rfl rfl ?_
              exact ⟨_, rfl, by simp_all [fBid, lN_2, ← Int64.not_le], by simp_all [fBid, lN_2, ← Int64.not_le]⟩
        · refine j_bipush (v := 8) dX5_bid_44 (by decide) ?_
          refine j_iret dX5_bid_46 rfl rfl ?_
          exact ⟨_, rfl, by simp_all [fBid, lN_2, ← Int64.not_le], by simp_all [fBid, lN_2, ← Int64.not_le]⟩
      · refine j_iload5 dX5_bid_26 ?_
        refine j_iret dX5_bid_28 rfl rfl ?_
        exact ⟨_, rfl, by simp_all [fBid, lN_2, ← Int64.not_le], by simp_all [fBid, lN_2, ← Int64.not_le]⟩
    · refine j_aload0 dX5_bid_13 ?_
      refine j_iload1 dX5_bid_14 ?_
      refine j_iload2 dX5_bid_15 ?_
      refine cd_X5_81 rfl (s_against hM ha hr) hM.1 dX5_bid_16 rfl rfl ?_
      refine j_istore5 dX5_bid_19 (by decide) trivial ?_
      refine j_iload5 dX5_bid_21 ?_
      refine j_if_eq (tgt := 29) dX5_bid_23 (by decide) (fun c23 => ?_) (fun c23 => ?_)
      · refine j_aload0 dX5_bid_29 ?_
        refine j_iload1 dX5_bid_30 ?_
        refine j_iload2 dX5_bid_31 ?_
        refine j_iconst (v := nI 3) dX5_bid_32 (by decide) ?_
        refine cd_X5_37 rfl (s_at) dX5_bid_33 rfl rfl ?_
        refine cd_X5_41 rfl (s_get hM ha (by first | decide | exact ix_lt hs (by decide) | omega)) hM.1 dX5_bid_36 rfl rfl ?_
        refine j_lconst (v := 1) dX5_bid_39 (by decide) ?_
        refine j_lcmp_ne (tgt := 47) dX5_bid_40 dX5_bid_41 (by decide) (fun c40 => ?_) (fun c40 => ?_)
        · refine j_lload3 dX5_bid_47 ?_
          refine j_lconst (v := 0) dX5_bid_48 (by decide) ?_
          refine j_lcmp_lt (tgt := 63) dX5_bid_49 dX5_bid_50 (by decide) (fun c49 => ?_) (fun c49 => ?_)
          · refine j_bipush (v := 7) dX5_bid_63 (by decide) ?_
            refine j_iret dX5_bid_65 rfl rfl ?_
            exact ⟨_, rfl, by simp_all [fBid, lN_2, ← Int64.not_le], by simp_all [fBid, lN_2, ← Int64.not_le]⟩
          · refine j_lload3 dX5_bid_53 ?_
            refine j_aload0 dX5_bid_54 ?_
            refine j_iload1 dX5_bid_55 ?_
            refine cd_X5_98 rfl (s_purse hM ha) hM.1 dX5_bid_56 rfl rfl ?_
            refine j_lcmp_le (tgt := 66) dX5_bid_59 dX5_bid_60 (by decide) (fun c59 => ?_) (fun c59 => ?_)
            · refine j_aload0 dX5_bid_66 ?_
              refine j_iload1 dX5_bid_67 ?_
              refine j_iload2 dX5_bid_68 ?_
              refine j_bipush (v := nI 15) dX5_bid_69 (by decide) ?_
              refine cd_X5_37 rfl (s_at) dX5_bid_71 rfl rfl ?_
              refine j_lload3 dX5_bid_74 ?_
              refine cd_X5_62 rfl (s_set hM ha (by first | decide | exact ix_lt hs (by decide) | omega)) hM.1 dX5_bid_75 rfl rfl ?_
              refine j_iconst (v := 0) dX5_bid_78 (by decide) ?_
              refine j_iret dX5_bid_79 rfl rfl ?_
              exact ⟨_, rfl, by simp_all [fBid, lN_2, ← Int64.not_le], by simp_all [fBid, lN_2, ← Int64.not_le]⟩
            · refine j_bipush (v := 7) dX5_bid_63 (by decide) ?_
              refine j_iret dX5_bid_65 rfl rfl ?_
              exact ⟨_, rfl, by simp_all [fBid, lN_2, ← Int64.not_le], by simp_all [fBid, lN_2, ← Int64.not_le]⟩
        · refine j_bipush (v := 8) dX5_bid_44 (by decide) ?_
          refine j_iret dX5_bid_46 rfl rfl ?_
          exact ⟨_, rfl, by simp_all [fBid, lN_2, ← Int64.not_le], by simp_all [fBid, lN_2, ← Int64.not_le]⟩
      · refine j_iload5 dX5_bid_26 ?_
        refine j_iret dX5_bid_28 rfl rfl ?_
        exact ⟨_, rfl, by simp_all [fBid, lN_2, ← Int64.not_le], by simp_all [fBid, lN_2, ← Int64.not_le]⟩
theorem s_need {seat : Int32} (hM : MSh h.1 M) (ha : a < 40) (hr : isRi h M (nI a) = true) : DI cx mX5_need 4 (mh h M a f) [.ref M, .int (nI a), .int seat] (fNeed f (sN seat)).1 (mh h M a (fNeed f (sN seat)).2) := by
  rcases sN_cases seat with ⟨hso, hsn⟩ | ⟨s, hs, rfl, hso⟩ <;> rw [hso]
  · refine Sp.of 1 (by decide) (Nat.le_of_ble_eq_true rfl) rfl ?_
    refine j_aload0 dX5_need_0 ?_
    refine j_iload1 dX5_need_1 ?_
    refine j_iconst (v := nI 3) dX5_need_2 (by decide) ?_
    refine cd_X5_95 rfl (s_againstKind hM ha hr (by decide)) hM.1 dX5_need_3 rfl rfl ?_
    refine j_istore3 dX5_need_6 (by decide) trivial ?_
    refine j_iload3 dX5_need_7 ?_
    refine j_if_ne (tgt := 18) dX5_need_8 (by decide) (fun c8 => ?_) (fun c8 => ?_)
    · refine j_iload3 dX5_need_18 ?_
      refine j_if_eq (tgt := 24) dX5_need_19 (by decide) (fun c19 => ?_) (fun c19 => ?_)
      · exfalso; simp_all [ag, lN_3] <;> (split at c19 <;> simp at c19)
      · refine j_iload3 dX5_need_22 ?_
        refine j_iret dX5_need_23 rfl rfl ?_
        exact ⟨_, rfl, by simp_all [fNeed, lN_3], by simp_all [fNeed, lN_3]⟩
    · refine j_aload0 dX5_need_11 ?_
      refine j_iload1 dX5_need_12 ?_
      refine j_iload2 dX5_need_13 ?_
      refine cd_X5_81 rfl (s_against hM ha hr) hM.1 dX5_need_14 rfl rfl ?_
      refine j_istore3 dX5_need_17 (by decide) trivial ?_
      refine j_iload3 dX5_need_18 ?_
      refine j_if_eq (tgt := 24) dX5_need_19 (by decide) (fun c19 => ?_) (fun c19 => ?_)
      · exfalso; simp_all [ag, lN_3] <;> (split at c19 <;> simp at c19)
      · refine j_iload3 dX5_need_22 ?_
        refine j_iret dX5_need_23 rfl rfl ?_
        exact ⟨_, rfl, by simp_all [fNeed, lN_3], by simp_all [fNeed, lN_3]⟩
  · refine Sp.of 1 (by decide) (Nat.le_of_ble_eq_true rfl) rfl ?_
    refine j_aload0 dX5_need_0 ?_
    refine j_iload1 dX5_need_1 ?_
    refine j_iconst (v := nI 3) dX5_need_2 (by decide) ?_
    refine cd_X5_95 rfl (s_againstKind hM ha hr (by decide)) hM.1 dX5_need_3 rfl rfl ?_
    refine j_istore3 dX5_need_6 (by decide) trivial ?_
    refine j_iload3 dX5_need_7 ?_
    refine j_if_ne (tgt := 18) dX5_need_8 (by decide) (fun c8 => ?_) (fun c8 => ?_)
    · refine j_iload3 dX5_need_18 ?_
      refine j_if_eq (tgt := 24) dX5_need_19 (by decide) (fun c19 => ?_) (fun c19 => ?_)
      · refine j_aload0 dX5_need_24 ?_
        refine j_iload1 dX5_need_25 ?_
        refine j_iload2 dX5_need_26 ?_
        refine j_iconst (v := nI 3) dX5_need_27 (by decide) ?_
        refine cd_X5_37 rfl (s_at) dX5_need_28 rfl rfl ?_
        refine cd_X5_41 rfl (s_get hM ha (by first | decide | exact ix_lt hs (by decide) | omega)) hM.1 dX5_need_31 rfl rfl ?_
        refine j_lconst (v := 1) dX5_need_34 (by decide) ?_
        refine j_lcmp_ne (tgt := 42) dX5_need_35 dX5_need_36 (by decide) (fun c35 => ?_) (fun c35 => ?_)
        · refine j_aload0 dX5_need_42 ?_
          refine j_iload1 dX5_need_43 ?_
          refine j_bipush (v := nI 9) dX5_need_44 (by decide) ?_
          refine j_iload2 dX5_need_46 ?_
          refine j_i2lN (by first | decide | omega) dX5_need_47 ?_
          refine cd_X5_62 rfl (s_set hM ha (by first | decide | exact ix_lt hs (by decide) | omega)) hM.1 dX5_need_48 rfl rfl ?_
          refine j_aload0 dX5_need_51 ?_
          refine j_iload1 dX5_need_52 ?_
          refine cd_X5_102 rfl (s_nobodySays hM ha) hM.1 dX5_need_53 rfl rfl ?_
          refine j_iconst (v := 0) dX5_need_56 (by decide) ?_
          refine j_iret dX5_need_57 rfl rfl ?_
          exact ⟨_, rfl, by simp_all [fNeed, lN_3], by simp_all [fNeed, lN_3]⟩
        · refine j_bipush (v := 8) dX5_need_39 (by decide) ?_
          refine j_iret dX5_need_41 rfl rfl ?_
          exact ⟨_, rfl, by simp_all [fNeed, lN_3], by simp_all [fNeed, lN_3]⟩
      · refine j_iload3 dX5_need_22 ?_
        refine j_iret dX5_need_23 rfl rfl ?_
        exact ⟨_, rfl, by simp_all [fNeed, lN_3], by simp_all [fNeed, lN_3]⟩
    · refine j_aload0 dX5_need_11 ?_
      refine j_iload1 dX5_need_12 ?_
      refine j_iload2 dX5_need_13 ?_
      refine cd_X5_81 rfl (s_against hM ha hr) hM.1 dX5_need_14 rfl rfl ?_
      refine j_istore3 dX5_need_17 (by decide) trivial ?_
      refine j_iload3 dX5_need_18 ?_
      refine j_if_eq (tgt := 24) dX5_need_19 (by decide) (fun c19 => ?_) (fun c19 => ?_)
      · refine j_aload0 dX5_need_24 ?_
        refine j_iload1 dX5_need_25 ?_
        refine j_iload2 dX5_need_26 ?_
        refine j_iconst (v := nI 3) dX5_need_27 (by decide) ?_
        refine cd_X5_37 rfl (s_at) dX5_need_28 rfl rfl ?_
        refine cd_X5_41 rfl (s_get hM ha (by first | decide | exact ix_lt hs (by decide) | omega)) hM.1 dX5_need_31 rfl rfl ?_
        refine j_lconst (v := 1) dX5_need_34 (by decide) ?_
        refine j_lcmp_ne (tgt := 42) dX5_need_35 dX5_need_36 (by decide) (fun c35 => ?_) (fun c35 => ?_)
        · refine j_aload0 dX5_need_42 ?_
          refine j_iload1 dX5_need_43 ?_
          refine j_bipush (v := nI 9) dX5_need_44 (by decide) ?_
          refine j_iload2 dX5_need_46 ?_
          refine j_i2lN (by first | decide | omega) dX5_need_47 ?_
          refine cd_X5_62 rfl (s_set hM ha (by first | decide | exact ix_lt hs (by decide) | omega)) hM.1 dX5_need_48 rfl rfl ?_
          refine j_aload0 dX5_need_51 ?_
          refine j_iload1 dX5_need_52 ?_
          refine cd_X5_102 rfl (s_nobodySays hM ha) hM.1 dX5_need_53 rfl rfl ?_
          refine j_iconst (v := 0) dX5_need_56 (by decide) ?_
          refine j_iret dX5_need_57 rfl rfl ?_
          exact ⟨_, rfl, by simp_all [fNeed, lN_3], by simp_all [fNeed, lN_3]⟩
        · refine j_bipush (v := 8) dX5_need_39 (by decide) ?_
          refine j_iret dX5_need_41 rfl rfl ?_
          exact ⟨_, rfl, by simp_all [fNeed, lN_3], by simp_all [fNeed, lN_3]⟩
      · refine j_iload3 dX5_need_22 ?_
        refine j_iret dX5_need_23 rfl rfl ?_
        exact ⟨_, rfl, by simp_all [fNeed, lN_3], by simp_all [fNeed, lN_3]⟩
theorem s_yes {seat : Int32} (hM : MSh h.1 M) (ha : a < 40) (hr : isRi h M (nI a) = true) : DI cx mX5_yes 4 (mh h M a f) [.ref M, .int (nI a), .int seat] (fYes f (sN seat)).1 (mh h M a (fYes f (sN seat)).2) := by
  rcases sN_cases seat with ⟨hso, hsn⟩ | ⟨s, hs, rfl, hso⟩ <;> rw [hso]
  · refine Sp.of 1 (by decide) (Nat.le_of_ble_eq_true rfl) rfl ?_
    refine j_aload0 dX5_yes_0 ?_
    refine j_iload1 dX5_yes_1 ?_
    refine j_iconst (v := nI 3) dX5_yes_2 (by decide) ?_
    refine cd_X5_95 rfl (s_againstKind hM ha hr (by decide)) hM.1 dX5_yes_3 rfl rfl ?_
    refine j_istore3 dX5_yes_6 (by decide) trivial ?_
    refine j_iload3 dX5_yes_7 ?_
    refine j_if_eq (tgt := 13) dX5_yes_8 (by decide) (fun c8 => ?_) (fun c8 => ?_)
    · refine j_aload0 dX5_yes_13 ?_
      refine j_iload1 dX5_yes_14 ?_
      refine j_iload2 dX5_yes_15 ?_
      refine cd_X5_51 rfl (s_isPlaceN hM ha hso) hM.1 dX5_yes_16 rfl rfl ?_
      refine j_bif_eq (tgt := 36) dX5_yes_19 (by decide) (fun c19 => ?_) (fun c19 => by simp at c19)
      refine j_iconst (v := 3) dX5_yes_36 (by decide) ?_
      refine j_iret dX5_yes_37 rfl rfl ?_
      exact ⟨_, rfl, by simp_all [fYes, lN_3], by simp_all [fYes, lN_3]⟩
    · refine j_iload3 dX5_yes_11 ?_
      refine j_iret dX5_yes_12 rfl rfl ?_
      exact ⟨_, rfl, by simp_all [fYes, lN_3], by simp_all [fYes, lN_3]⟩
  · refine Sp.of 1 (by decide) (Nat.le_of_ble_eq_true rfl) rfl ?_
    refine j_aload0 dX5_yes_0 ?_
    refine j_iload1 dX5_yes_1 ?_
    refine j_iconst (v := nI 3) dX5_yes_2 (by decide) ?_
    refine cd_X5_95 rfl (s_againstKind hM ha hr (by decide)) hM.1 dX5_yes_3 rfl rfl ?_
    refine j_istore3 dX5_yes_6 (by decide) trivial ?_
    refine j_iload3 dX5_yes_7 ?_
    refine j_if_eq (tgt := 13) dX5_yes_8 (by decide) (fun c8 => ?_) (fun c8 => ?_)
    · refine j_aload0 dX5_yes_13 ?_
      refine j_iload1 dX5_yes_14 ?_
      refine j_iload2 dX5_yes_15 ?_
      refine cd_X5_51 rfl (s_isPlace hM ha hs) hM.1 dX5_yes_16 rfl rfl ?_
      refine j_bif_eq (tgt := 36) dX5_yes_19 (by decide) (fun c19 => ?_) (fun c19 => ?_)
      · refine j_iconst (v := 3) dX5_yes_36 (by decide) ?_
        refine j_iret dX5_yes_37 rfl rfl ?_
        exact ⟨_, rfl, by simp_all [fYes, lN_3], by simp_all [fYes, lN_3]⟩
      · refine j_aload0 dX5_yes_22 ?_
        refine j_iload1 dX5_yes_23 ?_
        refine j_bipush (v := nI 9) dX5_yes_24 (by decide) ?_
        refine cd_X5_41 rfl (s_get hM ha (by first | decide | exact ix_lt hs (by decide) | omega)) hM.1 dX5_yes_26 rfl rfl ?_
        refine j_ldc2 dX5_yes_29 wT_kl_X5_66 ?_
        refine j_lcmp_ne (tgt := 38) dX5_yes_32 dX5_yes_33 (by decide) (fun c32 => ?_) (fun c32 => ?_)
        · refine j_aload0 dX5_yes_38 ?_
          refine j_iload1 dX5_yes_39 ?_
          refine j_iload2 dX5_yes_40 ?_
          refine cd_X5_54 rfl (s_isStopped hM ha hs) hM.1 dX5_yes_41 rfl rfl ?_
          refine j_bif_eq (tgt := 50) dX5_yes_44 (by decide) (fun c44 => ?_) (fun c44 => ?_)
          · refine j_aload0 dX5_yes_50 ?_
            refine j_iload1 dX5_yes_51 ?_
            refine j_iload2 dX5_yes_52 ?_
            refine j_iconst (v := nI 3) dX5_yes_53 (by decide) ?_
            refine cd_X5_37 rfl (s_at) dX5_yes_54 rfl rfl ?_
            refine cd_X5_41 rfl (s_get hM ha (by first | decide | exact ix_lt hs (by decide) | omega)) hM.1 dX5_yes_57 rfl rfl ?_
            refine j_lconst (v := 1) dX5_yes_60 (by decide) ?_
            refine j_lcmp_eq (tgt := 81) dX5_yes_61 dX5_yes_62 (by decide) (fun c61 => ?_) (fun c61 => ?_)
            · refine j_bipush (v := 8) dX5_yes_81 (by decide) ?_
              refine j_iret dX5_yes_83 rfl rfl ?_
              exact ⟨_, rfl, by simp_all [fYes, lN_3], by simp_all [fYes, lN_3]⟩
            · refine j_aload0 dX5_yes_65 ?_
              refine j_iload1 dX5_yes_66 ?_
              refine j_iload2 dX5_yes_67 ?_
              refine j_bipush (v := nI 16) dX5_yes_68 (by decide) ?_
              refine cd_X5_37 rfl (s_at) dX5_yes_70 rfl rfl ?_
              refine cd_X5_41 rfl (s_get hM ha (by first | decide | exact ix_lt hs (by decide) | omega)) hM.1 dX5_yes_73 rfl rfl ?_
              refine j_lconst (v := 1) dX5_yes_76 (by decide) ?_
              refine j_lcmp_ne (tgt := 84) dX5_yes_77 dX5_yes_78 (by decide) (fun c77 => ?_) (fun c77 => ?_)
              · refine j_aload0 dX5_yes_84 ?_
                refine j_iload1 dX5_yes_85 ?_
                refine j_iload2 dX5_yes_86 ?_
                refine j_bipush (v := nI 16) dX5_yes_87 (by decide) ?_
                refine cd_X5_37 rfl (s_at) dX5_yes_89 rfl rfl ?_
                refine j_lconst (v := 1) dX5_yes_92 (by decide) ?_
                refine cd_X5_62 rfl (s_set hM ha (by first | decide | exact ix_lt hs (by decide) | omega)) hM.1 dX5_yes_93 rfl rfl ?_
                refine j_iconst (v := 0) dX5_yes_96 (by decide) ?_
                refine j_iret dX5_yes_97 rfl rfl ?_
                exact ⟨_, rfl, by simp_all [fYes, lN_3], by simp_all [fYes, lN_3]⟩
              · refine j_bipush (v := 8) dX5_yes_81 (by decide) ?_
                refine j_iret dX5_yes_83 rfl rfl ?_
                exact ⟨_, rfl, by simp_all [fYes, lN_3], by simp_all [fYes, lN_3]⟩
          · refine j_bipush (v := 10) dX5_yes_47 (by decide) ?_
            refine j_iret dX5_yes_49 rfl rfl ?_
            exact ⟨_, rfl, by simp_all [fYes, lN_3], by simp_all [fYes, lN_3]⟩
        · refine j_iconst (v := 3) dX5_yes_36 (by decide) ?_
          refine j_iret dX5_yes_37 rfl rfl ?_
          exact ⟨_, rfl, by simp_all [fYes, lN_3], by simp_all [fYes, lN_3]⟩
    · refine j_iload3 dX5_yes_11 ?_
      refine j_iret dX5_yes_12 rfl rfl ?_
      exact ⟨_, rfl, by simp_all [fYes, lN_3], by simp_all [fYes, lN_3]⟩
theorem s_pay {seat half : Int32} (hM : MSh h.1 M) (ha : a < 40) (hr : isRi h M (nI a) = true) : DI cx mX5_pay 4 (mh h M a f) [.ref M, .int (nI a), .int seat, .int half] (fPay f (sN seat) half).1 (mh h M a (fPay f (sN seat) half).2) := by
  rcases sN_cases seat with ⟨hso, hsn⟩ | ⟨s, hs, rfl, hso⟩ <;> rw [hso]
  · refine Sp.of 8 (by decide) (Nat.le_of_ble_eq_true rfl) rfl ?_
    refine j_aload0 dX5_pay_0 ?_
    refine j_iload1 dX5_pay_1 ?_
    refine j_iload2 dX5_pay_2 ?_
    refine cd_X5_81 rfl (s_against hM ha hr) hM.1 dX5_pay_3 rfl rfl ?_
    refine j_istore4 dX5_pay_6 (by decide) trivial ?_
    refine j_iload4 dX5_pay_8 ?_
    refine j_if_eq (tgt := 16) dX5_pay_10 (by decide) (fun c10 => by simp [hso, ag] at c10; split at c10 <;> simp at c10) (fun c10 => ?_)
    refine j_iload4 dX5_pay_13 ?_
    refine j_iret dX5_pay_15 rfl rfl ?_
    exact ⟨_, rfl, by simp_all [fPay], by simp_all [fPay]⟩
  · refine Sp.of 8 (by decide) (Nat.le_of_ble_eq_true rfl) rfl ?_
    refine j_aload0 dX5_pay_0 ?_
    refine j_iload1 dX5_pay_1 ?_
    refine j_iload2 dX5_pay_2 ?_
    refine cd_X5_81 rfl (s_against hM ha hr) hM.1 dX5_pay_3 rfl rfl ?_
    refine j_istore4 dX5_pay_6 (by decide) trivial ?_
    refine j_iload4 dX5_pay_8 ?_
    refine j_if_eq (tgt := 16) dX5_pay_10 (by decide) (fun c10 => ?_) (fun c10 => ?_)
    · refine j_aload0 dX5_pay_16 ?_
      refine j_iload1 dX5_pay_17 ?_
      refine j_iload2 dX5_pay_18 ?_
      refine j_iconst (v := nI 0) dX5_pay_19 (by decide) ?_
      refine cd_X5_37 rfl (s_at) dX5_pay_20 rfl rfl ?_
      refine cd_X5_41 rfl (s_get hM ha (by first | decide | exact ix_lt hs (by decide) | omega)) hM.1 dX5_pay_23 rfl rfl ?_
      refine j_ldc2 dX5_pay_26 wT_kl_X5_93 ?_
      refine j_lcmp_ne (tgt := 37) dX5_pay_29 dX5_pay_30 (by decide) (fun c29 => ?_) (fun c29 => ?_)
      · refine j_iconst (v := 0) dX5_pay_37 (by decide) ?_
        refine j_istore5 dX5_pay_38 (by decide) trivial ?_
        refine j_iload3 dX5_pay_40 ?_
        refine j_iconst (v := 1) dX5_pay_41 (by decide) ?_
        refine j_icmp_ne (tgt := 52) dX5_pay_42 (by decide) (fun c42 => ?_) (fun c42 => ?_)
        · refine j_iload3 dX5_pay_52 ?_
          refine j_if_lt (tgt := 61) dX5_pay_53 (by decide) (fun c53 => ?_) (fun c53 => ?_)
          · refine j_bipush (v := 7) dX5_pay_61 (by decide) ?_
            refine j_iret dX5_pay_63 rfl rfl ?_
            exact ⟨_, rfl, by simp_all [fPay, paySum, ← Int32.not_le, ← Int64.not_le], by simp_all [fPay, paySum, ← Int32.not_le, ← Int64.not_le, upF, ix]⟩
          · refine j_iload3 dX5_pay_56 ?_
            refine j_iconst (v := 1) dX5_pay_57 (by decide) ?_
            refine j_icmp_le (tgt := 64) dX5_pay_58 (by decide) (fun c58 => ?_) (fun c58 => ?_)
            · refine j_aload0 dX5_pay_64 ?_
              refine j_iload1 dX5_pay_65 ?_
              refine j_bipush (v := nI 7) dX5_pay_66 (by decide) ?_
              refine cd_X5_41 rfl (s_get hM ha (by first | decide | exact ix_lt hs (by decide) | omega)) hM.1 dX5_pay_68 rfl rfl ?_
              refine j_ldc2 dX5_pay_71 wT_kl_X5_66 ?_
              refine j_lcmp_ne (tgt := 80) dX5_pay_74 dX5_pay_75 (by decide) (fun c74 => ?_) (fun c74 => ?_)
              · refine j_iload2 dX5_pay_80 ?_
                refine j_i2lN (by first | decide | omega) dX5_pay_81 ?_
                refine j_aload0 dX5_pay_82 ?_
                refine j_iload1 dX5_pay_83 ?_
                refine j_bipush (v := nI 7) dX5_pay_84 (by decide) ?_
                refine cd_X5_41 rfl (s_get hM ha (by first | decide | exact ix_lt hs (by decide) | omega)) hM.1 dX5_pay_86 rfl rfl ?_
                refine j_lcmp_lt (tgt := 96) dX5_pay_89 dX5_pay_90 (by decide) (fun c89 => ?_) (fun c89 => ?_)
                · refine j_aload0 dX5_pay_96 ?_
                  refine j_iload1 dX5_pay_97 ?_
                  refine j_iload2 dX5_pay_98 ?_
                  refine j_bipush (v := nI 14) dX5_pay_99 (by decide) ?_
                  refine cd_X5_37 rfl (s_at) dX5_pay_101 rfl rfl ?_
                  refine cd_X5_41 rfl (s_get hM ha (by first | decide | exact ix_lt hs (by decide) | omega)) hM.1 dX5_pay_104 rfl rfl ?_
                  refine j_lstore6 dX5_pay_107 (by decide) trivial ?_
                  refine j_lload6 dX5_pay_109 ?_
                  refine j_iload3 dX5_pay_111 ?_
                  refine j_lshr dX5_pay_112 ?_
                  refine j_lconst (v := 1) dX5_pay_113 (by decide) ?_
                  refine j_land dX5_pay_114 ?_
                  refine j_lconst (v := 1) dX5_pay_115 (by decide) ?_
                  refine j_lcmp_ne (tgt := 123) dX5_pay_116 dX5_pay_117 (by decide) (fun c116 => ?_) (fun c116 => ?_)
                  · refine j_aload0 dX5_pay_123 ?_
                    refine j_iload1 dX5_pay_124 ?_
                    refine j_iconst (v := nI 1) dX5_pay_125 (by decide) ?_
                    refine cd_X5_41 rfl (s_get hM ha (by first | decide | exact ix_lt hs (by decide) | omega)) hM.1 dX5_pay_126 rfl rfl ?_
                    refine j_lstore8 dX5_pay_129 (by decide) trivial ?_
                    refine j_iload5 dX5_pay_131 ?_
                    refine j_if_ne (tgt := 141) dX5_pay_133 (by decide) (fun c133 => ?_) (fun c133 => ?_)
                    · refine j_iload3 dX5_pay_141 ?_
                      refine j_iconst (v := 1) dX5_pay_142 (by decide) ?_
                      refine j_icmp_ne (tgt := 155) dX5_pay_143 (by decide) (fun c143 => ?_) (fun c143 => ?_)
                      · refine j_lload8 dX5_pay_155 ?_
                        refine j_lload8 dX5_pay_157 ?_
                        refine j_ldc2 dX5_pay_159 wT_kl_X5_45 ?_
                        refine j_ldiv dX5_pay_162 (by decide) ?_
                        refine j_lsub dX5_pay_163 ?_
                        refine j_lstore10 dX5_pay_164 (by decide) trivial ?_
                        refine j_aload0 dX5_pay_166 ?_
                        refine j_iload1 dX5_pay_167 ?_
                        refine j_iload2 dX5_pay_168 ?_
                        refine j_bipush (v := nI 14) dX5_pay_169 (by decide) ?_
                        refine cd_X5_37 rfl (s_at) dX5_pay_171 rfl rfl ?_
                        refine j_lload6 dX5_pay_174 ?_
                        refine j_lconst (v := 1) dX5_pay_176 (by decide) ?_
                        refine j_iload3 dX5_pay_177 ?_
                        refine j_lshl dX5_pay_178 ?_
                        refine j_lor dX5_pay_179 ?_
                        refine cd_X5_62 rfl (s_set hM ha (by first | decide | exact ix_lt hs (by decide) | omega)) hM.1 dX5_pay_180 rfl rfl ?_
                        refine j_aload0 dX5_pay_183 ?_
                        refine j_iload1 dX5_pay_184 ?_
                        refine j_iload2 dX5_pay_185 ?_
                        refine j_bipush (v := nI 13) dX5_pay_186 (by decide) ?_
                        refine cd_X5_37 rfl (s_at) dX5_pay_188 rfl rfl ?_
                        refine j_lload10 dX5_pay_191 ?_
                        refine cd_X5_76 rfl (s_more hM ha (by first | decide | exact ix_lt hs (by decide) | omega)) hM.1 dX5_pay_193 rfl rfl ?_
                        refine j_aload0 dX5_pay_196 ?_
                        refine j_iload1 dX5_pay_197 ?_
                        refine j_iload2 dX5_pay_198 ?_
                        refine j_bipush (v := nI 8) dX5_pay_199 (by decide) ?_
                        refine cd_X5_37 rfl (s_at) dX5_pay_201 rfl rfl ?_
                        refine j_lload10 dX5_pay_204 ?_
                        refine cd_X5_76 rfl (s_more hM ha (by first | decide | exact ix_lt hs (by decide) | omega)) hM.1 dX5_pay_206 rfl rfl ?_
                        refine j_iconst (v := 0) dX5_pay_209 (by decide) ?_
                        refine j_iret dX5_pay_210 rfl rfl ?_
                        exact ⟨_, rfl, by simp_all [fPay, paySum, ← Int32.not_le, ← Int64.not_le], by simp_all [fPay, paySum, ← Int32.not_le, ← Int64.not_le, upF, ix]⟩
                      · refine j_lload8 dX5_pay_146 ?_
                        refine j_ldc2 dX5_pay_148 wT_kl_X5_45 ?_
                        refine j_ldiv dX5_pay_151 (by decide) ?_
                        refine j_goto (tgt := 164) dX5_pay_152 (by decide) ?_
                        refine j_lstore10 dX5_pay_164 (by decide) trivial ?_
                        refine j_aload0 dX5_pay_166 ?_
                        refine j_iload1 dX5_pay_167 ?_
                        refine j_iload2 dX5_pay_168 ?_
                        refine j_bipush (v := nI 14) dX5_pay_169 (by decide) ?_
                        refine cd_X5_37 rfl (s_at) dX5_pay_171 rfl rfl ?_
                        refine j_lload6 dX5_pay_174 ?_
                        refine j_lconst (v := 1) dX5_pay_176 (by decide) ?_
                        refine j_iload3 dX5_pay_177 ?_
                        refine j_lshl dX5_pay_178 ?_
                        refine j_lor dX5_pay_179 ?_
                        refine cd_X5_62 rfl (s_set hM ha (by first | decide | exact ix_lt hs (by decide) | omega)) hM.1 dX5_pay_180 rfl rfl ?_
                        refine j_aload0 dX5_pay_183 ?_
                        refine j_iload1 dX5_pay_184 ?_
                        refine j_iload2 dX5_pay_185 ?_
                        refine j_bipush (v := nI 13) dX5_pay_186 (by decide) ?_
                        refine cd_X5_37 rfl (s_at) dX5_pay_188 rfl rfl ?_
                        refine j_lload10 dX5_pay_191 ?_
                        refine cd_X5_76 rfl (s_more hM ha (by first | decide | exact ix_lt hs (by decide) | omega)) hM.1 dX5_pay_193 rfl rfl ?_
                        refine j_aload0 dX5_pay_196 ?_
                        refine j_iload1 dX5_pay_197 ?_
                        refine j_iload2 dX5_pay_198 ?_
                        refine j_bipush (v := nI 8) dX5_pay_199 (by decide) ?_
                        refine cd_X5_37 rfl (s_at) dX5_pay_201 rfl rfl ?_
                        refine j_lload10 dX5_pay_204 ?_
                        refine cd_X5_76 rfl (s_more hM ha (by first | decide | exact ix_lt hs (by decide) | omega)) hM.1 dX5_pay_206 rfl rfl ?_
                        refine j_iconst (v := 0) dX5_pay_209 (by decide) ?_
                        refine j_iret dX5_pay_210 rfl rfl ?_
                        exact ⟨_, rfl, by simp_all [fPay, paySum, ← Int32.not_le, ← Int64.not_le], by simp_all [fPay, paySum, ← Int32.not_le, ← Int64.not_le, upF, ix]⟩
                    · refine j_lload8 dX5_pay_136 ?_
                      refine j_goto (tgt := 164) dX5_pay_138 (by decide) ?_
                      refine j_lstore10 dX5_pay_164 (by decide) trivial ?_
                      refine j_aload0 dX5_pay_166 ?_
                      refine j_iload1 dX5_pay_167 ?_
                      refine j_iload2 dX5_pay_168 ?_
                      refine j_bipush (v := nI 14) dX5_pay_169 (by decide) ?_
                      refine cd_X5_37 rfl (s_at) dX5_pay_171 rfl rfl ?_
                      refine j_lload6 dX5_pay_174 ?_
                      refine j_lconst (v := 1) dX5_pay_176 (by decide) ?_
                      refine j_iload3 dX5_pay_177 ?_
                      refine j_lshl dX5_pay_178 ?_
                      refine j_lor dX5_pay_179 ?_
                      refine cd_X5_62 rfl (s_set hM ha (by first | decide | exact ix_lt hs (by decide) | omega)) hM.1 dX5_pay_180 rfl rfl ?_
                      refine j_aload0 dX5_pay_183 ?_
                      refine j_iload1 dX5_pay_184 ?_
                      refine j_iload2 dX5_pay_185 ?_
                      refine j_bipush (v := nI 13) dX5_pay_186 (by decide) ?_
                      refine cd_X5_37 rfl (s_at) dX5_pay_188 rfl rfl ?_
                      refine j_lload10 dX5_pay_191 ?_
                      refine cd_X5_76 rfl (s_more hM ha (by first | decide | exact ix_lt hs (by decide) | omega)) hM.1 dX5_pay_193 rfl rfl ?_
                      refine j_aload0 dX5_pay_196 ?_
                      refine j_iload1 dX5_pay_197 ?_
                      refine j_iload2 dX5_pay_198 ?_
                      refine j_bipush (v := nI 8) dX5_pay_199 (by decide) ?_
                      refine cd_X5_37 rfl (s_at) dX5_pay_201 rfl rfl ?_
                      refine j_lload10 dX5_pay_204 ?_
                      refine cd_X5_76 rfl (s_more hM ha (by first | decide | exact ix_lt hs (by decide) | omega)) hM.1 dX5_pay_206 rfl rfl ?_
                      refine j_iconst (v := 0) dX5_pay_209 (by decide) ?_
                      refine j_iret dX5_pay_210 rfl rfl ?_
                      exact ⟨_, rfl, by simp_all [fPay, paySum, ← Int32.not_le, ← Int64.not_le], by simp_all [fPay, paySum, ← Int32.not_le, ← Int64.not_le, upF, ix]⟩
                  · refine j_bipush (v := 8) dX5_pay_120 (by decide) ?_
                    refine j_iret dX5_pay_122 rfl rfl ?_
                    exact ⟨_, rfl, by simp_all [fPay, paySum, ← Int32.not_le, ← Int64.not_le], by simp_all [fPay, paySum, ← Int32.not_le, ← Int64.not_le, upF, ix]⟩
                · refine j_bipush (v := 6) dX5_pay_93 (by decide) ?_
                  refine j_iret dX5_pay_95 rfl rfl ?_
                  exact ⟨_, rfl, by simp_all [fPay, paySum, ← Int32.not_le, ← Int64.not_le], by simp_all [fPay, paySum, ← Int32.not_le, ← Int64.not_le, upF, ix]⟩
              · refine j_iconst (v := 5) dX5_pay_78 (by decide) ?_
                refine j_iret dX5_pay_79 rfl rfl ?_
                exact ⟨_, rfl, by simp_all [fPay, paySum, ← Int32.not_le, ← Int64.not_le], by simp_all [fPay, paySum, ← Int32.not_le, ← Int64.not_le, upF, ix]⟩
            · refine j_bipush (v := 7) dX5_pay_61 (by decide) ?_
              refine j_iret dX5_pay_63 rfl rfl ?_
              exact ⟨_, rfl, by simp_all [fPay, paySum, ← Int32.not_le, ← Int64.not_le], by simp_all [fPay, paySum, ← Int32.not_le, ← Int64.not_le, upF, ix]⟩
        · refine j_iload5 dX5_pay_45 ?_
          refine j_if_ne (tgt := 52) dX5_pay_47 (by decide) (fun c47 => ?_) (fun c47 => ?_)
          · refine j_iload3 dX5_pay_52 ?_
            refine j_if_lt (tgt := 61) dX5_pay_53 (by decide) (fun c53 => ?_) (fun c53 => ?_)
            · refine j_bipush (v := 7) dX5_pay_61 (by decide) ?_
              refine j_iret dX5_pay_63 rfl rfl ?_
              exact ⟨_, rfl, by simp_all [fPay, paySum, ← Int32.not_le, ← Int64.not_le], by simp_all [fPay, paySum, ← Int32.not_le, ← Int64.not_le, upF, ix]⟩
            · refine j_iload3 dX5_pay_56 ?_
              refine j_iconst (v := 1) dX5_pay_57 (by decide) ?_
              refine j_icmp_le (tgt := 64) dX5_pay_58 (by decide) (fun c58 => ?_) (fun c58 => ?_)
              · refine j_aload0 dX5_pay_64 ?_
                refine j_iload1 dX5_pay_65 ?_
                refine j_bipush (v := nI 7) dX5_pay_66 (by decide) ?_
                refine cd_X5_41 rfl (s_get hM ha (by first | decide | exact ix_lt hs (by decide) | omega)) hM.1 dX5_pay_68 rfl rfl ?_
                refine j_ldc2 dX5_pay_71 wT_kl_X5_66 ?_
                refine j_lcmp_ne (tgt := 80) dX5_pay_74 dX5_pay_75 (by decide) (fun c74 => ?_) (fun c74 => ?_)
                · refine j_iload2 dX5_pay_80 ?_
                  refine j_i2lN (by first | decide | omega) dX5_pay_81 ?_
                  refine j_aload0 dX5_pay_82 ?_
                  refine j_iload1 dX5_pay_83 ?_
                  refine j_bipush (v := nI 7) dX5_pay_84 (by decide) ?_
                  refine cd_X5_41 rfl (s_get hM ha (by first | decide | exact ix_lt hs (by decide) | omega)) hM.1 dX5_pay_86 rfl rfl ?_
                  refine j_lcmp_lt (tgt := 96) dX5_pay_89 dX5_pay_90 (by decide) (fun c89 => ?_) (fun c89 => ?_)
                  · refine j_aload0 dX5_pay_96 ?_
                    refine j_iload1 dX5_pay_97 ?_
                    refine j_iload2 dX5_pay_98 ?_
                    refine j_bipush (v := nI 14) dX5_pay_99 (by decide) ?_
                    refine cd_X5_37 rfl (s_at) dX5_pay_101 rfl rfl ?_
                    refine cd_X5_41 rfl (s_get hM ha (by first | decide | exact ix_lt hs (by decide) | omega)) hM.1 dX5_pay_104 rfl rfl ?_
                    refine j_lstore6 dX5_pay_107 (by decide) trivial ?_
                    refine j_lload6 dX5_pay_109 ?_
                    refine j_iload3 dX5_pay_111 ?_
                    refine j_lshr dX5_pay_112 ?_
                    refine j_lconst (v := 1) dX5_pay_113 (by decide) ?_
                    refine j_land dX5_pay_114 ?_
                    refine j_lconst (v := 1) dX5_pay_115 (by decide) ?_
                    refine j_lcmp_ne (tgt := 123) dX5_pay_116 dX5_pay_117 (by decide) (fun c116 => ?_) (fun c116 => ?_)
                    · refine j_aload0 dX5_pay_123 ?_
                      refine j_iload1 dX5_pay_124 ?_
                      refine j_iconst (v := nI 1) dX5_pay_125 (by decide) ?_
                      refine cd_X5_41 rfl (s_get hM ha (by first | decide | exact ix_lt hs (by decide) | omega)) hM.1 dX5_pay_126 rfl rfl ?_
                      refine j_lstore8 dX5_pay_129 (by decide) trivial ?_
                      refine j_iload5 dX5_pay_131 ?_
                      refine j_if_ne (tgt := 141) dX5_pay_133 (by decide) (fun c133 => ?_) (fun c133 => ?_)
                      · refine j_iload3 dX5_pay_141 ?_
                        refine j_iconst (v := 1) dX5_pay_142 (by decide) ?_
                        refine j_icmp_ne (tgt := 155) dX5_pay_143 (by decide) (fun c143 => ?_) (fun c143 => ?_)
                        · refine j_lload8 dX5_pay_155 ?_
                          refine j_lload8 dX5_pay_157 ?_
                          refine j_ldc2 dX5_pay_159 wT_kl_X5_45 ?_
                          refine j_ldiv dX5_pay_162 (by decide) ?_
                          refine j_lsub dX5_pay_163 ?_
                          refine j_lstore10 dX5_pay_164 (by decide) trivial ?_
                          refine j_aload0 dX5_pay_166 ?_
                          refine j_iload1 dX5_pay_167 ?_
                          refine j_iload2 dX5_pay_168 ?_
                          refine j_bipush (v := nI 14) dX5_pay_169 (by decide) ?_
                          refine cd_X5_37 rfl (s_at) dX5_pay_171 rfl rfl ?_
                          refine j_lload6 dX5_pay_174 ?_
                          refine j_lconst (v := 1) dX5_pay_176 (by decide) ?_
                          refine j_iload3 dX5_pay_177 ?_
                          refine j_lshl dX5_pay_178 ?_
                          refine j_lor dX5_pay_179 ?_
                          refine cd_X5_62 rfl (s_set hM ha (by first | decide | exact ix_lt hs (by decide) | omega)) hM.1 dX5_pay_180 rfl rfl ?_
                          refine j_aload0 dX5_pay_183 ?_
                          refine j_iload1 dX5_pay_184 ?_
                          refine j_iload2 dX5_pay_185 ?_
                          refine j_bipush (v := nI 13) dX5_pay_186 (by decide) ?_
                          refine cd_X5_37 rfl (s_at) dX5_pay_188 rfl rfl ?_
                          refine j_lload10 dX5_pay_191 ?_
                          refine cd_X5_76 rfl (s_more hM ha (by first | decide | exact ix_lt hs (by decide) | omega)) hM.1 dX5_pay_193 rfl rfl ?_
                          refine j_aload0 dX5_pay_196 ?_
                          refine j_iload1 dX5_pay_197 ?_
                          refine j_iload2 dX5_pay_198 ?_
                          refine j_bipush (v := nI 8) dX5_pay_199 (by decide) ?_
                          refine cd_X5_37 rfl (s_at) dX5_pay_201 rfl rfl ?_
                          refine j_lload10 dX5_pay_204 ?_
                          refine cd_X5_76 rfl (s_more hM ha (by first | decide | exact ix_lt hs (by decide) | omega)) hM.1 dX5_pay_206 rfl rfl ?_
                          refine j_iconst (v := 0) dX5_pay_209 (by decide) ?_
                          refine j_iret dX5_pay_210 rfl rfl ?_
                          exact ⟨_, rfl, by simp_all [fPay, paySum, ← Int32.not_le, ← Int64.not_le], by simp_all [fPay, paySum, ← Int32.not_le, ← Int64.not_le, upF, ix]⟩
                        · refine j_lload8 dX5_pay_146 ?_
                          refine j_ldc2 dX5_pay_148 wT_kl_X5_45 ?_
                          refine j_ldiv dX5_pay_151 (by decide) ?_
                          refine j_goto (tgt := 164) dX5_pay_152 (by decide) ?_
                          refine j_lstore10 dX5_pay_164 (by decide) trivial ?_
                          refine j_aload0 dX5_pay_166 ?_
                          refine j_iload1 dX5_pay_167 ?_
                          refine j_iload2 dX5_pay_168 ?_
                          refine j_bipush (v := nI 14) dX5_pay_169 (by decide) ?_
                          refine cd_X5_37 rfl (s_at) dX5_pay_171 rfl rfl ?_
                          refine j_lload6 dX5_pay_174 ?_
                          refine j_lconst (v := 1) dX5_pay_176 (by decide) ?_
                          refine j_iload3 dX5_pay_177 ?_
                          refine j_lshl dX5_pay_178 ?_
                          refine j_lor dX5_pay_179 ?_
                          refine cd_X5_62 rfl (s_set hM ha (by first | decide | exact ix_lt hs (by decide) | omega)) hM.1 dX5_pay_180 rfl rfl ?_
                          refine j_aload0 dX5_pay_183 ?_
                          refine j_iload1 dX5_pay_184 ?_
                          refine j_iload2 dX5_pay_185 ?_
                          refine j_bipush (v := nI 13) dX5_pay_186 (by decide) ?_
                          refine cd_X5_37 rfl (s_at) dX5_pay_188 rfl rfl ?_
                          refine j_lload10 dX5_pay_191 ?_
                          refine cd_X5_76 rfl (s_more hM ha (by first | decide | exact ix_lt hs (by decide) | omega)) hM.1 dX5_pay_193 rfl rfl ?_
                          refine j_aload0 dX5_pay_196 ?_
                          refine j_iload1 dX5_pay_197 ?_
                          refine j_iload2 dX5_pay_198 ?_
                          refine j_bipush (v := nI 8) dX5_pay_199 (by decide) ?_
                          refine cd_X5_37 rfl (s_at) dX5_pay_201 rfl rfl ?_
                          refine j_lload10 dX5_pay_204 ?_
                          refine cd_X5_76 rfl (s_more hM ha (by first | decide | exact ix_lt hs (by decide) | omega)) hM.1 dX5_pay_206 rfl rfl ?_
                          refine j_iconst (v := 0) dX5_pay_209 (by decide) ?_
                          refine j_iret dX5_pay_210 rfl rfl ?_
                          exact ⟨_, rfl, by simp_all [fPay, paySum, ← Int32.not_le, ← Int64.not_le], by simp_all [fPay, paySum, ← Int32.not_le, ← Int64.not_le, upF, ix]⟩
                      · refine j_lload8 dX5_pay_136 ?_
                        refine j_goto (tgt := 164) dX5_pay_138 (by decide) ?_
                        refine j_lstore10 dX5_pay_164 (by decide) trivial ?_
                        refine j_aload0 dX5_pay_166 ?_
                        refine j_iload1 dX5_pay_167 ?_
                        refine j_iload2 dX5_pay_168 ?_
                        refine j_bipush (v := nI 14) dX5_pay_169 (by decide) ?_
                        refine cd_X5_37 rfl (s_at) dX5_pay_171 rfl rfl ?_
                        refine j_lload6 dX5_pay_174 ?_
                        refine j_lconst (v := 1) dX5_pay_176 (by decide) ?_
                        refine j_iload3 dX5_pay_177 ?_
                        refine j_lshl dX5_pay_178 ?_
                        refine j_lor dX5_pay_179 ?_
                        refine cd_X5_62 rfl (s_set hM ha (by first | decide | exact ix_lt hs (by decide) | omega)) hM.1 dX5_pay_180 rfl rfl ?_
                        refine j_aload0 dX5_pay_183 ?_
                        refine j_iload1 dX5_pay_184 ?_
                        refine j_iload2 dX5_pay_185 ?_
                        refine j_bipush (v := nI 13) dX5_pay_186 (by decide) ?_
                        refine cd_X5_37 rfl (s_at) dX5_pay_188 rfl rfl ?_
                        refine j_lload10 dX5_pay_191 ?_
                        refine cd_X5_76 rfl (s_more hM ha (by first | decide | exact ix_lt hs (by decide) | omega)) hM.1 dX5_pay_193 rfl rfl ?_
                        refine j_aload0 dX5_pay_196 ?_
                        refine j_iload1 dX5_pay_197 ?_
                        refine j_iload2 dX5_pay_198 ?_
                        refine j_bipush (v := nI 8) dX5_pay_199 (by decide) ?_
                        refine cd_X5_37 rfl (s_at) dX5_pay_201 rfl rfl ?_
                        refine j_lload10 dX5_pay_204 ?_
                        refine cd_X5_76 rfl (s_more hM ha (by first | decide | exact ix_lt hs (by decide) | omega)) hM.1 dX5_pay_206 rfl rfl ?_
                        refine j_iconst (v := 0) dX5_pay_209 (by decide) ?_
                        refine j_iret dX5_pay_210 rfl rfl ?_
                        exact ⟨_, rfl, by simp_all [fPay, paySum, ← Int32.not_le, ← Int64.not_le], by simp_all [fPay, paySum, ← Int32.not_le, ← Int64.not_le, upF, ix]⟩
                    · refine j_bipush (v := 8) dX5_pay_120 (by decide) ?_
                      refine j_iret dX5_pay_122 rfl rfl ?_
                      exact ⟨_, rfl, by simp_all [fPay, paySum, ← Int32.not_le, ← Int64.not_le], by simp_all [fPay, paySum, ← Int32.not_le, ← Int64.not_le, upF, ix]⟩
                  · refine j_bipush (v := 6) dX5_pay_93 (by decide) ?_
                    refine j_iret dX5_pay_95 rfl rfl ?_
                    exact ⟨_, rfl, by simp_all [fPay, paySum, ← Int32.not_le, ← Int64.not_le], by simp_all [fPay, paySum, ← Int32.not_le, ← Int64.not_le, upF, ix]⟩
                · refine j_iconst (v := 5) dX5_pay_78 (by decide) ?_
                  refine j_iret dX5_pay_79 rfl rfl ?_
                  exact ⟨_, rfl, by simp_all [fPay, paySum, ← Int32.not_le, ← Int64.not_le], by simp_all [fPay, paySum, ← Int32.not_le, ← Int64.not_le, upF, ix]⟩
              · refine j_bipush (v := 7) dX5_pay_61 (by decide) ?_
                refine j_iret dX5_pay_63 rfl rfl ?_
                exact ⟨_, rfl, by simp_all [fPay, paySum, ← Int32.not_le, ← Int64.not_le], by simp_all [fPay, paySum, ← Int32.not_le, ← Int64.not_le, upF, ix]⟩
          · refine j_iconst (v := 4) dX5_pay_50 (by decide) ?_
            refine j_iret dX5_pay_51 rfl rfl ?_
            exact ⟨_, rfl, by simp_all [fPay, paySum, ← Int32.not_le, ← Int64.not_le], by simp_all [fPay, paySum, ← Int32.not_le, ← Int64.not_le, upF, ix]⟩
      · refine j_iconst (v := 1) dX5_pay_33 (by decide) ?_
        refine j_goto (tgt := 38) dX5_pay_34 (by decide) ?_
        refine j_istore5 dX5_pay_38 (by decide) trivial ?_
        refine j_iload3 dX5_pay_40 ?_
        refine j_iconst (v := 1) dX5_pay_41 (by decide) ?_
        refine j_icmp_ne (tgt := 52) dX5_pay_42 (by decide) (fun c42 => ?_) (fun c42 => ?_)
        · refine j_iload3 dX5_pay_52 ?_
          refine j_if_lt (tgt := 61) dX5_pay_53 (by decide) (fun c53 => ?_) (fun c53 => ?_)
          · refine j_bipush (v := 7) dX5_pay_61 (by decide) ?_
            refine j_iret dX5_pay_63 rfl rfl ?_
            exact ⟨_, rfl, by simp_all [fPay, paySum, ← Int32.not_le, ← Int64.not_le], by simp_all [fPay, paySum, ← Int32.not_le, ← Int64.not_le, upF, ix]⟩
          · refine j_iload3 dX5_pay_56 ?_
            refine j_iconst (v := 1) dX5_pay_57 (by decide) ?_
            refine j_icmp_le (tgt := 64) dX5_pay_58 (by decide) (fun c58 => ?_) (fun c58 => ?_)
            · refine j_aload0 dX5_pay_64 ?_
              refine j_iload1 dX5_pay_65 ?_
              refine j_bipush (v := nI 7) dX5_pay_66 (by decide) ?_
              refine cd_X5_41 rfl (s_get hM ha (by first | decide | exact ix_lt hs (by decide) | omega)) hM.1 dX5_pay_68 rfl rfl ?_
              refine j_ldc2 dX5_pay_71 wT_kl_X5_66 ?_
              refine j_lcmp_ne (tgt := 80) dX5_pay_74 dX5_pay_75 (by decide) (fun c74 => ?_) (fun c74 => ?_)
              · refine j_iload2 dX5_pay_80 ?_
                refine j_i2lN (by first | decide | omega) dX5_pay_81 ?_
                refine j_aload0 dX5_pay_82 ?_
                refine j_iload1 dX5_pay_83 ?_
                refine j_bipush (v := nI 7) dX5_pay_84 (by decide) ?_
                refine cd_X5_41 rfl (s_get hM ha (by first | decide | exact ix_lt hs (by decide) | omega)) hM.1 dX5_pay_86 rfl rfl ?_
                refine j_lcmp_lt (tgt := 96) dX5_pay_89 dX5_pay_90 (by decide) (fun c89 => ?_) (fun c89 => ?_)
                · refine j_aload0 dX5_pay_96 ?_
                  refine j_iload1 dX5_pay_97 ?_
                  refine j_iload2 dX5_pay_98 ?_
                  refine j_bipush (v := nI 14) dX5_pay_99 (by decide) ?_
                  refine cd_X5_37 rfl (s_at) dX5_pay_101 rfl rfl ?_
                  refine cd_X5_41 rfl (s_get hM ha (by first | decide | exact ix_lt hs (by decide) | omega)) hM.1 dX5_pay_104 rfl rfl ?_
                  refine j_lstore6 dX5_pay_107 (by decide) trivial ?_
                  refine j_lload6 dX5_pay_109 ?_
                  refine j_iload3 dX5_pay_111 ?_
                  refine j_lshr dX5_pay_112 ?_
                  refine j_lconst (v := 1) dX5_pay_113 (by decide) ?_
                  refine j_land dX5_pay_114 ?_
                  refine j_lconst (v := 1) dX5_pay_115 (by decide) ?_
                  refine j_lcmp_ne (tgt := 123) dX5_pay_116 dX5_pay_117 (by decide) (fun c116 => ?_) (fun c116 => ?_)
                  · refine j_aload0 dX5_pay_123 ?_
                    refine j_iload1 dX5_pay_124 ?_
                    refine j_iconst (v := nI 1) dX5_pay_125 (by decide) ?_
                    refine cd_X5_41 rfl (s_get hM ha (by first | decide | exact ix_lt hs (by decide) | omega)) hM.1 dX5_pay_126 rfl rfl ?_
                    refine j_lstore8 dX5_pay_129 (by decide) trivial ?_
                    refine j_iload5 dX5_pay_131 ?_
                    refine j_if_ne (tgt := 141) dX5_pay_133 (by decide) (fun c133 => ?_) (fun c133 => ?_)
                    · refine j_iload3 dX5_pay_141 ?_
                      refine j_iconst (v := 1) dX5_pay_142 (by decide) ?_
                      refine j_icmp_ne (tgt := 155) dX5_pay_143 (by decide) (fun c143 => ?_) (fun c143 => ?_)
                      · refine j_lload8 dX5_pay_155 ?_
                        refine j_lload8 dX5_pay_157 ?_
                        refine j_ldc2 dX5_pay_159 wT_kl_X5_45 ?_
                        refine j_ldiv dX5_pay_162 (by decide) ?_
                        refine j_lsub dX5_pay_163 ?_
                        refine j_lstore10 dX5_pay_164 (by decide) trivial ?_
                        refine j_aload0 dX5_pay_166 ?_
                        refine j_iload1 dX5_pay_167 ?_
                        refine j_iload2 dX5_pay_168 ?_
                        refine j_bipush (v := nI 14) dX5_pay_169 (by decide) ?_
                        refine cd_X5_37 rfl (s_at) dX5_pay_171 rfl rfl ?_
                        refine j_lload6 dX5_pay_174 ?_
                        refine j_lconst (v := 1) dX5_pay_176 (by decide) ?_
                        refine j_iload3 dX5_pay_177 ?_
                        refine j_lshl dX5_pay_178 ?_
                        refine j_lor dX5_pay_179 ?_
                        refine cd_X5_62 rfl (s_set hM ha (by first | decide | exact ix_lt hs (by decide) | omega)) hM.1 dX5_pay_180 rfl rfl ?_
                        refine j_aload0 dX5_pay_183 ?_
                        refine j_iload1 dX5_pay_184 ?_
                        refine j_iload2 dX5_pay_185 ?_
                        refine j_bipush (v := nI 13) dX5_pay_186 (by decide) ?_
                        refine cd_X5_37 rfl (s_at) dX5_pay_188 rfl rfl ?_
                        refine j_lload10 dX5_pay_191 ?_
                        refine cd_X5_76 rfl (s_more hM ha (by first | decide | exact ix_lt hs (by decide) | omega)) hM.1 dX5_pay_193 rfl rfl ?_
                        refine j_aload0 dX5_pay_196 ?_
                        refine j_iload1 dX5_pay_197 ?_
                        refine j_iload2 dX5_pay_198 ?_
                        refine j_bipush (v := nI 8) dX5_pay_199 (by decide) ?_
                        refine cd_X5_37 rfl (s_at) dX5_pay_201 rfl rfl ?_
                        refine j_lload10 dX5_pay_204 ?_
                        refine cd_X5_76 rfl (s_more hM ha (by first | decide | exact ix_lt hs (by decide) | omega)) hM.1 dX5_pay_206 rfl rfl ?_
                        refine j_iconst (v := 0) dX5_pay_209 (by decide) ?_
                        refine j_iret dX5_pay_210 rfl rfl ?_
                        exact ⟨_, rfl, by simp_all [fPay, paySum, ← Int32.not_le, ← Int64.not_le], by simp_all [fPay, paySum, ← Int32.not_le, ← Int64.not_le, upF, ix]⟩
                      · refine j_lload8 dX5_pay_146 ?_
                        refine j_ldc2 dX5_pay_148 wT_kl_X5_45 ?_
                        refine j_ldiv dX5_pay_151 (by decide) ?_
                        refine j_goto (tgt := 164) dX5_pay_152 (by decide) ?_
                        refine j_lstore10 dX5_pay_164 (by decide) trivial ?_
                        refine j_aload0 dX5_pay_166 ?_
                        refine j_iload1 dX5_pay_167 ?_
                        refine j_iload2 dX5_pay_168 ?_
                        refine j_bipush (v := nI 14) dX5_pay_169 (by decide) ?_
                        refine cd_X5_37 rfl (s_at) dX5_pay_171 rfl rfl ?_
                        refine j_lload6 dX5_pay_174 ?_
                        refine j_lconst (v := 1) dX5_pay_176 (by decide) ?_
                        refine j_iload3 dX5_pay_177 ?_
                        refine j_lshl dX5_pay_178 ?_
                        refine j_lor dX5_pay_179 ?_
                        refine cd_X5_62 rfl (s_set hM ha (by first | decide | exact ix_lt hs (by decide) | omega)) hM.1 dX5_pay_180 rfl rfl ?_
                        refine j_aload0 dX5_pay_183 ?_
                        refine j_iload1 dX5_pay_184 ?_
                        refine j_iload2 dX5_pay_185 ?_
                        refine j_bipush (v := nI 13) dX5_pay_186 (by decide) ?_
                        refine cd_X5_37 rfl (s_at) dX5_pay_188 rfl rfl ?_
                        refine j_lload10 dX5_pay_191 ?_
                        refine cd_X5_76 rfl (s_more hM ha (by first | decide | exact ix_lt hs (by decide) | omega)) hM.1 dX5_pay_193 rfl rfl ?_
                        refine j_aload0 dX5_pay_196 ?_
                        refine j_iload1 dX5_pay_197 ?_
                        refine j_iload2 dX5_pay_198 ?_
                        refine j_bipush (v := nI 8) dX5_pay_199 (by decide) ?_
                        refine cd_X5_37 rfl (s_at) dX5_pay_201 rfl rfl ?_
                        refine j_lload10 dX5_pay_204 ?_
                        refine cd_X5_76 rfl (s_more hM ha (by first | decide | exact ix_lt hs (by decide) | omega)) hM.1 dX5_pay_206 rfl rfl ?_
                        refine j_iconst (v := 0) dX5_pay_209 (by decide) ?_
                        refine j_iret dX5_pay_210 rfl rfl ?_
                        exact ⟨_, rfl, by simp_all [fPay, paySum, ← Int32.not_le, ← Int64.not_le], by simp_all [fPay, paySum, ← Int32.not_le, ← Int64.not_le, upF, ix]⟩
                    · refine j_lload8 dX5_pay_136 ?_
                      refine j_goto (tgt := 164) dX5_pay_138 (by decide) ?_
                      refine j_lstore10 dX5_pay_164 (by decide) trivial ?_
                      refine j_aload0 dX5_pay_166 ?_
                      refine j_iload1 dX5_pay_167 ?_
                      refine j_iload2 dX5_pay_168 ?_
                      refine j_bipush (v := nI 14) dX5_pay_169 (by decide) ?_
                      refine cd_X5_37 rfl (s_at) dX5_pay_171 rfl rfl ?_
                      refine j_lload6 dX5_pay_174 ?_
                      refine j_lconst (v := 1) dX5_pay_176 (by decide) ?_
                      refine j_iload3 dX5_pay_177 ?_
                      refine j_lshl dX5_pay_178 ?_
                      refine j_lor dX5_pay_179 ?_
                      refine cd_X5_62 rfl (s_set hM ha (by first | decide | exact ix_lt hs (by decide) | omega)) hM.1 dX5_pay_180 rfl rfl ?_
                      refine j_aload0 dX5_pay_183 ?_
                      refine j_iload1 dX5_pay_184 ?_
                      refine j_iload2 dX5_pay_185 ?_
                      refine j_bipush (v := nI 13) dX5_pay_186 (by decide) ?_
                      refine cd_X5_37 rfl (s_at) dX5_pay_188 rfl rfl ?_
                      refine j_lload10 dX5_pay_191 ?_
                      refine cd_X5_76 rfl (s_more hM ha (by first | decide | exact ix_lt hs (by decide) | omega)) hM.1 dX5_pay_193 rfl rfl ?_
                      refine j_aload0 dX5_pay_196 ?_
                      refine j_iload1 dX5_pay_197 ?_
                      refine j_iload2 dX5_pay_198 ?_
                      refine j_bipush (v := nI 8) dX5_pay_199 (by decide) ?_
                      refine cd_X5_37 rfl (s_at) dX5_pay_201 rfl rfl ?_
                      refine j_lload10 dX5_pay_204 ?_
                      refine cd_X5_76 rfl (s_more hM ha (by first | decide | exact ix_lt hs (by decide) | omega)) hM.1 dX5_pay_206 rfl rfl ?_
                      refine j_iconst (v := 0) dX5_pay_209 (by decide) ?_
                      refine j_iret dX5_pay_210 rfl rfl ?_
                      exact ⟨_, rfl, by simp_all [fPay, paySum, ← Int32.not_le, ← Int64.not_le], by simp_all [fPay, paySum, ← Int32.not_le, ← Int64.not_le, upF, ix]⟩
                  · refine j_bipush (v := 8) dX5_pay_120 (by decide) ?_
                    refine j_iret dX5_pay_122 rfl rfl ?_
                    exact ⟨_, rfl, by simp_all [fPay, paySum, ← Int32.not_le, ← Int64.not_le], by simp_all [fPay, paySum, ← Int32.not_le, ← Int64.not_le, upF, ix]⟩
                · refine j_bipush (v := 6) dX5_pay_93 (by decide) ?_
                  refine j_iret dX5_pay_95 rfl rfl ?_
                  exact ⟨_, rfl, by simp_all [fPay, paySum, ← Int32.not_le, ← Int64.not_le], by simp_all [fPay, paySum, ← Int32.not_le, ← Int64.not_le, upF, ix]⟩
              · refine j_iconst (v := 5) dX5_pay_78 (by decide) ?_
                refine j_iret dX5_pay_79 rfl rfl ?_
                exact ⟨_, rfl, by simp_all [fPay, paySum, ← Int32.not_le, ← Int64.not_le], by simp_all [fPay, paySum, ← Int32.not_le, ← Int64.not_le, upF, ix]⟩
            · refine j_bipush (v := 7) dX5_pay_61 (by decide) ?_
              refine j_iret dX5_pay_63 rfl rfl ?_
              exact ⟨_, rfl, by simp_all [fPay, paySum, ← Int32.not_le, ← Int64.not_le], by simp_all [fPay, paySum, ← Int32.not_le, ← Int64.not_le, upF, ix]⟩
        · refine j_iload5 dX5_pay_45 ?_
          refine j_if_ne (tgt := 52) dX5_pay_47 (by decide) (fun c47 => ?_) (fun c47 => ?_)
          · refine j_iload3 dX5_pay_52 ?_
            refine j_if_lt (tgt := 61) dX5_pay_53 (by decide) (fun c53 => ?_) (fun c53 => ?_)
            · refine j_bipush (v := 7) dX5_pay_61 (by decide) ?_
              refine j_iret dX5_pay_63 rfl rfl ?_
              exact ⟨_, rfl, by simp_all [fPay, paySum, ← Int32.not_le, ← Int64.not_le], by simp_all [fPay, paySum, ← Int32.not_le, ← Int64.not_le, upF, ix]⟩
            · refine j_iload3 dX5_pay_56 ?_
              refine j_iconst (v := 1) dX5_pay_57 (by decide) ?_
              refine j_icmp_le (tgt := 64) dX5_pay_58 (by decide) (fun c58 => ?_) (fun c58 => ?_)
              · refine j_aload0 dX5_pay_64 ?_
                refine j_iload1 dX5_pay_65 ?_
                refine j_bipush (v := nI 7) dX5_pay_66 (by decide) ?_
                refine cd_X5_41 rfl (s_get hM ha (by first | decide | exact ix_lt hs (by decide) | omega)) hM.1 dX5_pay_68 rfl rfl ?_
                refine j_ldc2 dX5_pay_71 wT_kl_X5_66 ?_
                refine j_lcmp_ne (tgt := 80) dX5_pay_74 dX5_pay_75 (by decide) (fun c74 => ?_) (fun c74 => ?_)
                · refine j_iload2 dX5_pay_80 ?_
                  refine j_i2lN (by first | decide | omega) dX5_pay_81 ?_
                  refine j_aload0 dX5_pay_82 ?_
                  refine j_iload1 dX5_pay_83 ?_
                  refine j_bipush (v := nI 7) dX5_pay_84 (by decide) ?_
                  refine cd_X5_41 rfl (s_get hM ha (by first | decide | exact ix_lt hs (by decide) | omega)) hM.1 dX5_pay_86 rfl rfl ?_
                  refine j_lcmp_lt (tgt := 96) dX5_pay_89 dX5_pay_90 (by decide) (fun c89 => ?_) (fun c89 => ?_)
                  · refine j_aload0 dX5_pay_96 ?_
                    refine j_iload1 dX5_pay_97 ?_
                    refine j_iload2 dX5_pay_98 ?_
                    refine j_bipush (v := nI 14) dX5_pay_99 (by decide) ?_
                    refine cd_X5_37 rfl (s_at) dX5_pay_101 rfl rfl ?_
                    refine cd_X5_41 rfl (s_get hM ha (by first | decide | exact ix_lt hs (by decide) | omega)) hM.1 dX5_pay_104 rfl rfl ?_
                    refine j_lstore6 dX5_pay_107 (by decide) trivial ?_
                    refine j_lload6 dX5_pay_109 ?_
                    refine j_iload3 dX5_pay_111 ?_
                    refine j_lshr dX5_pay_112 ?_
                    refine j_lconst (v := 1) dX5_pay_113 (by decide) ?_
                    refine j_land dX5_pay_114 ?_
                    refine j_lconst (v := 1) dX5_pay_115 (by decide) ?_
                    refine j_lcmp_ne (tgt := 123) dX5_pay_116 dX5_pay_117 (by decide) (fun c116 => ?_) (fun c116 => ?_)
                    · refine j_aload0 dX5_pay_123 ?_
                      refine j_iload1 dX5_pay_124 ?_
                      refine j_iconst (v := nI 1) dX5_pay_125 (by decide) ?_
                      refine cd_X5_41 rfl (s_get hM ha (by first | decide | exact ix_lt hs (by decide) | omega)) hM.1 dX5_pay_126 rfl rfl ?_
                      refine j_lstore8 dX5_pay_129 (by decide) trivial ?_
                      refine j_iload5 dX5_pay_131 ?_
                      refine j_if_ne (tgt := 141) dX5_pay_133 (by decide) (fun c133 => ?_) (fun c133 => ?_)
                      · refine j_iload3 dX5_pay_141 ?_
                        refine j_iconst (v := 1) dX5_pay_142 (by decide) ?_
                        refine j_icmp_ne (tgt := 155) dX5_pay_143 (by decide) (fun c143 => ?_) (fun c143 => ?_)
                        · refine j_lload8 dX5_pay_155 ?_
                          refine j_lload8 dX5_pay_157 ?_
                          refine j_ldc2 dX5_pay_159 wT_kl_X5_45 ?_
                          refine j_ldiv dX5_pay_162 (by decide) ?_
                          refine j_lsub dX5_pay_163 ?_
                          refine j_lstore10 dX5_pay_164 (by decide) trivial ?_
                          refine j_aload0 dX5_pay_166 ?_
                          refine j_iload1 dX5_pay_167 ?_
                          refine j_iload2 dX5_pay_168 ?_
                          refine j_bipush (v := nI 14) dX5_pay_169 (by decide) ?_
                          refine cd_X5_37 rfl (s_at) dX5_pay_171 rfl rfl ?_
                          refine j_lload6 dX5_pay_174 ?_
                          refine j_lconst (v := 1) dX5_pay_176 (by decide) ?_
                          refine j_iload3 dX5_pay_177 ?_
                          refine j_lshl dX5_pay_178 ?_
                          refine j_lor dX5_pay_179 ?_
                          refine cd_X5_62 rfl (s_set hM ha (by first | decide | exact ix_lt hs (by decide) | omega)) hM.1 dX5_pay_180 rfl rfl ?_
                          refine j_aload0 dX5_pay_183 ?_
                          refine j_iload1 dX5_pay_184 ?_
                          refine j_iload2 dX5_pay_185 ?_
                          refine j_bipush (v := nI 13) dX5_pay_186 (by decide) ?_
                          refine cd_X5_37 rfl (s_at) dX5_pay_188 rfl rfl ?_
                          refine j_lload10 dX5_pay_191 ?_
                          refine cd_X5_76 rfl (s_more hM ha (by first | decide | exact ix_lt hs (by decide) | omega)) hM.1 dX5_pay_193 rfl rfl ?_
                          refine j_aload0 dX5_pay_196 ?_
                          refine j_iload1 dX5_pay_197 ?_
                          refine j_iload2 dX5_pay_198 ?_
                          refine j_bipush (v := nI 8) dX5_pay_199 (by decide) ?_
                          refine cd_X5_37 rfl (s_at) dX5_pay_201 rfl rfl ?_
                          refine j_lload10 dX5_pay_204 ?_
                          refine cd_X5_76 rfl (s_more hM ha (by first | decide | exact ix_lt hs (by decide) | omega)) hM.1 dX5_pay_206 rfl rfl ?_
                          refine j_iconst (v := 0) dX5_pay_209 (by decide) ?_
                          refine j_iret dX5_pay_210 rfl rfl ?_
                          exact ⟨_, rfl, by simp_all [fPay, paySum, ← Int32.not_le, ← Int64.not_le], by simp_all [fPay, paySum, ← Int32.not_le, ← Int64.not_le, upF, ix]⟩
                        · refine j_lload8 dX5_pay_146 ?_
                          refine j_ldc2 dX5_pay_148 wT_kl_X5_45 ?_
                          refine j_ldiv dX5_pay_151 (by decide) ?_
                          refine j_goto (tgt := 164) dX5_pay_152 (by decide) ?_
                          refine j_lstore10 dX5_pay_164 (by decide) trivial ?_
                          refine j_aload0 dX5_pay_166 ?_
                          refine j_iload1 dX5_pay_167 ?_
                          refine j_iload2 dX5_pay_168 ?_
                          refine j_bipush (v := nI 14) dX5_pay_169 (by decide) ?_
                          refine cd_X5_37 rfl (s_at) dX5_pay_171 rfl rfl ?_
                          refine j_lload6 dX5_pay_174 ?_
                          refine j_lconst (v := 1) dX5_pay_176 (by decide) ?_
                          refine j_iload3 dX5_pay_177 ?_
                          refine j_lshl dX5_pay_178 ?_
                          refine j_lor dX5_pay_179 ?_
                          refine cd_X5_62 rfl (s_set hM ha (by first | decide | exact ix_lt hs (by decide) | omega)) hM.1 dX5_pay_180 rfl rfl ?_
                          refine j_aload0 dX5_pay_183 ?_
                          refine j_iload1 dX5_pay_184 ?_
                          refine j_iload2 dX5_pay_185 ?_
                          refine j_bipush (v := nI 13) dX5_pay_186 (by decide) ?_
                          refine cd_X5_37 rfl (s_at) dX5_pay_188 rfl rfl ?_
                          refine j_lload10 dX5_pay_191 ?_
                          refine cd_X5_76 rfl (s_more hM ha (by first | decide | exact ix_lt hs (by decide) | omega)) hM.1 dX5_pay_193 rfl rfl ?_
                          refine j_aload0 dX5_pay_196 ?_
                          refine j_iload1 dX5_pay_197 ?_
                          refine j_iload2 dX5_pay_198 ?_
                          refine j_bipush (v := nI 8) dX5_pay_199 (by decide) ?_
                          refine cd_X5_37 rfl (s_at) dX5_pay_201 rfl rfl ?_
                          refine j_lload10 dX5_pay_204 ?_
                          refine cd_X5_76 rfl (s_more hM ha (by first | decide | exact ix_lt hs (by decide) | omega)) hM.1 dX5_pay_206 rfl rfl ?_
                          refine j_iconst (v := 0) dX5_pay_209 (by decide) ?_
                          refine j_iret dX5_pay_210 rfl rfl ?_
                          exact ⟨_, rfl, by simp_all [fPay, paySum, ← Int32.not_le, ← Int64.not_le], by simp_all [fPay, paySum, ← Int32.not_le, ← Int64.not_le, upF, ix]⟩
                      · refine j_lload8 dX5_pay_136 ?_
                        refine j_goto (tgt := 164) dX5_pay_138 (by decide) ?_
                        refine j_lstore10 dX5_pay_164 (by decide) trivial ?_
                        refine j_aload0 dX5_pay_166 ?_
                        refine j_iload1 dX5_pay_167 ?_
                        refine j_iload2 dX5_pay_168 ?_
                        refine j_bipush (v := nI 14) dX5_pay_169 (by decide) ?_
                        refine cd_X5_37 rfl (s_at) dX5_pay_171 rfl rfl ?_
                        refine j_lload6 dX5_pay_174 ?_
                        refine j_lconst (v := 1) dX5_pay_176 (by decide) ?_
                        refine j_iload3 dX5_pay_177 ?_
                        refine j_lshl dX5_pay_178 ?_
                        refine j_lor dX5_pay_179 ?_
                        refine cd_X5_62 rfl (s_set hM ha (by first | decide | exact ix_lt hs (by decide) | omega)) hM.1 dX5_pay_180 rfl rfl ?_
                        refine j_aload0 dX5_pay_183 ?_
                        refine j_iload1 dX5_pay_184 ?_
                        refine j_iload2 dX5_pay_185 ?_
                        refine j_bipush (v := nI 13) dX5_pay_186 (by decide) ?_
                        refine cd_X5_37 rfl (s_at) dX5_pay_188 rfl rfl ?_
                        refine j_lload10 dX5_pay_191 ?_
                        refine cd_X5_76 rfl (s_more hM ha (by first | decide | exact ix_lt hs (by decide) | omega)) hM.1 dX5_pay_193 rfl rfl ?_
                        refine j_aload0 dX5_pay_196 ?_
                        refine j_iload1 dX5_pay_197 ?_
                        refine j_iload2 dX5_pay_198 ?_
                        refine j_bipush (v := nI 8) dX5_pay_199 (by decide) ?_
                        refine cd_X5_37 rfl (s_at) dX5_pay_201 rfl rfl ?_
                        refine j_lload10 dX5_pay_204 ?_
                        refine cd_X5_76 rfl (s_more hM ha (by first | decide | exact ix_lt hs (by decide) | omega)) hM.1 dX5_pay_206 rfl rfl ?_
                        refine j_iconst (v := 0) dX5_pay_209 (by decide) ?_
                        refine j_iret dX5_pay_210 rfl rfl ?_
                        exact ⟨_, rfl, by simp_all [fPay, paySum, ← Int32.not_le, ← Int64.not_le], by simp_all [fPay, paySum, ← Int32.not_le, ← Int64.not_le, upF, ix]⟩
                    · refine j_bipush (v := 8) dX5_pay_120 (by decide) ?_
                      refine j_iret dX5_pay_122 rfl rfl ?_
                      exact ⟨_, rfl, by simp_all [fPay, paySum, ← Int32.not_le, ← Int64.not_le], by simp_all [fPay, paySum, ← Int32.not_le, ← Int64.not_le, upF, ix]⟩
                  · refine j_bipush (v := 6) dX5_pay_93 (by decide) ?_
                    refine j_iret dX5_pay_95 rfl rfl ?_
                    exact ⟨_, rfl, by simp_all [fPay, paySum, ← Int32.not_le, ← Int64.not_le], by simp_all [fPay, paySum, ← Int32.not_le, ← Int64.not_le, upF, ix]⟩
                · refine j_iconst (v := 5) dX5_pay_78 (by decide) ?_
                  refine j_iret dX5_pay_79 rfl rfl ?_
                  exact ⟨_, rfl, by simp_all [fPay, paySum, ← Int32.not_le, ← Int64.not_le], by simp_all [fPay, paySum, ← Int32.not_le, ← Int64.not_le, upF, ix]⟩
              · refine j_bipush (v := 7) dX5_pay_61 (by decide) ?_
                refine j_iret dX5_pay_63 rfl rfl ?_
                exact ⟨_, rfl, by simp_all [fPay, paySum, ← Int32.not_le, ← Int64.not_le], by simp_all [fPay, paySum, ← Int32.not_le, ← Int64.not_le, upF, ix]⟩
          · refine j_iconst (v := 4) dX5_pay_50 (by decide) ?_
            refine j_iret dX5_pay_51 rfl rfl ?_
            exact ⟨_, rfl, by simp_all [fPay, paySum, ← Int32.not_le, ← Int64.not_le], by simp_all [fPay, paySum, ← Int32.not_le, ← Int64.not_le, upF, ix]⟩
    · refine j_iload4 dX5_pay_13 ?_
      refine j_iret dX5_pay_15 rfl rfl ?_
      exact ⟨_, rfl, by simp_all [fPay, paySum, ← Int32.not_le, ← Int64.not_le], by simp_all [fPay, paySum, ← Int32.not_le, ← Int64.not_le, upF, ix]⟩
theorem opS_h (n s : Nat) (f : Fl) : opS n f (ix s 0) = f (ix s 0) := by
  unfold opS
  rw [upF_n _ _ (by unfold ix; omega)]
  split
  · rw [upF_n _ _ (by unfold ix; omega)]
  · rfl
theorem opS_u {n s : Nat} (hs : s ≠ n) (f : Fl) : opS n f (ix s 2) = f (ix s 2) := by
  unfold opS
  rw [upF_n _ _ (by unfold ix; omega)]
  split
  · rw [upF_n _ _ (by unfold ix; omega)]
  · rfl
theorem opL_h (s : Nat) (f : Fl) : ∀ n, itr opS n f (ix s 0) = f (ix s 0)
  | 0 => rfl
  | n + 1 => (opS_h n s _).trans (opL_h s f n)
theorem opL_u {s : Nat} (f : Fl) : ∀ n, n ≤ s → itr opS n f (ix s 2) = f (ix s 2)
  | 0, _ => rfl
  | n + 1, h => (opS_u (by omega) _).trans (opL_u f n (by omega))
theorem Sp.ofQ {mt : Mt} {d mc ms : Nat} {av : List Value} {ls : List (Option Value)} {Q : Option Value → Hp → Prop} (k : Nat) (hy : plainName mt.1.cls = true) (hle : (lg_sl av).length ≤ mt.2.2.1) (hls : ls = l0 av ++ List.replicate k none) (K : ∀ Q' : Option Value → Hp → Prop, (∀ v h', Q v h' → Q' v h') → J cx mt (Rm d mc ms) h 0 ls [] mc ms Q') : Sp cx mt d mc ms h av Q := Sp.of k hy hle hls (K Q (fun _ _ q => q))
theorem J.wk {mt : Mt} {R : Room} {pc : Nat} {ls ls' : List (Option Value)} {st : List Value} {bc bs : Nat} {Q : Option Value → Hp → Prop} (K : J cx mt R h pc ls st bc bs Q) (hw : lcw ls ls') : J cx mt R h pc ls' st bc bs Q := J.weak hw K
theorem s_open (hM : MSh h.1 M) (ha : a < 40) (hr : isRi h M (nI a) = true) (hsu : suOK f) : DI cx mX5_open 2 (mh h M a f) [.ref M, .int (nI a)] (fOpen f).1 (mh h M a (fOpen f).2) := by
  refine Sp.ofQ 3 (by decide) (Nat.le_of_ble_eq_true rfl) rfl (fun Q hQ => ?_)
  have hc60 := cnt_le (isMem f) 60
  have L2 : f 4 = 0 → ¬ cnt (isMem f) 60 = 0 → J cx mX5_open (Rm 2 0 0) (mh h M a (upF (upF f 4 1) 6 (lN (cnt (isMem f) 60)))) 80 [some (.ref M), some (.int (nI a)), none, some (.int (nI 0)), none] [] 0 0 Q := by
    intro h4 hcn
    have e0 : (fOpen f) = (0, itr opS 60 (upF (upF f 4 1) 6 (lN (cnt (isMem f) 60)))) := by simp [fOpen, h4, hcn]
    rw [e0] at hQ
    generalize hg : upF (upF f 4 1) 6 (lN (cnt (isMem f) 60)) = g at hQ
    have hgu : ∀ s, g (ix s 2) = f (ix s 2) := fun s => by rw [← hg, upF_n _ _ (by unfold ix; omega), upF_n _ _ (by unfold ix; omega)]
    refine dn (P := fun n => J cx mX5_open (Rm 2 0 0) (mh h M a (itr opS n g)) 80 [some (.ref M), some (.int (nI a)), none, some (.int (nI n)), none] [] 0 0 Q) 60 ?_ ?_
    · refine j_iload3 dX5_open_80 ?_
      refine j_bipush (v := nI 60) dX5_open_81 (by decide) ?_
      refine j_icmpN_ge (tgt := 176) (by first | decide | omega) (by first | decide | omega) dX5_open_83 (by decide) (fun c83 => ?_) (fun c83 => by omega)
      refine j_iconst (v := 0) dX5_open_176 (by decide) ?_
      refine j_iret dX5_open_177 rfl rfl ?_
      exact hQ _ _ ⟨_, rfl, rfl, rfl⟩
    · intro s hs ih
      have hu : itr opS s g (ix s 2) = f (ix s 2) := (opL_u g s (Nat.le_refl s)).trans (hgu s)
      have ih : J cx mX5_open _ (mh h M a (opS s (itr opS s g))) 80 [some (.ref M), some (.int (nI a)), none, some (.int (nI (s + 1))), none] [] 0 0 _ := ih
      generalize itr opS s g = k at hu ih
      rcases hsu s hs with hm | ⟨q, hq, hqe⟩
      · rw [hm] at hu
        have e : opS s k = upF k (ix s 12) (if isMem k s then 1 else 0) := by simp [opS, hu, m1_i]
        rw [e] at ih
        refine j_iload3 dX5_open_80 ?_
        refine j_bipush (v := nI 60) dX5_open_81 (by decide) ?_
        refine j_icmpN_ge (tgt := 176) (by first | decide | omega) (by first | decide | omega) dX5_open_83 (by decide) (fun c83 => by omega) (fun c83 => ?_)
        refine j_aload0 dX5_open_86 ?_
        refine j_iload1 dX5_open_87 ?_
        refine j_iload3 dX5_open_88 ?_
        refine j_iconst (v := nI 2) dX5_open_89 (by decide) ?_
        refine cd_X5_37 rfl (s_at) dX5_open_90 rfl rfl ?_
        refine cd_X5_41 rfl (s_get hM ha (by first | decide | exact ix_lt hs (by decide) | omega)) hM.1 dX5_open_93 rfl rfl ?_
        rw [hu]
        refine j_l2i dX5_open_96 ?_
        refine j_istore4 dX5_open_97 (by decide) trivial ?_
        rw [m1_i]
        refine j_iload4 dX5_open_99 ?_
        refine j_iconst (v := (-1)) dX5_open_101 (by decide) ?_
        refine j_icmp_eq (tgt := 145) dX5_open_102 (by decide) (fun c102 => ?_) (fun c102 => by exact absurd rfl c102)
        refine j_aload0 dX5_open_145 ?_
        refine j_iload1 dX5_open_146 ?_
        refine j_iload3 dX5_open_147 ?_
        refine j_bipush (v := nI 12) dX5_open_148 (by decide) ?_
        refine cd_X5_37 rfl (s_at) dX5_open_150 rfl rfl ?_
        refine j_aload0 dX5_open_153 ?_
        refine j_iload1 dX5_open_154 ?_
        refine j_iload3 dX5_open_155 ?_
        refine cd_X5_47 rfl (s_isMember hM ha hs) hM.1 dX5_open_156 rfl rfl ?_
        refine j_bif_eq (tgt := 166) dX5_open_159 (by decide) (fun c159 => ?_) (fun c159 => ?_)
        · refine j_lconst (v := 0) dX5_open_166 (by decide) ?_
          refine cd_X5_62 rfl (s_set hM ha (by first | decide | exact ix_lt hs (by decide) | omega)) hM.1 dX5_open_167 rfl rfl ?_
          refine j_iincN3 dX5_open_170 (by decide) trivial ?_
          refine j_goto (tgt := 80) dX5_open_173 (by decide) ?_
          exact J.wk (by simpa [c159] using ih) (by simp [lcw])
        · refine j_lconst (v := 1) dX5_open_162 (by decide) ?_
          refine j_goto (tgt := 167) dX5_open_163 (by decide) ?_
          refine cd_X5_62 rfl (s_set hM ha (by first | decide | exact ix_lt hs (by decide) | omega)) hM.1 dX5_open_167 rfl rfl ?_
          refine j_iincN3 dX5_open_170 (by decide) trivial ?_
          refine j_goto (tgt := 80) dX5_open_173 (by decide) ?_
          exact J.wk (by simpa [c159] using ih) (by simp [lcw])
      · rw [hqe] at hu
        have e : opS s k = upF (if isMem k s = false ∨ ¬ k (ix q 0) = 4 then upF k (ix s 2) (-1) else k) (ix s 12) (if isMem (if isMem k s = false ∨ ¬ k (ix q 0) = 4 then upF k (ix s 2) (-1) else k) s then 1 else 0) := by simp [opS, hu, lN_i, nI_ne hq, lN_nat (show q < 2 ^ 63 by omega)]
        rw [e] at ih
        refine j_iload3 dX5_open_80 ?_
        refine j_bipush (v := nI 60) dX5_open_81 (by decide) ?_
        refine j_icmpN_ge (tgt := 176) (by first | decide | omega) (by first | decide | omega) dX5_open_83 (by decide) (fun c83 => by omega) (fun c83 => ?_)
        refine j_aload0 dX5_open_86 ?_
        refine j_iload1 dX5_open_87 ?_
        refine j_iload3 dX5_open_88 ?_
        refine j_iconst (v := nI 2) dX5_open_89 (by decide) ?_
        refine cd_X5_37 rfl (s_at) dX5_open_90 rfl rfl ?_
        refine cd_X5_41 rfl (s_get hM ha (by first | decide | exact ix_lt hs (by decide) | omega)) hM.1 dX5_open_93 rfl rfl ?_
        rw [hu]
        refine j_l2iN dX5_open_96 ?_
        refine j_istore4 dX5_open_97 (by decide) trivial ?_
        refine j_iload4 dX5_open_99 ?_
        refine j_iconst (v := (-1)) dX5_open_101 (by decide) ?_
        refine j_icmp_eq (tgt := 145) dX5_open_102 (by decide) (fun c102 => by exact absurd c102 (nI_ne hq)) (fun c102 => ?_)
        refine j_aload0 dX5_open_105 ?_
        refine j_iload1 dX5_open_106 ?_
        refine j_iload3 dX5_open_107 ?_
        refine cd_X5_47 rfl (s_isMember hM ha hs) hM.1 dX5_open_108 rfl rfl ?_
        refine j_bif_eq (tgt := 132) dX5_open_111 (by decide) (fun c111 => ?_) (fun c111 => ?_)
        · refine j_aload0 dX5_open_132 ?_
          refine j_iload1 dX5_open_133 ?_
          refine j_iload3 dX5_open_134 ?_
          refine j_iconst (v := nI 2) dX5_open_135 (by decide) ?_
          refine cd_X5_37 rfl (s_at) dX5_open_136 rfl rfl ?_
          refine j_ldc2 dX5_open_139 wT_kl_X5_66 ?_
          refine cd_X5_62 rfl (s_set hM ha (by first | decide | exact ix_lt hs (by decide) | omega)) hM.1 dX5_open_142 rfl rfl ?_
          refine j_aload0 dX5_open_145 ?_
          refine j_iload1 dX5_open_146 ?_
          refine j_iload3 dX5_open_147 ?_
          refine j_bipush (v := nI 12) dX5_open_148 (by decide) ?_
          refine cd_X5_37 rfl (s_at) dX5_open_150 rfl rfl ?_
          refine j_aload0 dX5_open_153 ?_
          refine j_iload1 dX5_open_154 ?_
          refine j_iload3 dX5_open_155 ?_
          refine cd_X5_47 rfl (s_isMember hM ha hs) hM.1 dX5_open_156 rfl rfl ?_
          refine j_bif_eq (tgt := 166) dX5_open_159 (by decide) (fun c159 => ?_) (fun c159 => ?_)
          · refine j_lconst (v := 0) dX5_open_166 (by decide) ?_
            refine cd_X5_62 rfl (s_set hM ha (by first | decide | exact ix_lt hs (by decide) | omega)) hM.1 dX5_open_167 rfl rfl ?_
            refine j_iincN3 dX5_open_170 (by decide) trivial ?_
            refine j_goto (tgt := 80) dX5_open_173 (by decide) ?_
            first | exact nb c111 c159 | (simp [*] at ih; exact J.wk ih (by simp [lcw]))
          · refine j_lconst (v := 1) dX5_open_162 (by decide) ?_
            refine j_goto (tgt := 167) dX5_open_163 (by decide) ?_
            refine cd_X5_62 rfl (s_set hM ha (by first | decide | exact ix_lt hs (by decide) | omega)) hM.1 dX5_open_167 rfl rfl ?_
            refine j_iincN3 dX5_open_170 (by decide) trivial ?_
            refine j_goto (tgt := 80) dX5_open_173 (by decide) ?_
            first | exact nb c111 c159 | (simp [*] at ih; exact J.wk ih (by simp [lcw]))
        · refine j_aload0 dX5_open_114 ?_
          refine j_iload1 dX5_open_115 ?_
          refine j_iload4 dX5_open_116 ?_
          refine j_iconst (v := nI 0) dX5_open_118 (by decide) ?_
          refine cd_X5_37 rfl (s_at) dX5_open_119 rfl rfl ?_
          refine cd_X5_41 rfl (s_get hM ha (ix_lt hq (by decide))) hM.1 dX5_open_122 rfl rfl ?_
          refine j_ldc2 dX5_open_125 wT_kl_X5_71 ?_
          refine j_lcmp_eq (tgt := 145) dX5_open_128 dX5_open_129 (by decide) (fun c128 => ?_) (fun c128 => ?_)
          · refine j_aload0 dX5_open_145 ?_
            refine j_iload1 dX5_open_146 ?_
            refine j_iload3 dX5_open_147 ?_
            refine j_bipush (v := nI 12) dX5_open_148 (by decide) ?_
            refine cd_X5_37 rfl (s_at) dX5_open_150 rfl rfl ?_
            refine j_aload0 dX5_open_153 ?_
            refine j_iload1 dX5_open_154 ?_
            refine j_iload3 dX5_open_155 ?_
            refine cd_X5_47 rfl (s_isMember hM ha hs) hM.1 dX5_open_156 rfl rfl ?_
            refine j_bif_eq (tgt := 166) dX5_open_159 (by decide) (fun c159 => ?_) (fun c159 => ?_)
            · refine j_lconst (v := 0) dX5_open_166 (by decide) ?_
              refine cd_X5_62 rfl (s_set hM ha (by first | decide | exact ix_lt hs (by decide) | omega)) hM.1 dX5_open_167 rfl rfl ?_
              refine j_iincN3 dX5_open_170 (by decide) trivial ?_
              refine j_goto (tgt := 80) dX5_open_173 (by decide) ?_
              first | exact nb c111 c159 | (simp [*] at ih; exact J.wk ih (by simp [lcw]))
            · refine j_lconst (v := 1) dX5_open_162 (by decide) ?_
              refine j_goto (tgt := 167) dX5_open_163 (by decide) ?_
              refine cd_X5_62 rfl (s_set hM ha (by first | decide | exact ix_lt hs (by decide) | omega)) hM.1 dX5_open_167 rfl rfl ?_
              refine j_iincN3 dX5_open_170 (by decide) trivial ?_
              refine j_goto (tgt := 80) dX5_open_173 (by decide) ?_
              first | exact nb c111 c159 | (simp [*] at ih; exact J.wk ih (by simp [lcw]))
          · refine j_aload0 dX5_open_132 ?_
            refine j_iload1 dX5_open_133 ?_
            refine j_iload3 dX5_open_134 ?_
            refine j_iconst (v := nI 2) dX5_open_135 (by decide) ?_
            refine cd_X5_37 rfl (s_at) dX5_open_136 rfl rfl ?_
            refine j_ldc2 dX5_open_139 wT_kl_X5_66 ?_
            refine cd_X5_62 rfl (s_set hM ha (by first | decide | exact ix_lt hs (by decide) | omega)) hM.1 dX5_open_142 rfl rfl ?_
            refine j_aload0 dX5_open_145 ?_
            refine j_iload1 dX5_open_146 ?_
            refine j_iload3 dX5_open_147 ?_
            refine j_bipush (v := nI 12) dX5_open_148 (by decide) ?_
            refine cd_X5_37 rfl (s_at) dX5_open_150 rfl rfl ?_
            refine j_aload0 dX5_open_153 ?_
            refine j_iload1 dX5_open_154 ?_
            refine j_iload3 dX5_open_155 ?_
            refine cd_X5_47 rfl (s_isMember hM ha hs) hM.1 dX5_open_156 rfl rfl ?_
            refine j_bif_eq (tgt := 166) dX5_open_159 (by decide) (fun c159 => ?_) (fun c159 => ?_)
            · refine j_lconst (v := 0) dX5_open_166 (by decide) ?_
              refine cd_X5_62 rfl (s_set hM ha (by first | decide | exact ix_lt hs (by decide) | omega)) hM.1 dX5_open_167 rfl rfl ?_
              refine j_iincN3 dX5_open_170 (by decide) trivial ?_
              refine j_goto (tgt := 80) dX5_open_173 (by decide) ?_
              first | exact nb c111 c159 | (simp [*] at ih; exact J.wk ih (by simp [lcw]))
            · refine j_lconst (v := 1) dX5_open_162 (by decide) ?_
              refine j_goto (tgt := 167) dX5_open_163 (by decide) ?_
              refine cd_X5_62 rfl (s_set hM ha (by first | decide | exact ix_lt hs (by decide) | omega)) hM.1 dX5_open_167 rfl rfl ?_
              refine j_iincN3 dX5_open_170 (by decide) trivial ?_
              refine j_goto (tgt := 80) dX5_open_173 (by decide) ?_
              first | exact nb c111 c159 | (simp [*] at ih; exact J.wk ih (by simp [lcw]))
  have L1 : f 4 = 0 → J cx mX5_open (Rm 2 0 0) (mh h M a f) 27 [some (.ref M), some (.int (nI a)), some (.int (nI 0)), some (.int (nI 0)), none] [] 0 0 Q := by
    intro h4
    refine dn (P := fun n => J cx mX5_open (Rm 2 0 0) (mh h M a f) 27 [some (.ref M), some (.int (nI a)), some (.int (nI (cnt (isMem f) n))), some (.int (nI n)), none] [] 0 0 Q) 60 ?_ ?_
    · refine j_iload3 dX5_open_27 ?_
      refine j_bipush (v := nI 60) dX5_open_28 (by decide) ?_
      refine j_icmpN_ge (tgt := 56) (by first | decide | omega) (by first | decide | omega) dX5_open_30 (by decide) (fun c30 => ?_) (fun c30 => by omega)
      refine j_iload2 dX5_open_56 ?_
      refine j_if_ne (tgt := 62) dX5_open_57 (by decide) (fun c57 => ?_) (fun c57 => ?_)
      · refine j_aload0 dX5_open_62 ?_
        refine j_iload1 dX5_open_63 ?_
        refine j_iconst (v := nI 4) dX5_open_64 (by decide) ?_
        refine j_lconst (v := 1) dX5_open_65 (by decide) ?_
        refine cd_X5_62 rfl (s_set hM ha (by first | decide | exact ix_lt hs (by decide) | omega)) hM.1 dX5_open_66 rfl rfl ?_
        refine j_aload0 dX5_open_69 ?_
        refine j_iload1 dX5_open_70 ?_
        refine j_bipush (v := nI 6) dX5_open_71 (by decide) ?_
        refine j_iload2 dX5_open_73 ?_
        refine j_i2lN (by first | decide | omega) dX5_open_74 ?_
        refine cd_X5_62 rfl (s_set hM ha (by first | decide | exact ix_lt hs (by decide) | omega)) hM.1 dX5_open_75 rfl rfl ?_
        refine j_iconst (v := nI 0) dX5_open_78 (by decide) ?_
        refine j_istore3 dX5_open_79 (by decide) trivial ?_
        exact J.wk (L2 h4 (fun z => c57 (by rw [z]; rfl))) (by simp [lcw])
      · refine j_iconst (v := 3) dX5_open_60 (by decide) ?_
        refine j_iret dX5_open_61 rfl rfl ?_
        exact hQ _ _ ⟨_, rfl, by simp [fOpen, h4, (nI_eq (show cnt (isMem f) 60 < 2 ^ 31 by omega) (show 0 < 2 ^ 31 by decide)).mp c57], by simp [fOpen, h4, (nI_eq (show cnt (isMem f) 60 < 2 ^ 31 by omega) (show 0 < 2 ^ 31 by decide)).mp c57]⟩
    · intro s hs ih
      have hcs := cnt_le (isMem f) s
      refine j_iload3 dX5_open_27 ?_
      refine j_bipush (v := nI 60) dX5_open_28 (by decide) ?_
      refine j_icmpN_ge (tgt := 56) (by first | decide | omega) (by first | decide | omega) dX5_open_30 (by decide) (fun c30 => by omega) (fun c30 => ?_)
      refine j_iload2 dX5_open_33 ?_
      refine j_aload0 dX5_open_34 ?_
      refine j_iload1 dX5_open_35 ?_
      refine j_iload3 dX5_open_36 ?_
      refine cd_X5_47 rfl (s_isMember hM ha hs) hM.1 dX5_open_37 rfl rfl ?_
      refine j_bif_eq (tgt := 47) dX5_open_40 (by decide) (fun c40 => ?_) (fun c40 => ?_)
      · refine j_iconst (v := nI 0) dX5_open_47 (by decide) ?_
        refine j_iaddN dX5_open_48 ?_
        refine j_istore2 dX5_open_49 (by decide) trivial ?_
        refine j_iincN3 dX5_open_50 (by decide) trivial ?_
        refine j_goto (tgt := 27) dX5_open_53 (by decide) ?_
        simpa [cnt, c40] using ih
      · refine j_iconst (v := nI 1) dX5_open_43 (by decide) ?_
        refine j_goto (tgt := 48) dX5_open_44 (by decide) ?_
        refine j_iaddN dX5_open_48 ?_
        refine j_istore2 dX5_open_49 (by decide) trivial ?_
        refine j_iincN3 dX5_open_50 (by decide) trivial ?_
        refine j_goto (tgt := 27) dX5_open_53 (by decide) ?_
        simpa [cnt, c40] using ih
  refine j_aload0 dX5_open_0 ?_
  refine j_iload1 dX5_open_1 ?_
  refine cd_X5_68 rfl (s_isRing _ hM) hM.1 dX5_open_2 rfl rfl ?_
  refine j_bif_ne (tgt := 10) dX5_open_5 (by decide) (fun c5 => ?_) (fun c5 => by exact nb hr c5)
  refine j_aload0 dX5_open_10 ?_
  refine j_iload1 dX5_open_11 ?_
  refine j_iconst (v := nI 4) dX5_open_12 (by decide) ?_
  refine cd_X5_41 rfl (s_get hM ha (by first | decide | exact ix_lt hs (by decide) | omega)) hM.1 dX5_open_13 rfl rfl ?_
  refine j_lconst (v := 0) dX5_open_16 (by decide) ?_
  refine j_lcmp_eq (tgt := 23) dX5_open_17 dX5_open_18 (by decide) (fun c17 => ?_) (fun c17 => ?_)
  · refine j_iconst (v := nI 0) dX5_open_23 (by decide) ?_
    refine j_istore2 dX5_open_24 (by decide) trivial ?_
    refine j_iconst (v := nI 0) dX5_open_25 (by decide) ?_
    refine j_istore3 dX5_open_26 (by decide) trivial ?_
    exact L1 c17
  · refine j_iconst (v := 2) dX5_open_21 (by decide) ?_
    refine j_iret dX5_open_22 rfl rfl ?_
    exact hQ _ _ ⟨_, rfl, by simp_all [fOpen], by simp_all [fOpen]⟩
end

