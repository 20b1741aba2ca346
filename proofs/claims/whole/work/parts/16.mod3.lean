/-! the reference: its calls, one ring at a time -/
section
variable {cx : Cx} {h : Hp} {M a : Nat} {f : Fl}
theorem sb_against {r seat : Int32} (hM : MSh h.1 M) (hr : isRi h M r = false) : DI cx mX5_against 3 h [.ref M, .int r, .int seat] 1 h := by
  refine Sp.of 0 (by decide) (Nat.le_of_ble_eq_true rfl) rfl ?_
  refine j_aload0 dX5_against_0 ?_
  refine j_iload1 dX5_against_1 ?_
  refine cd_X5_68 rfl (s_isRing _ hM) hM.1 dX5_against_2 rfl rfl ?_
  refine j_bif_ne (tgt := 10) dX5_against_5 (by decide) (fun c5 => by exact nb c5 hr) (fun c5 => ?_)
  refine j_iconst (v := 1) dX5_against_8 (by decide) ?_
  refine j_iret dX5_against_9 rfl rfl ?_
  exact ⟨_, rfl, rfl, rfl⟩
theorem sb_againstKind {r k : Int32} (hM : MSh h.1 M) (hr : isRi h M r = false) : DI cx mX5_againstKind 1 h [.ref M, .int r, .int k] 1 h := by
  refine Sp.of 0 (by decide) (Nat.le_of_ble_eq_true rfl) rfl ?_
  refine j_aload0 dX5_againstKind_0 ?_
  refine j_iload1 dX5_againstKind_1 ?_
  refine cd_X5_68 rfl (s_isRing _ hM) hM.1 dX5_againstKind_2 rfl rfl ?_
  refine j_bif_ne (tgt := 12) dX5_againstKind_5 (by decide) (fun c5 => by exact nb c5 hr) (fun c5 => ?_)
  refine j_iconst (v := 1) dX5_againstKind_8 (by decide) ?_
  refine j_goto (tgt := 44) dX5_againstKind_9 (by decide) ?_
  refine j_iret dX5_againstKind_44 rfl rfl ?_
  exact ⟨_, rfl, rfl, rfl⟩
theorem sb_seat {r : Int32} {s w x : Int32} (hM : MSh h.1 M) (hr : isRi h M r = false) : DI cx mX5_seat 2 h [.ref M, .int r, .int s, .int w, .int x] 1 h := by
  refine Sp.of 0 (by decide) (Nat.le_of_ble_eq_true rfl) rfl ?_
  refine j_aload0 dX5_seat_0 ?_
  refine j_iload1 dX5_seat_1 ?_
  refine cd_X5_68 rfl (s_isRing _ hM) hM.1 dX5_seat_2 rfl rfl ?_
  refine j_bif_ne (tgt := 10) dX5_seat_5 (by decide) (fun c5 => by exact nb c5 hr) (fun c5 => ?_)
  refine j_iconst (v := 1) dX5_seat_8 (by decide) ?_
  refine j_iret dX5_seat_9 rfl rfl ?_
  exact ⟨_, rfl, rfl, rfl⟩
theorem sb_letter {r : Int32} {s : Int32} (hM : MSh h.1 M) (hr : isRi h M r = false) : DI cx mX5_letter 2 h [.ref M, .int r, .int s] 0 h := by
  refine Sp.of 0 (by decide) (Nat.le_of_ble_eq_true rfl) rfl ?_
  refine j_aload0 dX5_letter_0 ?_
  refine j_iload1 dX5_letter_1 ?_
  refine cd_X5_68 rfl (s_isRing _ hM) hM.1 dX5_letter_2 rfl rfl ?_
  refine j_bif_eq (tgt := 29) dX5_letter_5 (by decide) (fun c5 => ?_) (fun c5 => by exact nb c5 hr)
  refine j_iconst (v := 0) dX5_letter_29 (by decide) ?_
  refine j_iret dX5_letter_30 rfl rfl ?_
  exact ⟨_, rfl, rfl, rfl⟩
theorem sb_answers {r : Int32} {s w : Int32} (hM : MSh h.1 M) (hr : isRi h M r = false) : DI cx mX5_answers 2 h [.ref M, .int r, .int s, .int w] 1 h := by
  refine Sp.of 0 (by decide) (Nat.le_of_ble_eq_true rfl) rfl ?_
  refine j_aload0 dX5_answers_0 ?_
  refine j_iload1 dX5_answers_1 ?_
  refine cd_X5_68 rfl (s_isRing _ hM) hM.1 dX5_answers_2 rfl rfl ?_
  refine j_bif_ne (tgt := 10) dX5_answers_5 (by decide) (fun c5 => by exact nb c5 hr) (fun c5 => ?_)
  refine j_iconst (v := 1) dX5_answers_8 (by decide) ?_
  refine j_iret dX5_answers_9 rfl rfl ?_
  exact ⟨_, rfl, rfl, rfl⟩
theorem sb_order {r : Int32} {s : Int32} (hM : MSh h.1 M) (hr : isRi h M r = false) : DI cx mX5_order 2 h [.ref M, .int r, .int s] 1 h := by
  refine Sp.of 0 (by decide) (Nat.le_of_ble_eq_true rfl) rfl ?_
  refine j_aload0 dX5_order_0 ?_
  refine j_iload1 dX5_order_1 ?_
  refine cd_X5_68 rfl (s_isRing _ hM) hM.1 dX5_order_2 rfl rfl ?_
  refine j_bif_ne (tgt := 10) dX5_order_5 (by decide) (fun c5 => by exact nb c5 hr) (fun c5 => ?_)
  refine j_iconst (v := 1) dX5_order_8 (by decide) ?_
  refine j_iret dX5_order_9 rfl rfl ?_
  exact ⟨_, rfl, rfl, rfl⟩
theorem sb_lot {r : Int32} {s : Int32} (hM : MSh h.1 M) (hr : isRi h M r = false) : DI cx mX5_lot 2 h [.ref M, .int r, .int s] 1 h := by
  refine Sp.of 0 (by decide) (Nat.le_of_ble_eq_true rfl) rfl ?_
  refine j_aload0 dX5_lot_0 ?_
  refine j_iload1 dX5_lot_1 ?_
  refine cd_X5_68 rfl (s_isRing _ hM) hM.1 dX5_lot_2 rfl rfl ?_
  refine j_bif_ne (tgt := 10) dX5_lot_5 (by decide) (fun c5 => by exact nb c5 hr) (fun c5 => ?_)
  refine j_iconst (v := 1) dX5_lot_8 (by decide) ?_
  refine j_iret dX5_lot_9 rfl rfl ?_
  exact ⟨_, rfl, rfl, rfl⟩
theorem sb_open {r : Int32}  (hM : MSh h.1 M) (hr : isRi h M r = false) : DI cx mX5_open 2 h [.ref M, .int r] 1 h := by
  refine Sp.of 3 (by decide) (Nat.le_of_ble_eq_true rfl) rfl ?_
  refine j_aload0 dX5_open_0 ?_
  refine j_iload1 dX5_open_1 ?_
  refine cd_X5_68 rfl (s_isRing _ hM) hM.1 dX5_open_2 rfl rfl ?_
  refine j_bif_ne (tgt := 10) dX5_open_5 (by decide) (fun c5 => by exact nb c5 hr) (fun c5 => ?_)
  refine j_iconst (v := 1) dX5_open_8 (by decide) ?_
  refine j_iret dX5_open_9 rfl rfl ?_
  exact ⟨_, rfl, rfl, rfl⟩
theorem sb_deposit {r : Int32} {s w : Int32} (hM : MSh h.1 M) (hr : isRi h M r = false) : DI cx mX5_deposit 4 h [.ref M, .int r, .int s, .int w] 1 h := by
  refine Sp.of 1 (by decide) (Nat.le_of_ble_eq_true rfl) rfl ?_
  refine j_aload0 dX5_deposit_0 ?_
  refine j_iload1 dX5_deposit_1 ?_
  refine j_iload2 dX5_deposit_2 ?_
  refine cd_X5_81 rfl (sb_against hM hr) hM.1 dX5_deposit_3 rfl rfl ?_
  refine j_istore4 dX5_deposit_6 (by decide) trivial ?_
  refine j_iload4 dX5_deposit_8 ?_
  refine j_if_eq (tgt := 16) dX5_deposit_10 (by decide) (fun c10 => by simp at c10) (fun c10 => ?_)
  refine j_iload4 dX5_deposit_13 ?_
  refine j_iret dX5_deposit_15 rfl rfl ?_
  exact ⟨_, rfl, rfl, rfl⟩
theorem sb_row {r : Int32} {s : Int32} (hM : MSh h.1 M) (hr : isRi h M r = false) : DI cx mX5_row 3 h [.ref M, .int r, .int s] 1 h := by
  refine Sp.of 0 (by decide) (Nat.le_of_ble_eq_true rfl) rfl ?_
  refine j_aload0 dX5_row_0 ?_
  refine j_iload1 dX5_row_1 ?_
  refine cd_X5_68 rfl (s_isRing _ hM) hM.1 dX5_row_2 rfl rfl ?_
  refine j_bif_ne (tgt := 10) dX5_row_5 (by decide) (fun c5 => by exact nb c5 hr) (fun c5 => ?_)
  refine j_iconst (v := 1) dX5_row_8 (by decide) ?_
  refine j_iret dX5_row_9 rfl rfl ?_
  exact ⟨_, rfl, rfl, rfl⟩
theorem sb_tear {r : Int32}  (hM : MSh h.1 M) (hr : isRi h M r = false) : DI cx mX5_tear 3 h [.ref M, .int r] 1 h := by
  refine Sp.of 0 (by decide) (Nat.le_of_ble_eq_true rfl) rfl ?_
  refine j_aload0 dX5_tear_0 ?_
  refine j_iload1 dX5_tear_1 ?_
  refine cd_X5_68 rfl (s_isRing _ hM) hM.1 dX5_tear_2 rfl rfl ?_
  refine j_bif_ne (tgt := 10) dX5_tear_5 (by decide) (fun c5 => by exact nb c5 hr) (fun c5 => ?_)
  refine j_iconst (v := 1) dX5_tear_8 (by decide) ?_
  refine j_iret dX5_tear_9 rfl rfl ?_
  exact ⟨_, rfl, rfl, rfl⟩
theorem sb_pay {r : Int32} {s w : Int32} (hM : MSh h.1 M) (hr : isRi h M r = false) : DI cx mX5_pay 4 h [.ref M, .int r, .int s, .int w] 1 h := by
  refine Sp.of 8 (by decide) (Nat.le_of_ble_eq_true rfl) rfl ?_
  refine j_aload0 dX5_pay_0 ?_
  refine j_iload1 dX5_pay_1 ?_
  refine j_iload2 dX5_pay_2 ?_
  refine cd_X5_81 rfl (sb_against hM hr) hM.1 dX5_pay_3 rfl rfl ?_
  refine j_istore4 dX5_pay_6 (by decide) trivial ?_
  refine j_iload4 dX5_pay_8 ?_
  refine j_if_eq (tgt := 16) dX5_pay_10 (by decide) (fun c10 => by simp at c10) (fun c10 => ?_)
  refine j_iload4 dX5_pay_13 ?_
  refine j_iret dX5_pay_15 rfl rfl ?_
  exact ⟨_, rfl, rfl, rfl⟩
theorem sb_came {r : Int32} {s : Int32} (hM : MSh h.1 M) (hr : isRi h M r = false) : DI cx mX5_came 2 h [.ref M, .int r, .int s] (-1) h := by
  refine Sp.of 0 (by decide) (Nat.le_of_ble_eq_true rfl) rfl ?_
  refine j_aload0 dX5_came_0 ?_
  refine j_iload1 dX5_came_1 ?_
  refine cd_X5_68 rfl (s_isRing _ hM) hM.1 dX5_came_2 rfl rfl ?_
  refine j_bif_eq (tgt := 28) dX5_came_5 (by decide) (fun c5 => ?_) (fun c5 => by exact nb c5 hr)
  refine j_iconst (v := (-1)) dX5_came_28 (by decide) ?_
  refine j_goto (tgt := 44) dX5_came_29 (by decide) ?_
  refine j_iret dX5_came_44 rfl rfl ?_
  exact ⟨_, rfl, rfl, rfl⟩
theorem sb_late {r : Int32} {s : Int32} (hM : MSh h.1 M) (hr : isRi h M r = false) : DI cx mX5_late 4 h [.ref M, .int r, .int s] 1 h := by
  refine Sp.of 3 (by decide) (Nat.le_of_ble_eq_true rfl) rfl ?_
  refine j_aload0 dX5_late_0 ?_
  refine j_iload1 dX5_late_1 ?_
  refine j_iload2 dX5_late_2 ?_
  refine cd_X5_81 rfl (sb_against hM hr) hM.1 dX5_late_3 rfl rfl ?_
  refine j_istore3 dX5_late_6 (by decide) trivial ?_
  refine j_iload3 dX5_late_7 ?_
  refine j_if_eq (tgt := 13) dX5_late_8 (by decide) (fun c8 => by simp at c8) (fun c8 => ?_)
  refine j_iload3 dX5_late_11 ?_
  refine j_iret dX5_late_12 rfl rfl ?_
  exact ⟨_, rfl, rfl, rfl⟩
theorem sb_bid {r : Int32} {s : Int32} {b : Int64} (hM : MSh h.1 M) (hr : isRi h M r = false) : DI cx mX5_bid 4 h [.ref M, .int r, .int s, .long b] 1 h := by
  refine Sp.of 1 (by decide) (Nat.le_of_ble_eq_true rfl) rfl ?_
  refine j_aload0 dX5_bid_0 ?_
  refine j_iload1 dX5_bid_1 ?_
  refine j_iconst (v := 2) dX5_bid_2 (by decide) ?_
  refine cd_X5_95 rfl (sb_againstKind hM hr) hM.1 dX5_bid_3 rfl rfl ?_
  refine j_istore5 dX5_bid_6 (by decide) trivial ?_
  refine j_iload5 dX5_bid_8 ?_
  refine j_if_ne (tgt := 21) dX5_bid_10 (by decide) (fun c10 => ?_) (fun c10 => by simp at c10)
  refine j_iload5 dX5_bid_21 ?_
  refine j_if_eq (tgt := 29) dX5_bid_23 (by decide) (fun c23 => by simp at c23) (fun c23 => ?_)
  refine j_iload5 dX5_bid_26 ?_
  refine j_iret dX5_bid_28 rfl rfl ?_
  exact ⟨_, rfl, rfl, rfl⟩
theorem sb_need {r : Int32} {s : Int32} (hM : MSh h.1 M) (hr : isRi h M r = false) : DI cx mX5_need 4 h [.ref M, .int r, .int s] 1 h := by
  refine Sp.of 1 (by decide) (Nat.le_of_ble_eq_true rfl) rfl ?_
  refine j_aload0 dX5_need_0 ?_
  refine j_iload1 dX5_need_1 ?_
  refine j_iconst (v := 3) dX5_need_2 (by decide) ?_
  refine cd_X5_95 rfl (sb_againstKind hM hr) hM.1 dX5_need_3 rfl rfl ?_
  refine j_istore3 dX5_need_6 (by decide) trivial ?_
  refine j_iload3 dX5_need_7 ?_
  refine j_if_ne (tgt := 18) dX5_need_8 (by decide) (fun c8 => ?_) (fun c8 => by simp at c8)
  refine j_iload3 dX5_need_18 ?_
  refine j_if_eq (tgt := 24) dX5_need_19 (by decide) (fun c19 => by simp at c19) (fun c19 => ?_)
  refine j_iload3 dX5_need_22 ?_
  refine j_iret dX5_need_23 rfl rfl ?_
  exact ⟨_, rfl, rfl, rfl⟩
theorem sb_yes {r : Int32} {s : Int32} (hM : MSh h.1 M) (hr : isRi h M r = false) : DI cx mX5_yes 4 h [.ref M, .int r, .int s] 1 h := by
  refine Sp.of 1 (by decide) (Nat.le_of_ble_eq_true rfl) rfl ?_
  refine j_aload0 dX5_yes_0 ?_
  refine j_iload1 dX5_yes_1 ?_
  refine j_iconst (v := 3) dX5_yes_2 (by decide) ?_
  refine cd_X5_95 rfl (sb_againstKind hM hr) hM.1 dX5_yes_3 rfl rfl ?_
  refine j_istore3 dX5_yes_6 (by decide) trivial ?_
  refine j_iload3 dX5_yes_7 ?_
  refine j_if_eq (tgt := 13) dX5_yes_8 (by decide) (fun c8 => by simp at c8) (fun c8 => ?_)
  refine j_iload3 dX5_yes_11 ?_
  refine j_iret dX5_yes_12 rfl rfl ?_
  exact ⟨_, rfl, rfl, rfl⟩
theorem s_seat {seat w x : Int32} (hM : MSh h.1 M) (ha : a < 40) (hr : isRi h M (nI a) = true)  : DI cx mX5_seat 2 (mh h M a f) [.ref M, .int (nI a), .int seat, .int w, .int x] (fSeat f (sN seat) w x).1 (mh h M a (fSeat f (sN seat) w x).2) := by
  rcases sN_cases seat with ⟨hso, hsn⟩ | ⟨s, hs, rfl, hso⟩ <;> rw [hso]
  · refine Sp.of 0 (by decide) (Nat.le_of_ble_eq_true rfl) rfl ?_
    refine j_aload0 dX5_seat_0 ?_
    refine j_iload1 dX5_seat_1 ?_
    refine cd_X5_68 rfl (s_isRing _ hM) hM.1 dX5_seat_2 rfl rfl ?_
    refine j_bif_ne (tgt := 10) dX5_seat_5 (by decide) (fun c5 => ?_) (fun c5 => by exact nb hr c5)
    refine j_aload0 dX5_seat_10 ?_
    refine j_iload1 dX5_seat_11 ?_
    refine j_iconst (v := nI 4) dX5_seat_12 (by decide) ?_
    refine cd_X5_41 rfl (s_get hM ha (by first | decide | exact ix_lt hs (by decide) | omega)) hM.1 dX5_seat_13 rfl rfl ?_
    refine j_lconst (v := 0) dX5_seat_16 (by decide) ?_
    refine j_lcmp_eq (tgt := 23) dX5_seat_17 dX5_seat_18 (by decide) (fun c17 => ?_) (fun c17 => ?_)
    · refine j_iload2 dX5_seat_23 ?_
      refine cd_X5_33 rfl (s_isSeat _) dX5_seat_24 rfl rfl ?_
      refine j_bif_ne (tgt := 32) dX5_seat_27 (by decide) (fun c27 => by simp [hso] at c27) (fun c27 => ?_)
      refine j_iconst (v := 3) dX5_seat_30 (by decide) ?_
      refine j_iret dX5_seat_31 rfl rfl ?_
      exact ⟨_, rfl, by simp_all [fSeat], by simp_all [fSeat]⟩
    · refine j_iconst (v := 2) dX5_seat_21 (by decide) ?_
      refine j_iret dX5_seat_22 rfl rfl ?_
      exact ⟨_, rfl, by simp_all [fSeat], by simp_all [fSeat]⟩
  · refine Sp.of 0 (by decide) (Nat.le_of_ble_eq_true rfl) rfl ?_
    refine j_aload0 dX5_seat_0 ?_
    refine j_iload1 dX5_seat_1 ?_
    refine cd_X5_68 rfl (s_isRing _ hM) hM.1 dX5_seat_2 rfl rfl ?_
    refine j_bif_ne (tgt := 10) dX5_seat_5 (by decide) (fun c5 => ?_) (fun c5 => by exact nb hr c5)
    refine j_aload0 dX5_seat_10 ?_
    refine j_iload1 dX5_seat_11 ?_
    refine j_iconst (v := nI 4) dX5_seat_12 (by decide) ?_
    refine cd_X5_41 rfl (s_get hM ha (by first | decide | exact ix_lt hs (by decide) | omega)) hM.1 dX5_seat_13 rfl rfl ?_
    refine j_lconst (v := 0) dX5_seat_16 (by decide) ?_
    refine j_lcmp_eq (tgt := 23) dX5_seat_17 dX5_seat_18 (by decide) (fun c17 => ?_) (fun c17 => ?_)
    · refine j_iload2 dX5_seat_23 ?_
      refine cd_X5_33 rfl (s_isSeat _) dX5_seat_24 rfl rfl ?_
      refine j_bif_ne (tgt := 32) dX5_seat_27 (by decide) (fun c27 => ?_) (fun c27 => by simp [hso] at c27)
      refine j_iload3 dX5_seat_32 ?_
      refine j_if_lt (tgt := 41) dX5_seat_33 (by decide) (fun c33 => ?_) (fun c33 => ?_)
      · refine j_iconst (v := 4) dX5_seat_41 (by decide) ?_
        refine j_iret dX5_seat_42 rfl rfl ?_
        exact ⟨_, rfl, by simp_all [fSeat, ← Int32.not_le], by simp_all [fSeat, ← Int32.not_le]⟩
      · refine j_iload3 dX5_seat_36 ?_
        refine j_iconst (v := 4) dX5_seat_37 (by decide) ?_
        refine j_icmp_le (tgt := 43) dX5_seat_38 (by decide) (fun c38 => ?_) (fun c38 => ?_)
        · refine j_aload0 dX5_seat_43 ?_
          refine j_iload1 dX5_seat_44 ?_
          refine j_iload2 dX5_seat_45 ?_
          refine j_iconst (v := nI 0) dX5_seat_46 (by decide) ?_
          refine cd_X5_37 rfl (s_at) dX5_seat_47 rfl rfl ?_
          refine j_iload3 dX5_seat_50 ?_
          refine j_i2l dX5_seat_51 ?_
          refine cd_X5_62 rfl (s_set hM ha (by first | decide | exact ix_lt hs (by decide) | omega)) hM.1 dX5_seat_52 rfl rfl ?_
          refine j_aload0 dX5_seat_55 ?_
          refine j_iload1 dX5_seat_56 ?_
          refine j_iload2 dX5_seat_57 ?_
          refine j_iconst (v := nI 1) dX5_seat_58 (by decide) ?_
          refine cd_X5_37 rfl (s_at) dX5_seat_59 rfl rfl ?_
          refine j_iload3 dX5_seat_62 ?_
          refine j_iconst (v := 1) dX5_seat_63 (by decide) ?_
          refine j_icmp_ne (tgt := 73) dX5_seat_64 (by decide) (fun c64 => ?_) (fun c64 => ?_)
          · refine j_lconst (v := 0) dX5_seat_73 (by decide) ?_
            refine cd_X5_62 rfl (s_set hM ha (by first | decide | exact ix_lt hs (by decide) | omega)) hM.1 dX5_seat_74 rfl rfl ?_
            refine j_iconst (v := 0) dX5_seat_77 (by decide) ?_
            refine j_iret dX5_seat_78 rfl rfl ?_
            exact ⟨_, rfl, by simp_all [fSeat, ← Int32.not_le], by simp_all [fSeat, ← Int32.not_le]⟩
          · refine j_iload4 dX5_seat_67 ?_
            refine j_i2l dX5_seat_69 ?_
            refine j_goto (tgt := 74) dX5_seat_70 (by decide) ?_
            refine cd_X5_62 rfl (s_set hM ha (by first | decide | exact ix_lt hs (by decide) | omega)) hM.1 dX5_seat_74 rfl rfl ?_
            refine j_iconst (v := 0) dX5_seat_77 (by decide) ?_
            refine j_iret dX5_seat_78 rfl rfl ?_
            exact ⟨_, rfl, by simp_all [fSeat, ← Int32.not_le], by simp_all [fSeat, ← Int32.not_le]⟩
        · refine j_iconst (v := 4) dX5_seat_41 (by decide) ?_
          refine j_iret dX5_seat_42 rfl rfl ?_
          exact ⟨_, rfl, by simp_all [fSeat, ← Int32.not_le], by simp_all [fSeat, ← Int32.not_le]⟩
    · refine j_iconst (v := 2) dX5_seat_21 (by decide) ?_
      refine j_iret dX5_seat_22 rfl rfl ?_
      exact ⟨_, rfl, by simp_all [fSeat, ← Int32.not_le], by simp_all [fSeat, ← Int32.not_le]⟩
theorem s_letter {seat : Int32} (hM : MSh h.1 M) (ha : a < 40) (hr : isRi h M (nI a) = true)  : DI cx mX5_letter 2 (mh h M a f) [.ref M, .int (nI a), .int seat] (fLetter f (sN seat)) (mh h M a f) := by
  rcases sN_cases seat with ⟨hso, hsn⟩ | ⟨s, hs, rfl, hso⟩ <;> rw [hso]
  · refine Sp.of 0 (by decide) (Nat.le_of_ble_eq_true rfl) rfl ?_
    refine j_aload0 dX5_letter_0 ?_
    refine j_iload1 dX5_letter_1 ?_
    refine cd_X5_68 rfl (s_isRing _ hM) hM.1 dX5_letter_2 rfl rfl ?_
    refine j_bif_eq (tgt := 29) dX5_letter_5 (by decide) (fun c5 => by exact nb hr c5) (fun c5 => ?_)
    refine j_iload2 dX5_letter_8 ?_
    refine cd_X5_33 rfl (s_isSeat _) dX5_letter_9 rfl rfl ?_
    refine j_bif_eq (tgt := 29) dX5_letter_12 (by decide) (fun c12 => ?_) (fun c12 => by simp [hso] at c12)
    refine j_iconst (v := 0) dX5_letter_29 (by decide) ?_
    refine j_iret dX5_letter_30 rfl rfl ?_
    exact ⟨_, rfl, rfl, rfl⟩
  · refine Sp.of 0 (by decide) (Nat.le_of_ble_eq_true rfl) rfl ?_
    refine j_aload0 dX5_letter_0 ?_
    refine j_iload1 dX5_letter_1 ?_
    refine cd_X5_68 rfl (s_isRing _ hM) hM.1 dX5_letter_2 rfl rfl ?_
    refine j_bif_eq (tgt := 29) dX5_letter_5 (by decide) (fun c5 => by exact nb hr c5) (fun c5 => ?_)
    refine j_iload2 dX5_letter_8 ?_
    refine cd_X5_33 rfl (s_isSeat _) dX5_letter_9 rfl rfl ?_
    refine j_bif_eq (tgt := 29) dX5_letter_12 (by decide) (fun c12 => by simp [hso] at c12) (fun c12 => ?_)
    refine j_aload0 dX5_letter_15 ?_
    refine j_iload1 dX5_letter_16 ?_
    refine j_iload2 dX5_letter_17 ?_
    refine j_iconst (v := nI 1) dX5_letter_18 (by decide) ?_
    refine cd_X5_37 rfl (s_at) dX5_letter_19 rfl rfl ?_
    refine cd_X5_41 rfl (s_get hM ha (by first | decide | exact ix_lt hs (by decide) | omega)) hM.1 dX5_letter_22 rfl rfl ?_
    refine j_l2i dX5_letter_25 ?_
    refine j_goto (tgt := 30) dX5_letter_26 (by decide) ?_
    refine j_iret dX5_letter_30 rfl rfl ?_
    exact ⟨_, rfl, rfl, rfl⟩
theorem s_answers {u seat : Int32} (hM : MSh h.1 M) (ha : a < 40) (hr : isRi h M (nI a) = true) : DI cx mX5_answers 2 (mh h M a f) [.ref M, .int (nI a), .int u, .int seat] (fAnswers f (sN u) (sN seat) u).1 (mh h M a (fAnswers f (sN u) (sN seat) u).2) := by
  rcases sN_cases u with ⟨huo, hun⟩ | ⟨q, hq, rfl, huo⟩ <;> rw [huo]
  · refine Sp.of 0 (by decide) (Nat.le_of_ble_eq_true rfl) rfl ?_
    refine j_aload0 dX5_answers_0 ?_
    refine j_iload1 dX5_answers_1 ?_
    refine cd_X5_68 rfl (s_isRing _ hM) hM.1 dX5_answers_2 rfl rfl ?_
    refine j_bif_ne (tgt := 10) dX5_answers_5 (by decide) (fun c5 => ?_) (fun c5 => by exact nb hr c5)
    refine j_aload0 dX5_answers_10 ?_
    refine j_iload1 dX5_answers_11 ?_
    refine j_iconst (v := nI 4) dX5_answers_12 (by decide) ?_
    refine cd_X5_41 rfl (s_get hM ha (by first | decide | exact ix_lt hs (by decide) | omega)) hM.1 dX5_answers_13 rfl rfl ?_
    refine j_lconst (v := 0) dX5_answers_16 (by decide) ?_
    refine j_lcmp_eq (tgt := 23) dX5_answers_17 dX5_answers_18 (by decide) (fun c17 => ?_) (fun c17 => ?_)
    · refine j_iload2 dX5_answers_23 ?_
      refine cd_X5_33 rfl (s_isSeat _) dX5_answers_24 rfl rfl ?_
      refine j_bif_eq (tgt := 45) dX5_answers_27 (by decide) (fun c27 => ?_) (fun c27 => by simp [huo] at c27)
      refine j_iconst (v := 3) dX5_answers_45 (by decide) ?_
      refine j_iret dX5_answers_46 rfl rfl ?_
      exact ⟨_, rfl, by simp_all [fAnswers], by simp_all [fAnswers]⟩
    · refine j_iconst (v := 2) dX5_answers_21 (by decide) ?_
      refine j_iret dX5_answers_22 rfl rfl ?_
      exact ⟨_, rfl, by simp_all [fAnswers], by simp_all [fAnswers]⟩
  · rcases sN_cases seat with ⟨hso, hsn⟩ | ⟨s, hs, rfl, hso⟩ <;> rw [hso]
    · refine Sp.of 0 (by decide) (Nat.le_of_ble_eq_true rfl) rfl ?_
      refine j_aload0 dX5_answers_0 ?_
      refine j_iload1 dX5_answers_1 ?_
      refine cd_X5_68 rfl (s_isRing _ hM) hM.1 dX5_answers_2 rfl rfl ?_
      refine j_bif_ne (tgt := 10) dX5_answers_5 (by decide) (fun c5 => ?_) (fun c5 => by exact nb hr c5)
      refine j_aload0 dX5_answers_10 ?_
      refine j_iload1 dX5_answers_11 ?_
      refine j_iconst (v := nI 4) dX5_answers_12 (by decide) ?_
      refine cd_X5_41 rfl (s_get hM ha (by first | decide | exact ix_lt hs (by decide) | omega)) hM.1 dX5_answers_13 rfl rfl ?_
      refine j_lconst (v := 0) dX5_answers_16 (by decide) ?_
      refine j_lcmp_eq (tgt := 23) dX5_answers_17 dX5_answers_18 (by decide) (fun c17 => ?_) (fun c17 => ?_)
      · refine j_iload2 dX5_answers_23 ?_
        refine cd_X5_33 rfl (s_isSeat _) dX5_answers_24 rfl rfl ?_
        refine j_bif_eq (tgt := 45) dX5_answers_27 (by decide) (fun c27 => by simp [huo] at c27) (fun c27 => ?_)
        refine j_aload0 dX5_answers_30 ?_
        refine j_iload1 dX5_answers_31 ?_
        refine j_iload2 dX5_answers_32 ?_
        refine j_iconst (v := nI 0) dX5_answers_33 (by decide) ?_
        refine cd_X5_37 rfl (s_at) dX5_answers_34 rfl rfl ?_
        refine cd_X5_41 rfl (s_get hM ha (ix_lt hq (by decide))) hM.1 dX5_answers_37 rfl rfl ?_
        refine j_lconst (v := 0) dX5_answers_40 (by decide) ?_
        refine j_lcmp_ne (tgt := 47) dX5_answers_41 dX5_answers_42 (by decide) (fun c41 => ?_) (fun c41 => ?_)
        · refine j_aload0 dX5_answers_47 ?_
          refine j_iload1 dX5_answers_48 ?_
          refine j_iload2 dX5_answers_49 ?_
          refine j_iconst (v := nI 0) dX5_answers_50 (by decide) ?_
          refine cd_X5_37 rfl (s_at) dX5_answers_51 rfl rfl ?_
          refine cd_X5_41 rfl (s_get hM ha (ix_lt hq (by decide))) hM.1 dX5_answers_54 rfl rfl ?_
          refine j_ldc2 dX5_answers_57 wT_kl_X5_71 ?_
          refine j_lcmp_eq (tgt := 66) dX5_answers_60 dX5_answers_61 (by decide) (fun c60 => ?_) (fun c60 => ?_)
          · refine j_aload0 dX5_answers_66 ?_
            refine j_iload1 dX5_answers_67 ?_
            refine j_iload3 dX5_answers_68 ?_
            refine cd_X5_47 rfl (s_isMemberN hso) hM.1 dX5_answers_69 rfl rfl ?_
            refine j_bif_eq (tgt := 80) dX5_answers_72 (by decide) (fun c72 => ?_) (fun c72 => by simp at c72)
            refine j_iconst (v := 3) dX5_answers_80 (by decide) ?_
            refine j_iret dX5_answers_81 rfl rfl ?_
            exact ⟨_, rfl, by simp_all [fAnswers], by simp_all [fAnswers]⟩
          · refine j_iconst (v := 4) dX5_answers_64 (by decide) ?_
            refine j_iret dX5_answers_65 rfl rfl ?_
            exact ⟨_, rfl, by simp_all [fAnswers], by simp_all [fAnswers]⟩
        · refine j_iconst (v := 3) dX5_answers_45 (by decide) ?_
          refine j_iret dX5_answers_46 rfl rfl ?_
          exact ⟨_, rfl, by simp_all [fAnswers], by simp_all [fAnswers]⟩
      · refine j_iconst (v := 2) dX5_answers_21 (by decide) ?_
        refine j_iret dX5_answers_22 rfl rfl ?_
        exact ⟨_, rfl, by simp_all [fAnswers], by simp_all [fAnswers]⟩
    · refine Sp.of 0 (by decide) (Nat.le_of_ble_eq_true rfl) rfl ?_
      refine j_aload0 dX5_answers_0 ?_
      refine j_iload1 dX5_answers_1 ?_
      refine cd_X5_68 rfl (s_isRing _ hM) hM.1 dX5_answers_2 rfl rfl ?_
      refine j_bif_ne (tgt := 10) dX5_answers_5 (by decide) (fun c5 => ?_) (fun c5 => by exact nb hr c5)
      refine j_aload0 dX5_answers_10 ?_
      refine j_iload1 dX5_answers_11 ?_
      refine j_iconst (v := nI 4) dX5_answers_12 (by decide) ?_
      refine cd_X5_41 rfl (s_get hM ha (by first | decide | exact ix_lt hs (by decide) | omega)) hM.1 dX5_answers_13 rfl rfl ?_
      refine j_lconst (v := 0) dX5_answers_16 (by decide) ?_
      refine j_lcmp_eq (tgt := 23) dX5_answers_17 dX5_answers_18 (by decide) (fun c17 => ?_) (fun c17 => ?_)
      · refine j_iload2 dX5_answers_23 ?_
        refine cd_X5_33 rfl (s_isSeat _) dX5_answers_24 rfl rfl ?_
        refine j_bif_eq (tgt := 45) dX5_answers_27 (by decide) (fun c27 => by simp [huo] at c27) (fun c27 => ?_)
        refine j_aload0 dX5_answers_30 ?_
        refine j_iload1 dX5_answers_31 ?_
        refine j_iload2 dX5_answers_32 ?_
        refine j_iconst (v := nI 0) dX5_answers_33 (by decide) ?_
        refine cd_X5_37 rfl (s_at) dX5_answers_34 rfl rfl ?_
        refine cd_X5_41 rfl (s_get hM ha (ix_lt hq (by decide))) hM.1 dX5_answers_37 rfl rfl ?_
        refine j_lconst (v := 0) dX5_answers_40 (by decide) ?_
        refine j_lcmp_ne (tgt := 47) dX5_answers_41 dX5_answers_42 (by decide) (fun c41 => ?_) (fun c41 => ?_)
        · refine j_aload0 dX5_answers_47 ?_
          refine j_iload1 dX5_answers_48 ?_
          refine j_iload2 dX5_answers_49 ?_
          refine j_iconst (v := nI 0) dX5_answers_50 (by decide) ?_
          refine cd_X5_37 rfl (s_at) dX5_answers_51 rfl rfl ?_
          refine cd_X5_41 rfl (s_get hM ha (ix_lt hq (by decide))) hM.1 dX5_answers_54 rfl rfl ?_
          refine j_ldc2 dX5_answers_57 wT_kl_X5_71 ?_
          refine j_lcmp_eq (tgt := 66) dX5_answers_60 dX5_answers_61 (by decide) (fun c60 => ?_) (fun c60 => ?_)
          · refine j_aload0 dX5_answers_66 ?_
            refine j_iload1 dX5_answers_67 ?_
            refine j_iload3 dX5_answers_68 ?_
            refine cd_X5_47 rfl (s_isMember hM ha hs) hM.1 dX5_answers_69 rfl rfl ?_
            refine j_bif_eq (tgt := 80) dX5_answers_72 (by decide) (fun c72 => ?_) (fun c72 => ?_)
            · refine j_iconst (v := 3) dX5_answers_80 (by decide) ?_
              refine j_iret dX5_answers_81 rfl rfl ?_
              exact ⟨_, rfl, by simp_all [fAnswers], by simp_all [fAnswers]⟩
            · refine j_iload3 dX5_answers_75 ?_
              refine j_iload2 dX5_answers_76 ?_
              refine j_icmpN_ne (tgt := 82) (by first | decide | omega) (by first | decide | omega) dX5_answers_77 (by decide) (fun c77 => ?_) (fun c77 => ?_)
              · refine j_aload0 dX5_answers_82 ?_
                refine j_iload1 dX5_answers_83 ?_
                refine j_iload3 dX5_answers_84 ?_
                refine j_iconst (v := nI 2) dX5_answers_85 (by decide) ?_
                refine cd_X5_37 rfl (s_at) dX5_answers_86 rfl rfl ?_
                refine cd_X5_41 rfl (s_get hM ha (by first | decide | exact ix_lt hs (by decide) | omega)) hM.1 dX5_answers_89 rfl rfl ?_
                refine j_iload2 dX5_answers_92 ?_
                refine j_i2l dX5_answers_93 ?_
                refine j_lcmp_ne (tgt := 101) dX5_answers_94 dX5_answers_95 (by decide) (fun c94 => ?_) (fun c94 => ?_)
                · refine j_aload0 dX5_answers_101 ?_
                  refine j_iload1 dX5_answers_102 ?_
                  refine j_iload3 dX5_answers_103 ?_
                  refine j_iconst (v := nI 2) dX5_answers_104 (by decide) ?_
                  refine cd_X5_37 rfl (s_at) dX5_answers_105 rfl rfl ?_
                  refine j_iload2 dX5_answers_108 ?_
                  refine j_i2l dX5_answers_109 ?_
                  refine cd_X5_62 rfl (s_set hM ha (by first | decide | exact ix_lt hs (by decide) | omega)) hM.1 dX5_answers_110 rfl rfl ?_
                  refine j_iconst (v := 0) dX5_answers_113 (by decide) ?_
                  refine j_iret dX5_answers_114 rfl rfl ?_
                  exact ⟨_, rfl, by simp_all [fAnswers], by simp_all [fAnswers]⟩
                · refine j_bipush (v := 8) dX5_answers_98 (by decide) ?_
                  refine j_iret dX5_answers_100 rfl rfl ?_
                  exact ⟨_, rfl, by simp_all [fAnswers], by simp_all [fAnswers]⟩
              · refine j_iconst (v := 3) dX5_answers_80 (by decide) ?_
                refine j_iret dX5_answers_81 rfl rfl ?_
                exact ⟨_, rfl, by simp_all [fAnswers], by simp_all [fAnswers]⟩
          · refine j_iconst (v := 4) dX5_answers_64 (by decide) ?_
            refine j_iret dX5_answers_65 rfl rfl ?_
            exact ⟨_, rfl, by simp_all [fAnswers], by simp_all [fAnswers]⟩
        · refine j_iconst (v := 3) dX5_answers_45 (by decide) ?_
          refine j_iret dX5_answers_46 rfl rfl ?_
          exact ⟨_, rfl, by simp_all [fAnswers], by simp_all [fAnswers]⟩
      · refine j_iconst (v := 2) dX5_answers_21 (by decide) ?_
        refine j_iret dX5_answers_22 rfl rfl ?_
        exact ⟨_, rfl, by simp_all [fAnswers], by simp_all [fAnswers]⟩
theorem s_order {seat : Int32} {t : Nat} (hM : MSh h.1 M) (ha : a < 40) (hr : isRi h M (nI a) = true) (ht : f 12 = lN t) (ht6 : t ≤ 60) (ht5 : ∀ s, s < 60 → isTo f s = false → t < 60) : DI cx mX5_order 2 (mh h M a f) [.ref M, .int (nI a), .int seat] (fOrder f (sN seat)).1 (mh h M a (fOrder f (sN seat)).2) := by
  rcases sN_cases seat with ⟨hso, hsn⟩ | ⟨s, hs, rfl, hso⟩ <;> rw [hso]
  · refine Sp.of 0 (by decide) (Nat.le_of_ble_eq_true rfl) rfl ?_
    refine j_aload0 dX5_order_0 ?_
    refine j_iload1 dX5_order_1 ?_
    refine cd_X5_68 rfl (s_isRing _ hM) hM.1 dX5_order_2 rfl rfl ?_
    refine j_bif_ne (tgt := 10) dX5_order_5 (by decide) (fun c5 => ?_) (fun c5 => by exact nb hr c5)
    refine j_aload0 dX5_order_10 ?_
    refine j_iload1 dX5_order_11 ?_
    refine j_iconst (v := nI 4) dX5_order_12 (by decide) ?_
    refine cd_X5_41 rfl (s_get hM ha (by first | decide | exact ix_lt hs (by decide) | omega)) hM.1 dX5_order_13 rfl rfl ?_
    refine j_lconst (v := 0) dX5_order_16 (by decide) ?_
    refine j_lcmp_eq (tgt := 23) dX5_order_17 dX5_order_18 (by decide) (fun c17 => ?_) (fun c17 => ?_)
    · refine j_aload0 dX5_order_23 ?_
      refine j_iload1 dX5_order_24 ?_
      refine j_iload2 dX5_order_25 ?_
      refine cd_X5_47 rfl (s_isMemberN hso) hM.1 dX5_order_26 rfl rfl ?_
      refine j_bif_ne (tgt := 34) dX5_order_29 (by decide) (fun c29 => by simp at c29) (fun c29 => ?_)
      refine j_iconst (v := 3) dX5_order_32 (by decide) ?_
      refine j_iret dX5_order_33 rfl rfl ?_
      exact ⟨_, rfl, by simp_all [fOrder], by simp_all [fOrder]⟩
    · refine j_iconst (v := 2) dX5_order_21 (by decide) ?_
      refine j_iret dX5_order_22 rfl rfl ?_
      exact ⟨_, rfl, by simp_all [fOrder], by simp_all [fOrder]⟩
  · refine Sp.of 0 (by decide) (Nat.le_of_ble_eq_true rfl) rfl ?_
    refine j_aload0 dX5_order_0 ?_
    refine j_iload1 dX5_order_1 ?_
    refine cd_X5_68 rfl (s_isRing _ hM) hM.1 dX5_order_2 rfl rfl ?_
    refine j_bif_ne (tgt := 10) dX5_order_5 (by decide) (fun c5 => ?_) (fun c5 => by exact nb hr c5)
    refine j_aload0 dX5_order_10 ?_
    refine j_iload1 dX5_order_11 ?_
    refine j_iconst (v := nI 4) dX5_order_12 (by decide) ?_
    refine cd_X5_41 rfl (s_get hM ha (by first | decide | exact ix_lt hs (by decide) | omega)) hM.1 dX5_order_13 rfl rfl ?_
    refine j_lconst (v := 0) dX5_order_16 (by decide) ?_
    refine j_lcmp_eq (tgt := 23) dX5_order_17 dX5_order_18 (by decide) (fun c17 => ?_) (fun c17 => ?_)
    · refine j_aload0 dX5_order_23 ?_
      refine j_iload1 dX5_order_24 ?_
      refine j_iload2 dX5_order_25 ?_
      refine cd_X5_47 rfl (s_isMember hM ha hs) hM.1 dX5_order_26 rfl rfl ?_
      refine j_bif_ne (tgt := 34) dX5_order_29 (by decide) (fun c29 => ?_) (fun c29 => ?_)
      · refine j_aload0 dX5_order_34 ?_
        refine j_iload1 dX5_order_35 ?_
        refine j_iconst (v := nI 0) dX5_order_36 (by decide) ?_
        refine cd_X5_41 rfl (s_get hM ha (by first | decide | exact ix_lt hs (by decide) | omega)) hM.1 dX5_order_37 rfl rfl ?_
        refine j_lconst (v := 0) dX5_order_40 (by decide) ?_
        refine j_lcmp_eq (tgt := 47) dX5_order_41 dX5_order_42 (by decide) (fun c41 => ?_) (fun c41 => ?_)
        · refine j_aload0 dX5_order_47 ?_
          refine j_iload1 dX5_order_48 ?_
          refine j_iload2 dX5_order_49 ?_
          refine cd_X5_73 rfl (s_isTold hM ha hs ht ht6) hM.1 dX5_order_50 rfl rfl ?_
          refine j_bif_eq (tgt := 59) dX5_order_53 (by decide) (fun c53 => ?_) (fun c53 => ?_)
          · refine j_aload0 dX5_order_59 ?_
            refine j_iload1 dX5_order_60 ?_
            refine j_sipush (v := nI 1033) dX5_order_61 (by decide) ?_
            refine j_aload0 dX5_order_64 ?_
            refine j_iload1 dX5_order_65 ?_
            refine j_bipush (v := nI 12) dX5_order_66 (by decide) ?_
            refine cd_X5_41 rfl (s_get hM ha (by decide)) hM.1 dX5_order_68 rfl rfl ?_
            rw [ht]
            have ht7 := ht5 s hs c53
            refine j_l2iN dX5_order_71 ?_
            refine j_iaddN dX5_order_72 ?_
            refine j_iload2 dX5_order_73 ?_
            refine j_i2lN (by first | decide | omega) dX5_order_74 ?_
            refine cd_X5_62 rfl (s_set hM ha (by first | decide | exact ix_lt hs (by decide) | omega)) hM.1 dX5_order_75 rfl rfl ?_
            refine j_aload0 dX5_order_78 ?_
            refine j_iload1 dX5_order_79 ?_
            refine j_bipush (v := nI 12) dX5_order_80 (by decide) ?_
            refine j_lconst (v := 1) dX5_order_82 (by decide) ?_
            refine cd_X5_76 rfl (s_more hM ha (by first | decide | exact ix_lt hs (by decide) | omega)) hM.1 dX5_order_83 rfl rfl ?_
            refine j_iconst (v := 0) dX5_order_86 (by decide) ?_
            refine j_iret dX5_order_87 rfl rfl ?_
            exact ⟨_, rfl, by simp_all [fOrder], by simp_all [fOrder, lN_nat (show t < 2 ^ 63 by omega), upF_n _ _ (show 12 ≠ 1033 + t by omega)]⟩
          · refine j_bipush (v := 8) dX5_order_56 (by decide) ?_
            refine j_iret dX5_order_58 rfl rfl ?_
            exact ⟨_, rfl, by simp_all [fOrder], by simp_all [fOrder, lN_nat (show t < 2 ^ 63 by omega), upF_n _ _ (show 12 ≠ 1033 + t by omega)]⟩
        · refine j_iconst (v := 4) dX5_order_45 (by decide) ?_
          refine j_iret dX5_order_46 rfl rfl ?_
          exact ⟨_, rfl, by simp_all [fOrder], by simp_all [fOrder, lN_nat (show t < 2 ^ 63 by omega), upF_n _ _ (show 12 ≠ 1033 + t by omega)]⟩
      · refine j_iconst (v := 3) dX5_order_32 (by decide) ?_
        refine j_iret dX5_order_33 rfl rfl ?_
        exact ⟨_, rfl, by simp_all [fOrder], by simp_all [fOrder, lN_nat (show t < 2 ^ 63 by omega), upF_n _ _ (show 12 ≠ 1033 + t by omega)]⟩
    · refine j_iconst (v := 2) dX5_order_21 (by decide) ?_
      refine j_iret dX5_order_22 rfl rfl ?_
      exact ⟨_, rfl, by simp_all [fOrder], by simp_all [fOrder, lN_nat (show t < 2 ^ 63 by omega), upF_n _ _ (show 12 ≠ 1033 + t by omega)]⟩
theorem s_lot {x : Int32} {t : Nat} (hM : MSh h.1 M) (ha : a < 40) (hr : isRi h M (nI a) = true) (ht : f 10 = lN t) (ht6 : t ≤ 60) : DI cx mX5_lot 2 (mh h M a f) [.ref M, .int (nI a), .int x] (fLot f x).1 (mh h M a (fLot f x).2) := by
  refine Sp.of 0 (by decide) (Nat.le_of_ble_eq_true rfl) rfl ?_
  refine j_aload0 dX5_lot_0 ?_
  refine j_iload1 dX5_lot_1 ?_
  refine cd_X5_68 rfl (s_isRing _ hM) hM.1 dX5_lot_2 rfl rfl ?_
  refine j_bif_ne (tgt := 10) dX5_lot_5 (by decide) (fun c5 => ?_) (fun c5 => by exact nb hr c5)
  refine j_aload0 dX5_lot_10 ?_
  refine j_iload1 dX5_lot_11 ?_
  refine j_iconst (v := nI 4) dX5_lot_12 (by decide) ?_
  refine cd_X5_41 rfl (s_get hM ha (by first | decide | exact ix_lt hs (by decide) | omega)) hM.1 dX5_lot_13 rfl rfl ?_
  refine j_ldc2 dX5_lot_16 wT_kl_X5_45 ?_
  refine j_lcmp_ne (tgt := 25) dX5_lot_19 dX5_lot_20 (by decide) (fun c19 => ?_) (fun c19 => ?_)
  · refine j_aload0 dX5_lot_25 ?_
    refine j_iload1 dX5_lot_26 ?_
    refine j_iconst (v := nI 0) dX5_lot_27 (by decide) ?_
    refine cd_X5_41 rfl (s_get hM ha (by first | decide | exact ix_lt hs (by decide) | omega)) hM.1 dX5_lot_28 rfl rfl ?_
    refine j_lconst (v := 1) dX5_lot_31 (by decide) ?_
    refine j_lcmp_eq (tgt := 38) dX5_lot_32 dX5_lot_33 (by decide) (fun c32 => ?_) (fun c32 => ?_)
    · refine j_iload2 dX5_lot_38 ?_
      refine j_if_ge (tgt := 45) dX5_lot_39 (by decide) (fun c39 => ?_) (fun c39 => ?_)
      · refine j_aload0 dX5_lot_45 ?_
        refine j_iload1 dX5_lot_46 ?_
        refine j_bipush (v := nI 10) dX5_lot_47 (by decide) ?_
        refine cd_X5_41 rfl (s_get hM ha (by first | decide | exact ix_lt hs (by decide) | omega)) hM.1 dX5_lot_49 rfl rfl ?_
        refine j_ldc2 dX5_lot_52 wT_kl_X5_79 ?_
        refine j_lcmp_ne (tgt := 62) dX5_lot_55 dX5_lot_56 (by decide) (fun c55 => ?_) (fun c55 => ?_)
        · refine j_aload0 dX5_lot_62 ?_
          refine j_iload1 dX5_lot_63 ?_
          refine j_sipush (v := nI 1093) dX5_lot_64 (by decide) ?_
          refine j_aload0 dX5_lot_67 ?_
          refine j_iload1 dX5_lot_68 ?_
          refine j_bipush (v := nI 10) dX5_lot_69 (by decide) ?_
          refine cd_X5_41 rfl (s_get hM ha (by decide)) hM.1 dX5_lot_71 rfl rfl ?_
          have ht7 : t < 60 := by rcases Nat.lt_or_ge t 60 with q | q; exact q; exact absurd (by rw [ht, show t = 60 by omega]; rfl) c55
          rw [ht]
          refine j_l2iN dX5_lot_74 ?_
          refine j_iaddN dX5_lot_75 ?_
          refine j_iload2 dX5_lot_76 ?_
          refine j_i2l dX5_lot_77 ?_
          refine cd_X5_62 rfl (s_set hM ha (by first | decide | exact ix_lt hs (by decide) | omega)) hM.1 dX5_lot_78 rfl rfl ?_
          refine j_aload0 dX5_lot_81 ?_
          refine j_iload1 dX5_lot_82 ?_
          refine j_bipush (v := nI 10) dX5_lot_83 (by decide) ?_
          refine j_lconst (v := 1) dX5_lot_85 (by decide) ?_
          refine cd_X5_76 rfl (s_more hM ha (by first | decide | exact ix_lt hs (by decide) | omega)) hM.1 dX5_lot_86 rfl rfl ?_
          refine j_iconst (v := 0) dX5_lot_89 (by decide) ?_
          refine j_iret dX5_lot_90 rfl rfl ?_
          exact ⟨_, rfl, by simp_all [fLot, ← Int32.not_le], by simp_all [fLot, lN_nat (show t < 2 ^ 63 by omega), upF_n _ _ (show 10 ≠ 1093 + t by omega), ← Int32.not_le]⟩
        · refine j_bipush (v := 9) dX5_lot_59 (by decide) ?_
          refine j_iret dX5_lot_61 rfl rfl ?_
          exact ⟨_, rfl, by simp_all [fLot, ← Int32.not_le], by simp_all [fLot, lN_nat (show t < 2 ^ 63 by omega), upF_n _ _ (show 10 ≠ 1093 + t by omega), ← Int32.not_le]⟩
      · refine j_bipush (v := 7) dX5_lot_42 (by decide) ?_
        refine j_iret dX5_lot_44 rfl rfl ?_
        exact ⟨_, rfl, by simp_all [fLot, ← Int32.not_le], by simp_all [fLot, lN_nat (show t < 2 ^ 63 by omega), upF_n _ _ (show 10 ≠ 1093 + t by omega), ← Int32.not_le]⟩
    · refine j_iconst (v := 4) dX5_lot_36 (by decide) ?_
      refine j_iret dX5_lot_37 rfl rfl ?_
      exact ⟨_, rfl, by simp_all [fLot, ← Int32.not_le], by simp_all [fLot, lN_nat (show t < 2 ^ 63 by omega), upF_n _ _ (show 10 ≠ 1093 + t by omega), ← Int32.not_le]⟩
  · refine j_iconst (v := 2) dX5_lot_23 (by decide) ?_
    refine j_iret dX5_lot_24 rfl rfl ?_
    exact ⟨_, rfl, by simp_all [fLot, ← Int32.not_le], by simp_all [fLot, lN_nat (show t < 2 ^ 63 by omega), upF_n _ _ (show 10 ≠ 1093 + t by omega), ← Int32.not_le]⟩
theorem s_deposit {seat sum : Int32} (hM : MSh h.1 M) (ha : a < 40) (hr : isRi h M (nI a) = true)  : DI cx mX5_deposit 4 (mh h M a f) [.ref M, .int (nI a), .int seat, .int sum] (fDeposit f (sN seat) sum).1 (mh h M a (fDeposit f (sN seat) sum).2) := by
  rcases sN_cases seat with ⟨hso, hsn⟩ | ⟨s, hs, rfl, hso⟩ <;> rw [hso]
  · refine Sp.of 1 (by decide) (Nat.le_of_ble_eq_true rfl) rfl ?_
    refine j_aload0 dX5_deposit_0 ?_
    refine j_iload1 dX5_deposit_1 ?_
    refine j_iload2 dX5_deposit_2 ?_
    refine cd_X5_81 rfl (s_against hM ha hr) hM.1 dX5_deposit_3 rfl rfl ?_
    refine j_istore4 dX5_deposit_6 (by decide) trivial ?_
    refine j_iload4 dX5_deposit_8 ?_
    refine j_if_eq (tgt := 16) dX5_deposit_10 (by decide) (fun c10 => by simp [hso, ag] at c10; split at c10 <;> simp at c10) (fun c10 => ?_)
    refine j_iload4 dX5_deposit_13 ?_
    refine j_iret dX5_deposit_15 rfl rfl ?_
    exact ⟨_, rfl, by simp_all [fDeposit], by simp_all [fDeposit]⟩
  · refine Sp.of 1 (by decide) (Nat.le_of_ble_eq_true rfl) rfl ?_
    refine j_aload0 dX5_deposit_0 ?_
    refine j_iload1 dX5_deposit_1 ?_
    refine j_iload2 dX5_deposit_2 ?_
    refine cd_X5_81 rfl (s_against hM ha hr) hM.1 dX5_deposit_3 rfl rfl ?_
    refine j_istore4 dX5_deposit_6 (by decide) trivial ?_
    refine j_iload4 dX5_deposit_8 ?_
    refine j_if_eq (tgt := 16) dX5_deposit_10 (by decide) (fun c10 => ?_) (fun c10 => ?_)
    · refine j_aload0 dX5_deposit_16 ?_
      refine j_iload1 dX5_deposit_17 ?_
      refine j_iload2 dX5_deposit_18 ?_
      refine j_iconst (v := nI 0) dX5_deposit_19 (by decide) ?_
      refine cd_X5_37 rfl (s_at) dX5_deposit_20 rfl rfl ?_
      refine cd_X5_41 rfl (s_get hM ha (by first | decide | exact ix_lt hs (by decide) | omega)) hM.1 dX5_deposit_23 rfl rfl ?_
      refine j_ldc2 dX5_deposit_26 wT_kl_X5_71 ?_
      refine j_lcmp_eq (tgt := 35) dX5_deposit_29 dX5_deposit_30 (by decide) (fun c29 => ?_) (fun c29 => ?_)
      · refine j_iload3 dX5_deposit_35 ?_
        refine j_iconst (v := 1) dX5_deposit_36 (by decide) ?_
        refine j_icmp_lt (tgt := 46) dX5_deposit_37 (by decide) (fun c37 => ?_) (fun c37 => ?_)
        · refine j_bipush (v := 7) dX5_deposit_46 (by decide) ?_
          refine j_iret dX5_deposit_48 rfl rfl ?_
          exact ⟨_, rfl, by simp_all [fDeposit, ← Int32.not_le], by simp_all [fDeposit, ← Int32.not_le]⟩
        · refine j_iload3 dX5_deposit_40 ?_
          refine j_ldc dX5_deposit_41 wT_k_X5_84 ?_
          refine j_icmp_le (tgt := 49) dX5_deposit_43 (by decide) (fun c43 => ?_) (fun c43 => ?_)
          · refine j_aload0 dX5_deposit_49 ?_
            refine j_iload1 dX5_deposit_50 ?_
            refine j_iload2 dX5_deposit_51 ?_
            refine j_bipush (v := nI 7) dX5_deposit_52 (by decide) ?_
            refine cd_X5_37 rfl (s_at) dX5_deposit_54 rfl rfl ?_
            refine j_iload3 dX5_deposit_57 ?_
            refine j_i2l dX5_deposit_58 ?_
            refine cd_X5_76 rfl (s_more hM ha (by first | decide | exact ix_lt hs (by decide) | omega)) hM.1 dX5_deposit_59 rfl rfl ?_
            refine j_iconst (v := 0) dX5_deposit_62 (by decide) ?_
            refine j_iret dX5_deposit_63 rfl rfl ?_
            exact ⟨_, rfl, by simp_all [fDeposit, ← Int32.not_le], by simp_all [fDeposit, ← Int32.not_le]⟩
          · refine j_bipush (v := 7) dX5_deposit_46 (by decide) ?_
            refine j_iret dX5_deposit_48 rfl rfl ?_
            exact ⟨_, rfl, by simp_all [fDeposit, ← Int32.not_le], by simp_all [fDeposit, ← Int32.not_le]⟩
      · refine j_iconst (v := 4) dX5_deposit_33 (by decide) ?_
        refine j_iret dX5_deposit_34 rfl rfl ?_
        exact ⟨_, rfl, by simp_all [fDeposit, ← Int32.not_le], by simp_all [fDeposit, ← Int32.not_le]⟩
    · refine j_iload4 dX5_deposit_13 ?_
      refine j_iret dX5_deposit_15 rfl rfl ?_
      exact ⟨_, rfl, by simp_all [fDeposit, ← Int32.not_le], by simp_all [fDeposit, ← Int32.not_le]⟩
theorem s_row {n : Int32} (hM : MSh h.1 M) (ha : a < 40) (hr : isRi h M (nI a) = true)  : DI cx mX5_row 3 (mh h M a f) [.ref M, .int (nI a), .int n] (fRow f n).1 (mh h M a (fRow f n).2) := by
  refine Sp.of 0 (by decide) (Nat.le_of_ble_eq_true rfl) rfl ?_
  refine j_aload0 dX5_row_0 ?_
  refine j_iload1 dX5_row_1 ?_
  refine cd_X5_68 rfl (s_isRing _ hM) hM.1 dX5_row_2 rfl rfl ?_
  refine j_bif_ne (tgt := 10) dX5_row_5 (by decide) (fun c5 => ?_) (fun c5 => by exact nb hr c5)
  refine j_aload0 dX5_row_10 ?_
  refine j_iload1 dX5_row_11 ?_
  refine j_iconst (v := nI 4) dX5_row_12 (by decide) ?_
  refine cd_X5_41 rfl (s_get hM ha (by first | decide | exact ix_lt hs (by decide) | omega)) hM.1 dX5_row_13 rfl rfl ?_
  refine j_lconst (v := 1) dX5_row_16 (by decide) ?_
  refine j_lcmp_eq (tgt := 23) dX5_row_17 dX5_row_18 (by decide) (fun c17 => ?_) (fun c17 => ?_)
  · refine j_aload0 dX5_row_23 ?_
    refine j_iload1 dX5_row_24 ?_
    refine j_iconst (v := nI 5) dX5_row_25 (by decide) ?_
    refine cd_X5_41 rfl (s_get hM ha (by first | decide | exact ix_lt hs (by decide) | omega)) hM.1 dX5_row_26 rfl rfl ?_
    refine j_aload0 dX5_row_29 ?_
    refine j_iload1 dX5_row_30 ?_
    refine j_bipush (v := nI 6) dX5_row_31 (by decide) ?_
    refine cd_X5_41 rfl (s_get hM ha (by first | decide | exact ix_lt hs (by decide) | omega)) hM.1 dX5_row_33 rfl rfl ?_
    refine j_lcmp_ne (tgt := 43) dX5_row_36 dX5_row_37 (by decide) (fun c36 => ?_) (fun c36 => ?_)
    · refine j_iload2 dX5_row_43 ?_
      refine j_if_lt (tgt := 53) dX5_row_44 (by decide) (fun c44 => ?_) (fun c44 => ?_)
      · refine j_bipush (v := 7) dX5_row_53 (by decide) ?_
        refine j_iret dX5_row_55 rfl rfl ?_
        exact ⟨_, rfl, by simp_all [fRow, ← Int32.not_le], by simp_all [fRow, ← Int32.not_le]⟩
      · refine j_iload2 dX5_row_47 ?_
        refine j_bipush (v := 60) dX5_row_48 (by decide) ?_
        refine j_icmp_le (tgt := 56) dX5_row_50 (by decide) (fun c50 => ?_) (fun c50 => ?_)
        · refine j_aload0 dX5_row_56 ?_
          refine j_iload1 dX5_row_57 ?_
          refine cd_X5_89 rfl (s_rowGoes hM ha) hM.1 dX5_row_58 rfl rfl ?_
          refine j_aload0 dX5_row_61 ?_
          refine j_iload1 dX5_row_62 ?_
          refine j_bipush (v := nI 7) dX5_row_63 (by decide) ?_
          refine j_iload2 dX5_row_65 ?_
          refine j_i2l dX5_row_66 ?_
          refine cd_X5_62 rfl (s_set hM ha (by first | decide | exact ix_lt hs (by decide) | omega)) hM.1 dX5_row_67 rfl rfl ?_
          refine j_iconst (v := 0) dX5_row_70 (by decide) ?_
          refine j_iret dX5_row_71 rfl rfl ?_
          exact ⟨_, rfl, by simp_all [fRow, ← Int32.not_le], by simp_all [fRow, ← Int32.not_le]⟩
        · refine j_bipush (v := 7) dX5_row_53 (by decide) ?_
          refine j_iret dX5_row_55 rfl rfl ?_
          exact ⟨_, rfl, by simp_all [fRow, ← Int32.not_le], by simp_all [fRow, ← Int32.not_le]⟩
    · refine j_bipush (v := 8) dX5_row_40 (by decide) ?_
      refine j_iret dX5_row_42 rfl rfl ?_
      exact ⟨_, rfl, by simp_all [fRow, ← Int32.not_le], by simp_all [fRow, ← Int32.not_le]⟩
  · refine j_iconst (v := 2) dX5_row_21 (by decide) ?_
    refine j_iret dX5_row_22 rfl rfl ?_
    exact ⟨_, rfl, by simp_all [fRow, ← Int32.not_le], by simp_all [fRow, ← Int32.not_le]⟩
theorem s_tear  (hM : MSh h.1 M) (ha : a < 40) (hr : isRi h M (nI a) = true)  : DI cx mX5_tear 3 (mh h M a f) [.ref M, .int (nI a)] (fTear f).1 (mh h M a (fTear f).2) := by
  refine Sp.of 0 (by decide) (Nat.le_of_ble_eq_true rfl) rfl ?_
  refine j_aload0 dX5_tear_0 ?_
  refine j_iload1 dX5_tear_1 ?_
  refine cd_X5_68 rfl (s_isRing _ hM) hM.1 dX5_tear_2 rfl rfl ?_
  refine j_bif_ne (tgt := 10) dX5_tear_5 (by decide) (fun c5 => ?_) (fun c5 => by exact nb hr c5)
  refine j_aload0 dX5_tear_10 ?_
  refine j_iload1 dX5_tear_11 ?_
  refine j_iconst (v := nI 4) dX5_tear_12 (by decide) ?_
  refine cd_X5_41 rfl (s_get hM ha (by first | decide | exact ix_lt hs (by decide) | omega)) hM.1 dX5_tear_13 rfl rfl ?_
  refine j_lconst (v := 1) dX5_tear_16 (by decide) ?_
  refine j_lcmp_eq (tgt := 23) dX5_tear_17 dX5_tear_18 (by decide) (fun c17 => ?_) (fun c17 => ?_)
  · refine j_aload0 dX5_tear_23 ?_
    refine j_iload1 dX5_tear_24 ?_
    refine j_bipush (v := nI 7) dX5_tear_25 (by decide) ?_
    refine cd_X5_41 rfl (s_get hM ha (by first | decide | exact ix_lt hs (by decide) | omega)) hM.1 dX5_tear_27 rfl rfl ?_
    refine j_ldc2 dX5_tear_30 wT_kl_X5_66 ?_
    refine j_lcmp_ne (tgt := 39) dX5_tear_33 dX5_tear_34 (by decide) (fun c33 => ?_) (fun c33 => ?_)
    · refine j_aload0 dX5_tear_39 ?_
      refine j_iload1 dX5_tear_40 ?_
      refine cd_X5_89 rfl (s_rowGoes hM ha) hM.1 dX5_tear_41 rfl rfl ?_
      refine j_iconst (v := 0) dX5_tear_44 (by decide) ?_
      refine j_iret dX5_tear_45 rfl rfl ?_
      exact ⟨_, rfl, by simp_all [fTear], by simp_all [fTear]⟩
    · refine j_iconst (v := 5) dX5_tear_37 (by decide) ?_
      refine j_iret dX5_tear_38 rfl rfl ?_
      exact ⟨_, rfl, by simp_all [fTear], by simp_all [fTear]⟩
  · refine j_iconst (v := 2) dX5_tear_21 (by decide) ?_
    refine j_iret dX5_tear_22 rfl rfl ?_
    exact ⟨_, rfl, by simp_all [fTear], by simp_all [fTear]⟩
theorem s_came {seat : Int32} (hM : MSh h.1 M) (ha : a < 40) (hr : isRi h M (nI a) = true)  : DI cx mX5_came 2 (mh h M a f) [.ref M, .int (nI a), .int seat] (fCame f (sN seat)) (mh h M a f) := by
  rcases sN_cases seat with ⟨hso, hsn⟩ | ⟨s, hs, rfl, hso⟩ <;> rw [hso]
  · refine Sp.of 0 (by decide) (Nat.le_of_ble_eq_true rfl) rfl ?_
    refine j_aload0 dX5_came_0 ?_
    refine j_iload1 dX5_came_1 ?_
    refine cd_X5_68 rfl (s_isRing _ hM) hM.1 dX5_came_2 rfl rfl ?_
    refine j_bif_eq (tgt := 28) dX5_came_5 (by decide) (fun c5 => by exact nb hr c5) (fun c5 => ?_)
    refine j_iload2 dX5_came_8 ?_
    refine cd_X5_33 rfl (s_isSeat _) dX5_came_9 rfl rfl ?_
    refine j_bif_eq (tgt := 28) dX5_came_12 (by decide) (fun c12 => ?_) (fun c12 => by simp [hso] at c12)
    refine j_iconst (v := (-1)) dX5_came_28 (by decide) ?_
    refine j_goto (tgt := 44) dX5_came_29 (by decide) ?_
    refine j_iret dX5_came_44 rfl rfl ?_
    exact ⟨_, rfl, rfl, rfl⟩
  · refine Sp.of 0 (by decide) (Nat.le_of_ble_eq_true rfl) rfl ?_
    refine j_aload0 dX5_came_0 ?_
    refine j_iload1 dX5_came_1 ?_
    refine cd_X5_68 rfl (s_isRing _ hM) hM.1 dX5_came_2 rfl rfl ?_
    refine j_bif_eq (tgt := 28) dX5_came_5 (by decide) (fun c5 => by exact nb hr c5) (fun c5 => ?_)
    refine j_iload2 dX5_came_8 ?_
    refine cd_X5_33 rfl (s_isSeat _) dX5_came_9 rfl rfl ?_
    refine j_bif_eq (tgt := 28) dX5_came_12 (by decide) (fun c12 => by simp [hso] at c12) (fun c12 => ?_)
    refine j_iload2 dX5_came_15 ?_
    refine j_i2lN (by first | decide | omega) dX5_came_16 ?_
    refine j_aload0 dX5_came_17 ?_
    refine j_iload1 dX5_came_18 ?_
    refine j_bipush (v := nI 7) dX5_came_19 (by decide) ?_
    refine cd_X5_41 rfl (s_get hM ha (by first | decide | exact ix_lt hs (by decide) | omega)) hM.1 dX5_came_21 rfl rfl ?_
    refine j_lcmp_lt (tgt := 32) dX5_came_24 dX5_came_25 (by decide) (fun c24 => ?_) (fun c24 => ?_)
    · refine j_aload0 dX5_came_32 ?_
      refine j_iload1 dX5_came_33 ?_
      refine j_iload2 dX5_came_34 ?_
      refine j_bipush (v := nI 13) dX5_came_35 (by decide) ?_
      refine cd_X5_37 rfl (s_at) dX5_came_37 rfl rfl ?_
      refine cd_X5_41 rfl (s_get hM ha (by first | decide | exact ix_lt hs (by decide) | omega)) hM.1 dX5_came_40 rfl rfl ?_
      refine j_l2i dX5_came_43 ?_
      refine j_iret dX5_came_44 rfl rfl ?_
      exact ⟨_, rfl, by simp_all [fCame, ← Int64.not_le], rfl⟩
    · refine j_iconst (v := (-1)) dX5_came_28 (by decide) ?_
      refine j_goto (tgt := 44) dX5_came_29 (by decide) ?_
      refine j_iret dX5_came_44 rfl rfl ?_
      exact ⟨_, rfl, by simp_all [fCame, ← Int64.not_le], rfl⟩
theorem s_late {seat : Int32} (hM : MSh h.1 M) (ha : a < 40) (hr : isRi h M (nI a) = true)  : DI cx mX5_late 4 (mh h M a f) [.ref M, .int (nI a), .int seat] (fLate f (sN seat)).1 (mh h M a (fLate f (sN seat)).2) := by
  rcases sN_cases seat with ⟨hso, hsn⟩ | ⟨s, hs, rfl, hso⟩ <;> rw [hso]
  · refine Sp.of 3 (by decide) (Nat.le_of_ble_eq_true rfl) rfl ?_
    refine j_aload0 dX5_late_0 ?_
    refine j_iload1 dX5_late_1 ?_
    refine j_iload2 dX5_late_2 ?_
    refine cd_X5_81 rfl (s_against hM ha hr) hM.1 dX5_late_3 rfl rfl ?_
    refine j_istore3 dX5_late_6 (by decide) trivial ?_
    refine j_iload3 dX5_late_7 ?_
    refine j_if_eq (tgt := 13) dX5_late_8 (by decide) (fun c8 => by simp [hso, ag] at c8; split at c8 <;> simp at c8) (fun c8 => ?_)
    refine j_iload3 dX5_late_11 ?_
    refine j_iret dX5_late_12 rfl rfl ?_
    exact ⟨_, rfl, by simp_all [fLate], by simp_all [fLate]⟩
  · refine Sp.of 3 (by decide) (Nat.le_of_ble_eq_true rfl) rfl ?_
    refine j_aload0 dX5_late_0 ?_
    refine j_iload1 dX5_late_1 ?_
    refine j_iload2 dX5_late_2 ?_
    refine cd_X5_81 rfl (s_against hM ha hr) hM.1 dX5_late_3 rfl rfl ?_
    refine j_istore3 dX5_late_6 (by decide) trivial ?_
    refine j_iload3 dX5_late_7 ?_
    refine j_if_eq (tgt := 13) dX5_late_8 (by decide) (fun c8 => ?_) (fun c8 => ?_)
    · refine j_aload0 dX5_late_13 ?_
      refine j_iload1 dX5_late_14 ?_
      refine j_iload2 dX5_late_15 ?_
      refine j_iconst (v := nI 5) dX5_late_16 (by decide) ?_
      refine cd_X5_37 rfl (s_at) dX5_late_17 rfl rfl ?_
      refine cd_X5_41 rfl (s_get hM ha (by first | decide | exact ix_lt hs (by decide) | omega)) hM.1 dX5_late_20 rfl rfl ?_
      refine j_lstore4 dX5_late_23 (by decide) trivial ?_
      refine j_lload4 dX5_late_25 ?_
      refine j_lconst (v := 0) dX5_late_27 (by decide) ?_
      refine j_lcmp_ne (tgt := 35) dX5_late_28 dX5_late_29 (by decide) (fun c28 => ?_) (fun c28 => ?_)
      · refine j_aload0 dX5_late_35 ?_
        refine j_iload1 dX5_late_36 ?_
        refine j_iconst (v := nI 3) dX5_late_37 (by decide) ?_
        refine j_lload4 dX5_late_38 ?_
        refine j_aload0 dX5_late_40 ?_
        refine j_iload1 dX5_late_41 ?_
        refine j_iconst (v := nI 2) dX5_late_42 (by decide) ?_
        refine cd_X5_41 rfl (s_get hM ha (by first | decide | exact ix_lt hs (by decide) | omega)) hM.1 dX5_late_43 rfl rfl ?_
        refine j_ladd dX5_late_46 ?_
        refine cd_X5_76 rfl (s_more hM ha (by first | decide | exact ix_lt hs (by decide) | omega)) hM.1 dX5_late_47 rfl rfl ?_
        refine j_aload0 dX5_late_50 ?_
        refine j_iload1 dX5_late_51 ?_
        refine j_bipush (v := nI 11) dX5_late_52 (by decide) ?_
        refine j_aload0 dX5_late_54 ?_
        refine j_iload1 dX5_late_55 ?_
        refine j_iconst (v := nI 2) dX5_late_56 (by decide) ?_
        refine cd_X5_41 rfl (s_get hM ha (by first | decide | exact ix_lt hs (by decide) | omega)) hM.1 dX5_late_57 rfl rfl ?_
        refine cd_X5_76 rfl (s_more hM ha (by first | decide | exact ix_lt hs (by decide) | omega)) hM.1 dX5_late_60 rfl rfl ?_
        refine j_aload0 dX5_late_63 ?_
        refine j_iload1 dX5_late_64 ?_
        refine j_iload2 dX5_late_65 ?_
        refine j_bipush (v := nI 8) dX5_late_66 (by decide) ?_
        refine cd_X5_37 rfl (s_at) dX5_late_68 rfl rfl ?_
        refine j_lload4 dX5_late_71 ?_
        refine cd_X5_76 rfl (s_more hM ha (by first | decide | exact ix_lt hs (by decide) | omega)) hM.1 dX5_late_73 rfl rfl ?_
        refine j_aload0 dX5_late_76 ?_
        refine j_iload1 dX5_late_77 ?_
        refine j_iload2 dX5_late_78 ?_
        refine j_iconst (v := nI 5) dX5_late_79 (by decide) ?_
        refine cd_X5_37 rfl (s_at) dX5_late_80 rfl rfl ?_
        refine j_lconst (v := 0) dX5_late_83 (by decide) ?_
        refine cd_X5_62 rfl (s_set hM ha (by first | decide | exact ix_lt hs (by decide) | omega)) hM.1 dX5_late_84 rfl rfl ?_
        refine j_iconst (v := 0) dX5_late_87 (by decide) ?_
        refine j_iret dX5_late_88 rfl rfl ?_
        exact ⟨_, rfl, by simp_all [fLate], by simp_all [fLate, upF_n, ix_low, (ix_low _).symm, upF]⟩
      · refine j_bipush (v := 8) dX5_late_32 (by decide) ?_
        refine j_iret dX5_late_34 rfl rfl ?_
        exact ⟨_, rfl, by simp_all [fLate], by simp_all [fLate, upF_n, ix_low, (ix_low _).symm, upF]⟩
    · refine j_iload3 dX5_late_11 ?_
      refine j_iret dX5_late_12 rfl rfl ?_
      exact ⟨_, rfl, by simp_all [fLate], by simp_all [fLate, upF_n, ix_low, (ix_low _).symm, upF]⟩
end

