/-! the class PurseRing: its calls, over those of a ring -/
def PSh (s : Sh) (X : Nat) : Prop := s.2.1 X = kObj 4 ∧ (s.2.2 X 0 = some (X + 1) ∧ s.2.1 (X + 1) = kRefs 2 40) ∧ (s.2.2 X 2 = some (X + 2) ∧ s.2.1 (X + 2) = kLongs 180)
def pF (h : Hp) (X n : Nat) (r : Int32) : Option Nat := if ¬ r < 0 ∧ r < nI n then h.r (X + 1) r.toNatClampNeg else none
section
variable {cx : Cx} {h : Hp} {X n : Nat} {r : Int32}
theorem qx_found (hX : PSh h.1 X) (hN : h.i X 1 = nI n) (hn : n ≤ 40) : DR cx mX4_found 0 h [.ref X, .int r] (pF h X n r) h := by
  unfold pF
  by_cases hk : ¬ r < 0 ∧ r < nI n
  · rw [if_pos hk]
    obtain ⟨j, hj, rfl⟩ : ∃ j : Nat, j < n ∧ r = nI j := by
      rcases pk_ix r (n := n) (by omega) with z | z | ⟨j, hj, rfl⟩
      · exact absurd z hk.1
      · exact absurd hk.2 (Int32.not_lt.mpr z)
      · exact ⟨j, hj, rfl⟩
    have hin : vp_in (nI j) 40 := pk_in j 40 (by omega) rfl
    have hcl : (nI j).toNatClampNeg = j := nI_clamp (by omega)
    rw [hcl]
    cases hm : h.r (X + 1) j with
    | none =>
      refine Sp.of 0 (by decide) (Nat.le_of_ble_eq_true rfl) rfl ?_
      refine j_iload1 (pc := 0) dX4_found_0 ?_
      refine j_if_lt (pc := 1) (tgt := 21) dX4_found_1 (by decide) (fun c1 => by exact absurd c1 (nI_pos (by omega))) (fun c1 => ?_)
      refine j_iload1 (pc := 4) dX4_found_4 ?_
      refine j_aload0 (pc := 5) dX4_found_5 ?_
      refine g_X4_29 (pc := 6) rfl hX.1 dX4_found_6 ?_
      rw [hN]
      refine j_icmpN_ge (pc := 9) (tgt := 21) (by first | decide | omega) (by first | decide | omega) dX4_found_9 (by decide) (fun c9 => by omega) (fun c9 => ?_)
      refine j_aload0 (pc := 12) dX4_found_12 ?_
      refine g_X4_11 (pc := 13) rfl hX.1 hX.2.1.1 dX4_found_13 ?_
      refine j_iload1 (pc := 16) dX4_found_16 ?_
      refine j_aaldN (pc := 17) (by decide) hX.2.1.2 hin (by rw [hcl]; exact hm) dX4_found_17 ?_
      refine j_goto (pc := 18) (tgt := 22) dX4_found_18 (by decide) ?_
      refine j_aretN (pc := 22) dX4_found_22 rfl ?_
      exact ⟨none, rfl, rfl, rfl⟩
    | some b =>
      refine Sp.of 0 (by decide) (Nat.le_of_ble_eq_true rfl) rfl ?_
      refine j_iload1 (pc := 0) dX4_found_0 ?_
      refine j_if_lt (pc := 1) (tgt := 21) dX4_found_1 (by decide) (fun c1 => by exact absurd c1 (nI_pos (by omega))) (fun c1 => ?_)
      refine j_iload1 (pc := 4) dX4_found_4 ?_
      refine j_aload0 (pc := 5) dX4_found_5 ?_
      refine g_X4_29 (pc := 6) rfl hX.1 dX4_found_6 ?_
      rw [hN]
      refine j_icmpN_ge (pc := 9) (tgt := 21) (by first | decide | omega) (by first | decide | omega) dX4_found_9 (by decide) (fun c9 => by omega) (fun c9 => ?_)
      refine j_aload0 (pc := 12) dX4_found_12 ?_
      refine g_X4_11 (pc := 13) rfl hX.1 hX.2.1.1 dX4_found_13 ?_
      refine j_iload1 (pc := 16) dX4_found_16 ?_
      refine j_aald (pc := 17) (by decide) hX.2.1.2 hin (by rw [hcl]; exact hm) dX4_found_17 ?_
      refine j_goto (pc := 18) (tgt := 22) dX4_found_18 (by decide) ?_
      refine j_aret (pc := 22) dX4_found_22 rfl ?_
      exact ⟨some b, rfl, rfl, rfl⟩
  · rw [if_neg hk]
    refine Sp.of 0 (by decide) (Nat.le_of_ble_eq_true rfl) rfl ?_
    refine j_iload1 (pc := 0) dX4_found_0 ?_
    refine j_if_lt (pc := 1) (tgt := 21) dX4_found_1 (by decide) (fun c1 => ?_) (fun c1 => ?_)
    · refine j_null (pc := 21) dX4_found_21 ?_
      refine j_aretN (pc := 22) dX4_found_22 rfl ?_
      exact ⟨none, rfl, rfl, rfl⟩
    · refine j_iload1 (pc := 4) dX4_found_4 ?_
      refine j_aload0 (pc := 5) dX4_found_5 ?_
      refine g_X4_29 (pc := 6) rfl hX.1 dX4_found_6 ?_
      rw [hN]
      refine j_icmp_ge (pc := 9) (tgt := 21) dX4_found_9 (by decide) (fun c9 => ?_) (fun c9 => by exact absurd ⟨c1, Int32.not_le.mp c9⟩ hk)
      refine j_null (pc := 21) dX4_found_21 ?_
      refine j_aretN (pc := 22) dX4_found_22 rfl ?_
      exact ⟨none, rfl, rfl, rfl⟩
theorem qn_seat {a2 : Int32} {a3 : Int32} {a4 : Int32} (hX : PSh h.1 X) (hN : h.i X 1 = nI n) (hn : n ≤ 40) (hr : pF h X n r = none) : DI cx mX4_seat 1 h [.ref X, .int r, .int a2, .int a3, .int a4] 1 h := by
  have S := qx_found (cx := cx) (r := r) hX hN hn
  rw [hr] at S
  refine Sp.of 1 (by decide) (Nat.le_of_ble_eq_true rfl) rfl ?_
  refine j_aload0 (pc := 0) dX4_seat_0 ?_
  refine j_iload1 (pc := 1) dX4_seat_1 ?_
  refine cd_X4_40 (pc := 2) rfl (S) hX.1 dX4_seat_2 rfl rfl ?_
  refine j_rn ?_
  refine j_nstore5 (pc := 5) dX4_seat_5 (by decide) trivial ?_
  refine j_nload5 (pc := 7) dX4_seat_7 ?_
  refine j_ifnonnullN (pc := 9) dX4_seat_9 ?_
  refine j_iconst (pc := 12) (v := 1) dX4_seat_12 (by decide) ?_
  refine j_goto (pc := 13) (tgt := 25) dX4_seat_13 (by decide) ?_
  refine j_iret (pc := 25) dX4_seat_25 rfl rfl ?_
  exact ⟨_, rfl, rfl, rfl⟩
theorem qs_seat {A : Nat} {a2 : Int32} {a3 : Int32} {a4 : Int32} {y : Int32} {g : Hp} (hX : PSh h.1 X) (hN : h.i X 1 = nI n) (hn : n ≤ 40) (hr : pF h X n r = some A) (hA : RSh h.1 A) (T : DI cx mX2_seatOther 1 h [.ref A, .int a2, .int a3, .int a4] y g) : DI cx mX4_seat 2 h [.ref X, .int r, .int a2, .int a3, .int a4] y g := by
  have S := qx_found (cx := cx) (r := r) hX hN hn
  rw [hr] at S
  refine Sp.of 1 (by decide) (Nat.le_of_ble_eq_true rfl) rfl ?_
  refine j_aload0 (pc := 0) dX4_seat_0 ?_
  refine j_iload1 (pc := 1) dX4_seat_1 ?_
  refine cd_X4_40 (pc := 2) rfl (S) hX.1 dX4_seat_2 rfl rfl ?_
  refine j_rs ?_
  refine j_astore5 (pc := 5) dX4_seat_5 (by decide) trivial ?_
  refine j_aload5 (pc := 7) dX4_seat_7 ?_
  refine j_ifnonnull (pc := 9) (tgt := 16) dX4_seat_9 (by decide) ?_
  refine j_aload5 (pc := 16) dX4_seat_16 ?_
  refine j_iload2 (pc := 18) dX4_seat_18 ?_
  refine j_iload3 (pc := 19) dX4_seat_19 ?_
  refine j_iload4 (pc := 20) dX4_seat_20 ?_
  refine cd_X4_44 (pc := 22) rfl (T) hA.1 dX4_seat_22 rfl rfl ?_
  refine j_iret (pc := 25) dX4_seat_25 rfl rfl ?_
  exact ⟨_, rfl, rfl, rfl⟩
theorem qn_letter {a2 : Int32} (hX : PSh h.1 X) (hN : h.i X 1 = nI n) (hn : n ≤ 40) (hr : pF h X n r = none) : DI cx mX4_letter 1 h [.ref X, .int r, .int a2] 0 h := by
  have S := qx_found (cx := cx) (r := r) hX hN hn
  rw [hr] at S
  refine Sp.of 1 (by decide) (Nat.le_of_ble_eq_true rfl) rfl ?_
  refine j_aload0 (pc := 0) dX4_letter_0 ?_
  refine j_iload1 (pc := 1) dX4_letter_1 ?_
  refine cd_X4_40 (pc := 2) rfl (S) hX.1 dX4_letter_2 rfl rfl ?_
  refine j_rn ?_
  refine j_nstore3 (pc := 5) dX4_letter_5 (by decide) trivial ?_
  refine j_nload3 (pc := 6) dX4_letter_6 ?_
  refine j_ifnonnullN (pc := 7) dX4_letter_7 ?_
  refine j_iconst (pc := 10) (v := 0) dX4_letter_10 (by decide) ?_
  refine j_goto (pc := 11) (tgt := 22) dX4_letter_11 (by decide) ?_
  refine j_iret (pc := 22) dX4_letter_22 rfl rfl ?_
  exact ⟨_, rfl, rfl, rfl⟩
theorem qs_letter {A : Nat} {a2 : Int32} {y : Int32} {g : Hp} (hX : PSh h.1 X) (hN : h.i X 1 = nI n) (hn : n ≤ 40) (hr : pF h X n r = some A) (hA : RSh h.1 A) (T : DI cx mX0_letterOn 1 h [.ref (A + 5), .int a2] y g) : DI cx mX4_letter 2 h [.ref X, .int r, .int a2] y g := by
  have S := qx_found (cx := cx) (r := r) hX hN hn
  rw [hr] at S
  refine Sp.of 1 (by decide) (Nat.le_of_ble_eq_true rfl) rfl ?_
  refine j_aload0 (pc := 0) dX4_letter_0 ?_
  refine j_iload1 (pc := 1) dX4_letter_1 ?_
  refine cd_X4_40 (pc := 2) rfl (S) hX.1 dX4_letter_2 rfl rfl ?_
  refine j_rs ?_
  refine j_astore3 (pc := 5) dX4_letter_5 (by decide) trivial ?_
  refine j_aload3 (pc := 6) dX4_letter_6 ?_
  refine j_ifnonnull (pc := 7) (tgt := 14) dX4_letter_7 (by decide) ?_
  refine j_aload3 (pc := 14) dX4_letter_14 ?_
  refine g_X4_48 (pc := 15) rfl hA.1 hA.2.2.2.2.2.1.1 dX4_letter_15 ?_
  refine j_iload2 (pc := 18) dX4_letter_18 ?_
  refine cd_X4_52 (pc := 19) rfl (T) hA.2.2.2.2.2.1.2.1 dX4_letter_19 rfl rfl ?_
  refine j_iret (pc := 22) dX4_letter_22 rfl rfl ?_
  exact ⟨_, rfl, rfl, rfl⟩
theorem qn_answers {a2 : Int32} {a3 : Int32} (hX : PSh h.1 X) (hN : h.i X 1 = nI n) (hn : n ≤ 40) (hr : pF h X n r = none) : DI cx mX4_answers 1 h [.ref X, .int r, .int a2, .int a3] 1 h := by
  have S := qx_found (cx := cx) (r := r) hX hN hn
  rw [hr] at S
  refine Sp.of 1 (by decide) (Nat.le_of_ble_eq_true rfl) rfl ?_
  refine j_aload0 (pc := 0) dX4_answers_0 ?_
  refine j_iload1 (pc := 1) dX4_answers_1 ?_
  refine cd_X4_40 (pc := 2) rfl (S) hX.1 dX4_answers_2 rfl rfl ?_
  refine j_rn ?_
  refine j_nstore4 (pc := 5) dX4_answers_5 (by decide) trivial ?_
  refine j_nload4 (pc := 7) dX4_answers_7 ?_
  refine j_ifnonnullN (pc := 9) dX4_answers_9 ?_
  refine j_iconst (pc := 12) (v := 1) dX4_answers_12 (by decide) ?_
  refine j_goto (pc := 13) (tgt := 23) dX4_answers_13 (by decide) ?_
  refine j_iret (pc := 23) dX4_answers_23 rfl rfl ?_
  exact ⟨_, rfl, rfl, rfl⟩
theorem qs_answers {A : Nat} {a2 : Int32} {a3 : Int32} {y : Int32} {g : Hp} (hX : PSh h.1 X) (hN : h.i X 1 = nI n) (hn : n ≤ 40) (hr : pF h X n r = some A) (hA : RSh h.1 A) (T : DI cx mX2_answerFor 2 h [.ref A, .int a2, .int a3] y g) : DI cx mX4_answers 3 h [.ref X, .int r, .int a2, .int a3] y g := by
  have S := qx_found (cx := cx) (r := r) hX hN hn
  rw [hr] at S
  refine Sp.of 1 (by decide) (Nat.le_of_ble_eq_true rfl) rfl ?_
  refine j_aload0 (pc := 0) dX4_answers_0 ?_
  refine j_iload1 (pc := 1) dX4_answers_1 ?_
  refine cd_X4_40 (pc := 2) rfl (S) hX.1 dX4_answers_2 rfl rfl ?_
  refine j_rs ?_
  refine j_astore4 (pc := 5) dX4_answers_5 (by decide) trivial ?_
  refine j_aload4 (pc := 7) dX4_answers_7 ?_
  refine j_ifnonnull (pc := 9) (tgt := 16) dX4_answers_9 (by decide) ?_
  refine j_aload4 (pc := 16) dX4_answers_16 ?_
  refine j_iload2 (pc := 18) dX4_answers_18 ?_
  refine j_iload3 (pc := 19) dX4_answers_19 ?_
  refine cd_X4_58 (pc := 20) rfl (T) hA.1 dX4_answers_20 rfl rfl ?_
  refine j_iret (pc := 23) dX4_answers_23 rfl rfl ?_
  exact ⟨_, rfl, rfl, rfl⟩
theorem qn_order {a2 : Int32} (hX : PSh h.1 X) (hN : h.i X 1 = nI n) (hn : n ≤ 40) (hr : pF h X n r = none) : DI cx mX4_order 1 h [.ref X, .int r, .int a2] 1 h := by
  have S := qx_found (cx := cx) (r := r) hX hN hn
  rw [hr] at S
  refine Sp.of 1 (by decide) (Nat.le_of_ble_eq_true rfl) rfl ?_
  refine j_aload0 (pc := 0) dX4_order_0 ?_
  refine j_iload1 (pc := 1) dX4_order_1 ?_
  refine cd_X4_40 (pc := 2) rfl (S) hX.1 dX4_order_2 rfl rfl ?_
  refine j_rn ?_
  refine j_nstore3 (pc := 5) dX4_order_5 (by decide) trivial ?_
  refine j_nload3 (pc := 6) dX4_order_6 ?_
  refine j_ifnonnullN (pc := 7) dX4_order_7 ?_
  refine j_iconst (pc := 10) (v := 1) dX4_order_10 (by decide) ?_
  refine j_goto (pc := 11) (tgt := 19) dX4_order_11 (by decide) ?_
  refine j_iret (pc := 19) dX4_order_19 rfl rfl ?_
  exact ⟨_, rfl, rfl, rfl⟩
theorem qs_order {A : Nat} {a2 : Int32} {y : Int32} {g : Hp} (hX : PSh h.1 X) (hN : h.i X 1 = nI n) (hn : n ≤ 40) (hr : pF h X n r = some A) (hA : RSh h.1 A) (T : DI cx mX2_tellNext 2 h [.ref A, .int a2] y g) : DI cx mX4_order 3 h [.ref X, .int r, .int a2] y g := by
  have S := qx_found (cx := cx) (r := r) hX hN hn
  rw [hr] at S
  refine Sp.of 1 (by decide) (Nat.le_of_ble_eq_true rfl) rfl ?_
  refine j_aload0 (pc := 0) dX4_order_0 ?_
  refine j_iload1 (pc := 1) dX4_order_1 ?_
  refine cd_X4_40 (pc := 2) rfl (S) hX.1 dX4_order_2 rfl rfl ?_
  refine j_rs ?_
  refine j_astore3 (pc := 5) dX4_order_5 (by decide) trivial ?_
  refine j_aload3 (pc := 6) dX4_order_6 ?_
  refine j_ifnonnull (pc := 7) (tgt := 14) dX4_order_7 (by decide) ?_
  refine j_aload3 (pc := 14) dX4_order_14 ?_
  refine j_iload2 (pc := 15) dX4_order_15 ?_
  refine cd_X4_62 (pc := 16) rfl (T) hA.1 dX4_order_16 rfl rfl ?_
  refine j_iret (pc := 19) dX4_order_19 rfl rfl ?_
  exact ⟨_, rfl, rfl, rfl⟩
theorem qn_lot {a2 : Int32} (hX : PSh h.1 X) (hN : h.i X 1 = nI n) (hn : n ≤ 40) (hr : pF h X n r = none) : DI cx mX4_lot 1 h [.ref X, .int r, .int a2] 1 h := by
  have S := qx_found (cx := cx) (r := r) hX hN hn
  rw [hr] at S
  refine Sp.of 1 (by decide) (Nat.le_of_ble_eq_true rfl) rfl ?_
  refine j_aload0 (pc := 0) dX4_lot_0 ?_
  refine j_iload1 (pc := 1) dX4_lot_1 ?_
  refine cd_X4_40 (pc := 2) rfl (S) hX.1 dX4_lot_2 rfl rfl ?_
  refine j_rn ?_
  refine j_nstore3 (pc := 5) dX4_lot_5 (by decide) trivial ?_
  refine j_nload3 (pc := 6) dX4_lot_6 ?_
  refine j_ifnonnullN (pc := 7) dX4_lot_7 ?_
  refine j_iconst (pc := 10) (v := 1) dX4_lot_10 (by decide) ?_
  refine j_goto (pc := 11) (tgt := 19) dX4_lot_11 (by decide) ?_
  refine j_iret (pc := 19) dX4_lot_19 rfl rfl ?_
  exact ⟨_, rfl, rfl, rfl⟩
theorem qs_lot {A : Nat} {a2 : Int32} {y : Int32} {g : Hp} (hX : PSh h.1 X) (hN : h.i X 1 = nI n) (hn : n ≤ 40) (hr : pF h X n r = some A) (hA : RSh h.1 A) (T : DI cx mX2_tellLot 0 h [.ref A, .int a2] y g) : DI cx mX4_lot 1 h [.ref X, .int r, .int a2] y g := by
  have S := qx_found (cx := cx) (r := r) hX hN hn
  rw [hr] at S
  refine Sp.of 1 (by decide) (Nat.le_of_ble_eq_true rfl) rfl ?_
  refine j_aload0 (pc := 0) dX4_lot_0 ?_
  refine j_iload1 (pc := 1) dX4_lot_1 ?_
  refine cd_X4_40 (pc := 2) rfl (S) hX.1 dX4_lot_2 rfl rfl ?_
  refine j_rs ?_
  refine j_astore3 (pc := 5) dX4_lot_5 (by decide) trivial ?_
  refine j_aload3 (pc := 6) dX4_lot_6 ?_
  refine j_ifnonnull (pc := 7) (tgt := 14) dX4_lot_7 (by decide) ?_
  refine j_aload3 (pc := 14) dX4_lot_14 ?_
  refine j_iload2 (pc := 15) dX4_lot_15 ?_
  refine cd_X4_65 (pc := 16) rfl (T) hA.1 dX4_lot_16 rfl rfl ?_
  refine j_iret (pc := 19) dX4_lot_19 rfl rfl ?_
  exact ⟨_, rfl, rfl, rfl⟩
theorem qn_open (hX : PSh h.1 X) (hN : h.i X 1 = nI n) (hn : n ≤ 40) (hr : pF h X n r = none) : DI cx mX4_open 1 h [.ref X, .int r] 1 h := by
  have S := qx_found (cx := cx) (r := r) hX hN hn
  rw [hr] at S
  refine Sp.of 1 (by decide) (Nat.le_of_ble_eq_true rfl) rfl ?_
  refine j_aload0 (pc := 0) dX4_open_0 ?_
  refine j_iload1 (pc := 1) dX4_open_1 ?_
  refine cd_X4_40 (pc := 2) rfl (S) hX.1 dX4_open_2 rfl rfl ?_
  refine j_rn ?_
  refine j_nstore2 (pc := 5) dX4_open_5 (by decide) trivial ?_
  refine j_nload2 (pc := 6) dX4_open_6 ?_
  refine j_ifnonnullN (pc := 7) dX4_open_7 ?_
  refine j_iconst (pc := 10) (v := 1) dX4_open_10 (by decide) ?_
  refine j_goto (pc := 11) (tgt := 18) dX4_open_11 (by decide) ?_
  refine j_iret (pc := 18) dX4_open_18 rfl rfl ?_
  exact ⟨_, rfl, rfl, rfl⟩
theorem qs_open {A : Nat} {y : Int32} {g : Hp} (hX : PSh h.1 X) (hN : h.i X 1 = nI n) (hn : n ≤ 40) (hr : pF h X n r = some A) (hA : RSh h.1 A) (T : DI cx mX2_begin 2 h [.ref A] y g) : DI cx mX4_open 3 h [.ref X, .int r] y g := by
  have S := qx_found (cx := cx) (r := r) hX hN hn
  rw [hr] at S
  refine Sp.of 1 (by decide) (Nat.le_of_ble_eq_true rfl) rfl ?_
  refine j_aload0 (pc := 0) dX4_open_0 ?_
  refine j_iload1 (pc := 1) dX4_open_1 ?_
  refine cd_X4_40 (pc := 2) rfl (S) hX.1 dX4_open_2 rfl rfl ?_
  refine j_rs ?_
  refine j_astore2 (pc := 5) dX4_open_5 (by decide) trivial ?_
  refine j_aload2 (pc := 6) dX4_open_6 ?_
  refine j_ifnonnull (pc := 7) (tgt := 14) dX4_open_7 (by decide) ?_
  refine j_aload2 (pc := 14) dX4_open_14 ?_
  refine cd_X4_68 (pc := 15) rfl (T) hA.1 dX4_open_15 rfl rfl ?_
  refine j_iret (pc := 18) dX4_open_18 rfl rfl ?_
  exact ⟨_, rfl, rfl, rfl⟩
theorem qn_deposit {a2 : Int32} {a3 : Int32} (hX : PSh h.1 X) (hN : h.i X 1 = nI n) (hn : n ≤ 40) (hr : pF h X n r = none) : DI cx mX4_deposit 1 h [.ref X, .int r, .int a2, .int a3] 1 h := by
  have S := qx_found (cx := cx) (r := r) hX hN hn
  rw [hr] at S
  refine Sp.of 1 (by decide) (Nat.le_of_ble_eq_true rfl) rfl ?_
  refine j_aload0 (pc := 0) dX4_deposit_0 ?_
  refine j_iload1 (pc := 1) dX4_deposit_1 ?_
  refine cd_X4_40 (pc := 2) rfl (S) hX.1 dX4_deposit_2 rfl rfl ?_
  refine j_rn ?_
  refine j_nstore4 (pc := 5) dX4_deposit_5 (by decide) trivial ?_
  refine j_nload4 (pc := 7) dX4_deposit_7 ?_
  refine j_ifnonnullN (pc := 9) dX4_deposit_9 ?_
  refine j_iconst (pc := 12) (v := 1) dX4_deposit_12 (by decide) ?_
  refine j_goto (pc := 13) (tgt := 23) dX4_deposit_13 (by decide) ?_
  refine j_iret (pc := 23) dX4_deposit_23 rfl rfl ?_
  exact ⟨_, rfl, rfl, rfl⟩
theorem qs_deposit {A : Nat} {a2 : Int32} {a3 : Int32} {y : Int32} {g : Hp} (hX : PSh h.1 X) (hN : h.i X 1 = nI n) (hn : n ≤ 40) (hr : pF h X n r = some A) (hA : RSh h.1 A) (T : DI cx mX2_addDeposit 3 h [.ref A, .int a2, .int a3] y g) : DI cx mX4_deposit 4 h [.ref X, .int r, .int a2, .int a3] y g := by
  have S := qx_found (cx := cx) (r := r) hX hN hn
  rw [hr] at S
  refine Sp.of 1 (by decide) (Nat.le_of_ble_eq_true rfl) rfl ?_
  refine j_aload0 (pc := 0) dX4_deposit_0 ?_
  refine j_iload1 (pc := 1) dX4_deposit_1 ?_
  refine cd_X4_40 (pc := 2) rfl (S) hX.1 dX4_deposit_2 rfl rfl ?_
  refine j_rs ?_
  refine j_astore4 (pc := 5) dX4_deposit_5 (by decide) trivial ?_
  refine j_aload4 (pc := 7) dX4_deposit_7 ?_
  refine j_ifnonnull (pc := 9) (tgt := 16) dX4_deposit_9 (by decide) ?_
  refine j_aload4 (pc := 16) dX4_deposit_16 ?_
  refine j_iload2 (pc := 18) dX4_deposit_18 ?_
  refine j_iload3 (pc := 19) dX4_deposit_19 ?_
  refine cd_X4_72 (pc := 20) rfl (T) hA.1 dX4_deposit_20 rfl rfl ?_
  refine j_iret (pc := 23) dX4_deposit_23 rfl rfl ?_
  exact ⟨_, rfl, rfl, rfl⟩
theorem qn_row {a2 : Int32} (hX : PSh h.1 X) (hN : h.i X 1 = nI n) (hn : n ≤ 40) (hr : pF h X n r = none) : DI cx mX4_row 1 h [.ref X, .int r, .int a2] 1 h := by
  have S := qx_found (cx := cx) (r := r) hX hN hn
  rw [hr] at S
  refine Sp.of 1 (by decide) (Nat.le_of_ble_eq_true rfl) rfl ?_
  refine j_aload0 (pc := 0) dX4_row_0 ?_
  refine j_iload1 (pc := 1) dX4_row_1 ?_
  refine cd_X4_40 (pc := 2) rfl (S) hX.1 dX4_row_2 rfl rfl ?_
  refine j_rn ?_
  refine j_nstore3 (pc := 5) dX4_row_5 (by decide) trivial ?_
  refine j_nload3 (pc := 6) dX4_row_6 ?_
  refine j_ifnonnullN (pc := 7) dX4_row_7 ?_
  refine j_iconst (pc := 10) (v := 1) dX4_row_10 (by decide) ?_
  refine j_goto (pc := 11) (tgt := 19) dX4_row_11 (by decide) ?_
  refine j_iret (pc := 19) dX4_row_19 rfl rfl ?_
  exact ⟨_, rfl, rfl, rfl⟩
theorem qs_row {A : Nat} {a2 : Int32} {y : Int32} {g : Hp} (hX : PSh h.1 X) (hN : h.i X 1 = nI n) (hn : n ≤ 40) (hr : pF h X n r = some A) (hA : RSh h.1 A) (T : DI cx mX2_layRow 3 h [.ref A, .int a2] y g) : DI cx mX4_row 4 h [.ref X, .int r, .int a2] y g := by
  have S := qx_found (cx := cx) (r := r) hX hN hn
  rw [hr] at S
  refine Sp.of 1 (by decide) (Nat.le_of_ble_eq_true rfl) rfl ?_
  refine j_aload0 (pc := 0) dX4_row_0 ?_
  refine j_iload1 (pc := 1) dX4_row_1 ?_
  refine cd_X4_40 (pc := 2) rfl (S) hX.1 dX4_row_2 rfl rfl ?_
  refine j_rs ?_
  refine j_astore3 (pc := 5) dX4_row_5 (by decide) trivial ?_
  refine j_aload3 (pc := 6) dX4_row_6 ?_
  refine j_ifnonnull (pc := 7) (tgt := 14) dX4_row_7 (by decide) ?_
  refine j_aload3 (pc := 14) dX4_row_14 ?_
  refine j_iload2 (pc := 15) dX4_row_15 ?_
  refine cd_X4_75 (pc := 16) rfl (T) hA.1 dX4_row_16 rfl rfl ?_
  refine j_iret (pc := 19) dX4_row_19 rfl rfl ?_
  exact ⟨_, rfl, rfl, rfl⟩
theorem qn_tear (hX : PSh h.1 X) (hN : h.i X 1 = nI n) (hn : n ≤ 40) (hr : pF h X n r = none) : DI cx mX4_tear 1 h [.ref X, .int r] 1 h := by
  have S := qx_found (cx := cx) (r := r) hX hN hn
  rw [hr] at S
  refine Sp.of 1 (by decide) (Nat.le_of_ble_eq_true rfl) rfl ?_
  refine j_aload0 (pc := 0) dX4_tear_0 ?_
  refine j_iload1 (pc := 1) dX4_tear_1 ?_
  refine cd_X4_40 (pc := 2) rfl (S) hX.1 dX4_tear_2 rfl rfl ?_
  refine j_rn ?_
  refine j_nstore2 (pc := 5) dX4_tear_5 (by decide) trivial ?_
  refine j_nload2 (pc := 6) dX4_tear_6 ?_
  refine j_ifnonnullN (pc := 7) dX4_tear_7 ?_
  refine j_iconst (pc := 10) (v := 1) dX4_tear_10 (by decide) ?_
  refine j_goto (pc := 11) (tgt := 18) dX4_tear_11 (by decide) ?_
  refine j_iret (pc := 18) dX4_tear_18 rfl rfl ?_
  exact ⟨_, rfl, rfl, rfl⟩
theorem qs_tear {A : Nat} {y : Int32} {g : Hp} (hX : PSh h.1 X) (hN : h.i X 1 = nI n) (hn : n ≤ 40) (hr : pF h X n r = some A) (hA : RSh h.1 A) (T : DI cx mX2_tearRow 3 h [.ref A] y g) : DI cx mX4_tear 4 h [.ref X, .int r] y g := by
  have S := qx_found (cx := cx) (r := r) hX hN hn
  rw [hr] at S
  refine Sp.of 1 (by decide) (Nat.le_of_ble_eq_true rfl) rfl ?_
  refine j_aload0 (pc := 0) dX4_tear_0 ?_
  refine j_iload1 (pc := 1) dX4_tear_1 ?_
  refine cd_X4_40 (pc := 2) rfl (S) hX.1 dX4_tear_2 rfl rfl ?_
  refine j_rs ?_
  refine j_astore2 (pc := 5) dX4_tear_5 (by decide) trivial ?_
  refine j_aload2 (pc := 6) dX4_tear_6 ?_
  refine j_ifnonnull (pc := 7) (tgt := 14) dX4_tear_7 (by decide) ?_
  refine j_aload2 (pc := 14) dX4_tear_14 ?_
  refine cd_X4_78 (pc := 15) rfl (T) hA.1 dX4_tear_15 rfl rfl ?_
  refine j_iret (pc := 18) dX4_tear_18 rfl rfl ?_
  exact ⟨_, rfl, rfl, rfl⟩
theorem qn_pay {a2 : Int32} {a3 : Int32} (hX : PSh h.1 X) (hN : h.i X 1 = nI n) (hn : n ≤ 40) (hr : pF h X n r = none) : DI cx mX4_pay 1 h [.ref X, .int r, .int a2, .int a3] 1 h := by
  have S := qx_found (cx := cx) (r := r) hX hN hn
  rw [hr] at S
  refine Sp.of 1 (by decide) (Nat.le_of_ble_eq_true rfl) rfl ?_
  refine j_aload0 (pc := 0) dX4_pay_0 ?_
  refine j_iload1 (pc := 1) dX4_pay_1 ?_
  refine cd_X4_40 (pc := 2) rfl (S) hX.1 dX4_pay_2 rfl rfl ?_
  refine j_rn ?_
  refine j_nstore4 (pc := 5) dX4_pay_5 (by decide) trivial ?_
  refine j_nload4 (pc := 7) dX4_pay_7 ?_
  refine j_ifnonnullN (pc := 9) dX4_pay_9 ?_
  refine j_iconst (pc := 12) (v := 1) dX4_pay_12 (by decide) ?_
  refine j_goto (pc := 13) (tgt := 23) dX4_pay_13 (by decide) ?_
  refine j_iret (pc := 23) dX4_pay_23 rfl rfl ?_
  exact ⟨_, rfl, rfl, rfl⟩
theorem qs_pay {A : Nat} {a2 : Int32} {a3 : Int32} {y : Int32} {g : Hp} (hX : PSh h.1 X) (hN : h.i X 1 = nI n) (hn : n ≤ 40) (hr : pF h X n r = some A) (hA : RSh h.1 A) (T : DI cx mX2_payIn 3 h [.ref A, .int a2, .int a3] y g) : DI cx mX4_pay 4 h [.ref X, .int r, .int a2, .int a3] y g := by
  have S := qx_found (cx := cx) (r := r) hX hN hn
  rw [hr] at S
  refine Sp.of 1 (by decide) (Nat.le_of_ble_eq_true rfl) rfl ?_
  refine j_aload0 (pc := 0) dX4_pay_0 ?_
  refine j_iload1 (pc := 1) dX4_pay_1 ?_
  refine cd_X4_40 (pc := 2) rfl (S) hX.1 dX4_pay_2 rfl rfl ?_
  refine j_rs ?_
  refine j_astore4 (pc := 5) dX4_pay_5 (by decide) trivial ?_
  refine j_aload4 (pc := 7) dX4_pay_7 ?_
  refine j_ifnonnull (pc := 9) (tgt := 16) dX4_pay_9 (by decide) ?_
  refine j_aload4 (pc := 16) dX4_pay_16 ?_
  refine j_iload2 (pc := 18) dX4_pay_18 ?_
  refine j_iload3 (pc := 19) dX4_pay_19 ?_
  refine cd_X4_81 (pc := 20) rfl (T) hA.1 dX4_pay_20 rfl rfl ?_
  refine j_iret (pc := 23) dX4_pay_23 rfl rfl ?_
  exact ⟨_, rfl, rfl, rfl⟩
theorem qn_came {a2 : Int32} (hX : PSh h.1 X) (hN : h.i X 1 = nI n) (hn : n ≤ 40) (hr : pF h X n r = none) : DI cx mX4_came 1 h [.ref X, .int r, .int a2] (-1) h := by
  have S := qx_found (cx := cx) (r := r) hX hN hn
  rw [hr] at S
  refine Sp.of 1 (by decide) (Nat.le_of_ble_eq_true rfl) rfl ?_
  refine j_aload0 (pc := 0) dX4_came_0 ?_
  refine j_iload1 (pc := 1) dX4_came_1 ?_
  refine cd_X4_40 (pc := 2) rfl (S) hX.1 dX4_came_2 rfl rfl ?_
  refine j_rn ?_
  refine j_nstore3 (pc := 5) dX4_came_5 (by decide) trivial ?_
  refine j_nload3 (pc := 6) dX4_came_6 ?_
  refine j_ifnonnullN (pc := 7) dX4_came_7 ?_
  refine j_iconst (pc := 10) (v := (-1)) dX4_came_10 (by decide) ?_
  refine j_goto (pc := 11) (tgt := 22) dX4_came_11 (by decide) ?_
  refine j_iret (pc := 22) dX4_came_22 rfl rfl ?_
  exact ⟨_, rfl, rfl, rfl⟩
theorem qs_came {A : Nat} {a2 : Int32} {y : Int32} {g : Hp} (hX : PSh h.1 X) (hN : h.i X 1 = nI n) (hn : n ≤ 40) (hr : pF h X n r = some A) (hA : RSh h.1 A) (T : DI cx mX0_cellOf 1 h [.ref (A + 5), .int a2] y g) : DI cx mX4_came 2 h [.ref X, .int r, .int a2] y g := by
  have S := qx_found (cx := cx) (r := r) hX hN hn
  rw [hr] at S
  refine Sp.of 1 (by decide) (Nat.le_of_ble_eq_true rfl) rfl ?_
  refine j_aload0 (pc := 0) dX4_came_0 ?_
  refine j_iload1 (pc := 1) dX4_came_1 ?_
  refine cd_X4_40 (pc := 2) rfl (S) hX.1 dX4_came_2 rfl rfl ?_
  refine j_rs ?_
  refine j_astore3 (pc := 5) dX4_came_5 (by decide) trivial ?_
  refine j_aload3 (pc := 6) dX4_came_6 ?_
  refine j_ifnonnull (pc := 7) (tgt := 14) dX4_came_7 (by decide) ?_
  refine j_aload3 (pc := 14) dX4_came_14 ?_
  refine g_X4_48 (pc := 15) rfl hA.1 hA.2.2.2.2.2.1.1 dX4_came_15 ?_
  refine j_iload2 (pc := 18) dX4_came_18 ?_
  refine cd_X4_84 (pc := 19) rfl (T) hA.2.2.2.2.2.1.2.1 dX4_came_19 rfl rfl ?_
  refine j_iret (pc := 22) dX4_came_22 rfl rfl ?_
  exact ⟨_, rfl, rfl, rfl⟩
theorem qn_late {a2 : Int32} (hX : PSh h.1 X) (hN : h.i X 1 = nI n) (hn : n ≤ 40) (hr : pF h X n r = none) : DI cx mX4_late 1 h [.ref X, .int r, .int a2] 1 h := by
  have S := qx_found (cx := cx) (r := r) hX hN hn
  rw [hr] at S
  refine Sp.of 1 (by decide) (Nat.le_of_ble_eq_true rfl) rfl ?_
  refine j_aload0 (pc := 0) dX4_late_0 ?_
  refine j_iload1 (pc := 1) dX4_late_1 ?_
  refine cd_X4_40 (pc := 2) rfl (S) hX.1 dX4_late_2 rfl rfl ?_
  refine j_rn ?_
  refine j_nstore3 (pc := 5) dX4_late_5 (by decide) trivial ?_
  refine j_nload3 (pc := 6) dX4_late_6 ?_
  refine j_ifnonnullN (pc := 7) dX4_late_7 ?_
  refine j_iconst (pc := 10) (v := 1) dX4_late_10 (by decide) ?_
  refine j_goto (pc := 11) (tgt := 19) dX4_late_11 (by decide) ?_
  refine j_iret (pc := 19) dX4_late_19 rfl rfl ?_
  exact ⟨_, rfl, rfl, rfl⟩
theorem qs_late {A : Nat} {a2 : Int32} {y : Int32} {g : Hp} (hX : PSh h.1 X) (hN : h.i X 1 = nI n) (hn : n ≤ 40) (hr : pF h X n r = some A) (hA : RSh h.1 A) (T : DI cx mX2_payDebt 3 h [.ref A, .int a2] y g) : DI cx mX4_late 4 h [.ref X, .int r, .int a2] y g := by
  have S := qx_found (cx := cx) (r := r) hX hN hn
  rw [hr] at S
  refine Sp.of 1 (by decide) (Nat.le_of_ble_eq_true rfl) rfl ?_
  refine j_aload0 (pc := 0) dX4_late_0 ?_
  refine j_iload1 (pc := 1) dX4_late_1 ?_
  refine cd_X4_40 (pc := 2) rfl (S) hX.1 dX4_late_2 rfl rfl ?_
  refine j_rs ?_
  refine j_astore3 (pc := 5) dX4_late_5 (by decide) trivial ?_
  refine j_aload3 (pc := 6) dX4_late_6 ?_
  refine j_ifnonnull (pc := 7) (tgt := 14) dX4_late_7 (by decide) ?_
  refine j_aload3 (pc := 14) dX4_late_14 ?_
  refine j_iload2 (pc := 15) dX4_late_15 ?_
  refine cd_X4_87 (pc := 16) rfl (T) hA.1 dX4_late_16 rfl rfl ?_
  refine j_iret (pc := 19) dX4_late_19 rfl rfl ?_
  exact ⟨_, rfl, rfl, rfl⟩
theorem qn_bid {a2 : Int32} {a3 : Int64} (hX : PSh h.1 X) (hN : h.i X 1 = nI n) (hn : n ≤ 40) (hr : pF h X n r = none) : DI cx mX4_bid 1 h [.ref X, .int r, .int a2, .long a3] 1 h := by
  have S := qx_found (cx := cx) (r := r) hX hN hn
  rw [hr] at S
  refine Sp.of 1 (by decide) (Nat.le_of_ble_eq_true rfl) rfl ?_
  refine j_aload0 (pc := 0) dX4_bid_0 ?_
  refine j_iload1 (pc := 1) dX4_bid_1 ?_
  refine cd_X4_40 (pc := 2) rfl (S) hX.1 dX4_bid_2 rfl rfl ?_
  refine j_rn ?_
  refine j_nstore5 (pc := 5) dX4_bid_5 (by decide) trivial ?_
  refine j_nload5 (pc := 7) dX4_bid_7 ?_
  refine j_ifnonnullN (pc := 9) dX4_bid_9 ?_
  refine j_iconst (pc := 12) (v := 1) dX4_bid_12 (by decide) ?_
  refine j_goto (pc := 13) (tgt := 23) dX4_bid_13 (by decide) ?_
  refine j_iret (pc := 23) dX4_bid_23 rfl rfl ?_
  exact ⟨_, rfl, rfl, rfl⟩
theorem qs_bid {A : Nat} {a2 : Int32} {a3 : Int64} {y : Int32} {g : Hp} (hX : PSh h.1 X) (hN : h.i X 1 = nI n) (hn : n ≤ 40) (hr : pF h X n r = some A) (hA : RSh h.1 A) (T : DI cx mX2_takeBid 4 h [.ref A, .int a2, .long a3] y g) : DI cx mX4_bid 5 h [.ref X, .int r, .int a2, .long a3] y g := by
  have S := qx_found (cx := cx) (r := r) hX hN hn
  rw [hr] at S
  refine Sp.of 1 (by decide) (Nat.le_of_ble_eq_true rfl) rfl ?_
  refine j_aload0 (pc := 0) dX4_bid_0 ?_
  refine j_iload1 (pc := 1) dX4_bid_1 ?_
  refine cd_X4_40 (pc := 2) rfl (S) hX.1 dX4_bid_2 rfl rfl ?_
  refine j_rs ?_
  refine j_astore5 (pc := 5) dX4_bid_5 (by decide) trivial ?_
  refine j_aload5 (pc := 7) dX4_bid_7 ?_
  refine j_ifnonnull (pc := 9) (tgt := 16) dX4_bid_9 (by decide) ?_
  refine j_aload5 (pc := 16) dX4_bid_16 ?_
  refine j_iload2 (pc := 18) dX4_bid_18 ?_
  refine j_lload3 (pc := 19) dX4_bid_19 ?_
  refine cd_X4_90 (pc := 20) rfl (T) hA.1 dX4_bid_20 rfl rfl ?_
  refine j_iret (pc := 23) dX4_bid_23 rfl rfl ?_
  exact ⟨_, rfl, rfl, rfl⟩
theorem qn_need {a2 : Int32} (hX : PSh h.1 X) (hN : h.i X 1 = nI n) (hn : n ≤ 40) (hr : pF h X n r = none) : DI cx mX4_need 1 h [.ref X, .int r, .int a2] 1 h := by
  have S := qx_found (cx := cx) (r := r) hX hN hn
  rw [hr] at S
  refine Sp.of 1 (by decide) (Nat.le_of_ble_eq_true rfl) rfl ?_
  refine j_aload0 (pc := 0) dX4_need_0 ?_
  refine j_iload1 (pc := 1) dX4_need_1 ?_
  refine cd_X4_40 (pc := 2) rfl (S) hX.1 dX4_need_2 rfl rfl ?_
  refine j_rn ?_
  refine j_nstore3 (pc := 5) dX4_need_5 (by decide) trivial ?_
  refine j_nload3 (pc := 6) dX4_need_6 ?_
  refine j_ifnonnullN (pc := 7) dX4_need_7 ?_
  refine j_iconst (pc := 10) (v := 1) dX4_need_10 (by decide) ?_
  refine j_goto (pc := 11) (tgt := 19) dX4_need_11 (by decide) ?_
  refine j_iret (pc := 19) dX4_need_19 rfl rfl ?_
  exact ⟨_, rfl, rfl, rfl⟩
theorem qs_need {A : Nat} {a2 : Int32} {y : Int32} {g : Hp} (hX : PSh h.1 X) (hN : h.i X 1 = nI n) (hn : n ≤ 40) (hr : pF h X n r = some A) (hA : RSh h.1 A) (T : DI cx mX2_ask 4 h [.ref A, .int a2] y g) : DI cx mX4_need 5 h [.ref X, .int r, .int a2] y g := by
  have S := qx_found (cx := cx) (r := r) hX hN hn
  rw [hr] at S
  refine Sp.of 1 (by decide) (Nat.le_of_ble_eq_true rfl) rfl ?_
  refine j_aload0 (pc := 0) dX4_need_0 ?_
  refine j_iload1 (pc := 1) dX4_need_1 ?_
  refine cd_X4_40 (pc := 2) rfl (S) hX.1 dX4_need_2 rfl rfl ?_
  refine j_rs ?_
  refine j_astore3 (pc := 5) dX4_need_5 (by decide) trivial ?_
  refine j_aload3 (pc := 6) dX4_need_6 ?_
  refine j_ifnonnull (pc := 7) (tgt := 14) dX4_need_7 (by decide) ?_
  refine j_aload3 (pc := 14) dX4_need_14 ?_
  refine j_iload2 (pc := 15) dX4_need_15 ?_
  refine cd_X4_94 (pc := 16) rfl (T) hA.1 dX4_need_16 rfl rfl ?_
  refine j_iret (pc := 19) dX4_need_19 rfl rfl ?_
  exact ⟨_, rfl, rfl, rfl⟩
theorem qn_yes {a2 : Int32} (hX : PSh h.1 X) (hN : h.i X 1 = nI n) (hn : n ≤ 40) (hr : pF h X n r = none) : DI cx mX4_yes 1 h [.ref X, .int r, .int a2] 1 h := by
  have S := qx_found (cx := cx) (r := r) hX hN hn
  rw [hr] at S
  refine Sp.of 1 (by decide) (Nat.le_of_ble_eq_true rfl) rfl ?_
  refine j_aload0 (pc := 0) dX4_yes_0 ?_
  refine j_iload1 (pc := 1) dX4_yes_1 ?_
  refine cd_X4_40 (pc := 2) rfl (S) hX.1 dX4_yes_2 rfl rfl ?_
  refine j_rn ?_
  refine j_nstore3 (pc := 5) dX4_yes_5 (by decide) trivial ?_
  refine j_nload3 (pc := 6) dX4_yes_6 ?_
  refine j_ifnonnullN (pc := 7) dX4_yes_7 ?_
  refine j_iconst (pc := 10) (v := 1) dX4_yes_10 (by decide) ?_
  refine j_goto (pc := 11) (tgt := 19) dX4_yes_11 (by decide) ?_
  refine j_iret (pc := 19) dX4_yes_19 rfl rfl ?_
  exact ⟨_, rfl, rfl, rfl⟩
theorem qs_yes {A : Nat} {a2 : Int32} {y : Int32} {g : Hp} (hX : PSh h.1 X) (hN : h.i X 1 = nI n) (hn : n ≤ 40) (hr : pF h X n r = some A) (hA : RSh h.1 A) (T : DI cx mX2_sayYes 3 h [.ref A, .int a2] y g) : DI cx mX4_yes 4 h [.ref X, .int r, .int a2] y g := by
  have S := qx_found (cx := cx) (r := r) hX hN hn
  rw [hr] at S
  refine Sp.of 1 (by decide) (Nat.le_of_ble_eq_true rfl) rfl ?_
  refine j_aload0 (pc := 0) dX4_yes_0 ?_
  refine j_iload1 (pc := 1) dX4_yes_1 ?_
  refine cd_X4_40 (pc := 2) rfl (S) hX.1 dX4_yes_2 rfl rfl ?_
  refine j_rs ?_
  refine j_astore3 (pc := 5) dX4_yes_5 (by decide) trivial ?_
  refine j_aload3 (pc := 6) dX4_yes_6 ?_
  refine j_ifnonnull (pc := 7) (tgt := 14) dX4_yes_7 (by decide) ?_
  refine j_aload3 (pc := 14) dX4_yes_14 ?_
  refine j_iload2 (pc := 15) dX4_yes_15 ?_
  refine cd_X4_97 (pc := 16) rfl (T) hA.1 dX4_yes_16 rfl rfl ?_
  refine j_iret (pc := 19) dX4_yes_19 rfl rfl ?_
  exact ⟨_, rfl, rfl, rfl⟩
theorem qn_draw (hX : PSh h.1 X) (hN : h.i X 1 = nI n) (hn : n ≤ 40) (hr : pF h X n r = none) : DI cx mX4_draw 1 h [.ref X, .int r] 1 h := by
  have S := qx_found (cx := cx) (r := r) hX hN hn
  rw [hr] at S
  refine Sp.of 1 (by decide) (Nat.le_of_ble_eq_true rfl) rfl ?_
  refine j_aload0 (pc := 0) dX4_draw_0 ?_
  refine j_iload1 (pc := 1) dX4_draw_1 ?_
  refine cd_X4_40 (pc := 2) rfl (S) hX.1 dX4_draw_2 rfl rfl ?_
  refine j_rn ?_
  refine j_nstore2 (pc := 5) dX4_draw_5 (by decide) trivial ?_
  refine j_nload2 (pc := 6) dX4_draw_6 ?_
  refine j_ifnonnullN (pc := 7) dX4_draw_7 ?_
  refine j_iconst (pc := 10) (v := 1) dX4_draw_10 (by decide) ?_
  refine j_goto (pc := 11) (tgt := 18) dX4_draw_11 (by decide) ?_
  refine j_iret (pc := 18) dX4_draw_18 rfl rfl ?_
  exact ⟨_, rfl, rfl, rfl⟩
theorem qs_draw {A : Nat} {P : Int32 → Hp → Prop} (hX : PSh h.1 X) (hN : h.i X 1 = nI n) (hn : n ≤ 40) (hr : pF h X n r = some A) (hA : RSh h.1 A) (T : Sp cx mX2_endRound 7 62 1150 h [.ref A] (Ri P)) : Sp cx mX4_draw 8 62 1150 h [.ref X, .int r] (Ri P) := by
  have S := qx_found (cx := cx) (r := r) hX hN hn
  rw [hr] at S
  refine Sp.of 1 (by decide) (Nat.le_of_ble_eq_true rfl) rfl ?_
  refine j_aload0 (pc := 0) dX4_draw_0 ?_
  refine j_iload1 (pc := 1) dX4_draw_1 ?_
  refine cd_X4_40 (pc := 2) rfl (S) hX.1 dX4_draw_2 rfl rfl ?_
  refine j_rs ?_
  refine j_astore2 (pc := 5) dX4_draw_5 (by decide) trivial ?_
  refine j_aload2 (pc := 6) dX4_draw_6 ?_
  refine j_ifnonnull (pc := 7) (tgt := 14) dX4_draw_7 (by decide) ?_
  refine j_aload2 (pc := 14) dX4_draw_14 ?_
  refine cs_X4_100 (pc := 15) rfl (T) hA.1 dX4_draw_15 rfl rfl (by decide) (by decide) (fun x h' q => ?_)
  refine j_iret (pc := 18) dX4_draw_18 rfl rfl ?_
  exact ⟨_, rfl, q⟩
theorem qn_drawn {a2 : Int32} {a3 : Int32} (hX : PSh h.1 X) (hN : h.i X 1 = nI n) (hn : n ≤ 40) (hr : pF h X n r = none) : DL cx mX4_drawn 1 h [.ref X, .int r, .int a2, .int a3] (-1) h := by
  have S := qx_found (cx := cx) (r := r) hX hN hn
  rw [hr] at S
  refine Sp.of 1 (by decide) (Nat.le_of_ble_eq_true rfl) rfl ?_
  refine j_aload0 (pc := 0) dX4_drawn_0 ?_
  refine j_iload1 (pc := 1) dX4_drawn_1 ?_
  refine cd_X4_40 (pc := 2) rfl (S) hX.1 dX4_drawn_2 rfl rfl ?_
  refine j_rn ?_
  refine j_nstore4 (pc := 5) dX4_drawn_5 (by decide) trivial ?_
  refine j_nload4 (pc := 7) dX4_drawn_7 ?_
  refine j_ifnonnullN (pc := 9) dX4_drawn_9 ?_
  refine j_ldc2 (pc := 12) dX4_drawn_12 wT_kl_X4_103 ?_
  refine j_goto (pc := 15) (tgt := 25) dX4_drawn_15 (by decide) ?_
  refine j_lret (pc := 25) dX4_drawn_25 rfl ?_
  exact ⟨_, rfl, rfl, rfl⟩
theorem qs_drawn {A : Nat} {a2 : Int32} {a3 : Int32} {y : Int64} {g : Hp} (hX : PSh h.1 X) (hN : h.i X 1 = nI n) (hn : n ≤ 40) (hr : pF h X n r = some A) (hA : RSh h.1 A) (T : DL cx mX2_keptOf 1 h [.ref A, .int a2, .int a3] y g) : DL cx mX4_drawn 2 h [.ref X, .int r, .int a2, .int a3] y g := by
  have S := qx_found (cx := cx) (r := r) hX hN hn
  rw [hr] at S
  refine Sp.of 1 (by decide) (Nat.le_of_ble_eq_true rfl) rfl ?_
  refine j_aload0 (pc := 0) dX4_drawn_0 ?_
  refine j_iload1 (pc := 1) dX4_drawn_1 ?_
  refine cd_X4_40 (pc := 2) rfl (S) hX.1 dX4_drawn_2 rfl rfl ?_
  refine j_rs ?_
  refine j_astore4 (pc := 5) dX4_drawn_5 (by decide) trivial ?_
  refine j_aload4 (pc := 7) dX4_drawn_7 ?_
  refine j_ifnonnull (pc := 9) (tgt := 18) dX4_drawn_9 (by decide) ?_
  refine j_aload4 (pc := 18) dX4_drawn_18 ?_
  refine j_iload2 (pc := 20) dX4_drawn_20 ?_
  refine j_iload3 (pc := 21) dX4_drawn_21 ?_
  refine cd_X4_105 (pc := 22) rfl (T) hA.1 dX4_drawn_22 rfl rfl ?_
  refine j_lret (pc := 25) dX4_drawn_25 rfl ?_
  exact ⟨_, rfl, rfl, rfl⟩
theorem qn_stop {a2 : Int32} (hX : PSh h.1 X) (hN : h.i X 1 = nI n) (hn : n ≤ 40) (hr : pF h X n r = none) : DI cx mX4_stop 1 h [.ref X, .int r, .int a2] 1 h := by
  have S := qx_found (cx := cx) (r := r) hX hN hn
  rw [hr] at S
  refine Sp.of 1 (by decide) (Nat.le_of_ble_eq_true rfl) rfl ?_
  refine j_aload0 (pc := 0) dX4_stop_0 ?_
  refine j_iload1 (pc := 1) dX4_stop_1 ?_
  refine cd_X4_40 (pc := 2) rfl (S) hX.1 dX4_stop_2 rfl rfl ?_
  refine j_rn ?_
  refine j_nstore3 (pc := 5) dX4_stop_5 (by decide) trivial ?_
  refine j_nload3 (pc := 6) dX4_stop_6 ?_
  refine j_ifnonnullN (pc := 7) dX4_stop_7 ?_
  refine j_iconst (pc := 10) (v := 1) dX4_stop_10 (by decide) ?_
  refine j_goto (pc := 11) (tgt := 19) dX4_stop_11 (by decide) ?_
  refine j_iret (pc := 19) dX4_stop_19 rfl rfl ?_
  exact ⟨_, rfl, rfl, rfl⟩
theorem qs_stop {A : Nat} {a2 : Int32} {P : Int32 → Hp → Prop} (hX : PSh h.1 X) (hN : h.i X 1 = nI n) (hn : n ≤ 40) (hr : pF h X n r = some A) (hA : RSh h.1 A) (T : Sp cx mX2_stopPlace 3 1 5 h [.ref A, .int a2] (Ri P)) : Sp cx mX4_stop 4 1 5 h [.ref X, .int r, .int a2] (Ri P) := by
  have S := qx_found (cx := cx) (r := r) hX hN hn
  rw [hr] at S
  refine Sp.of 1 (by decide) (Nat.le_of_ble_eq_true rfl) rfl ?_
  refine j_aload0 (pc := 0) dX4_stop_0 ?_
  refine j_iload1 (pc := 1) dX4_stop_1 ?_
  refine cd_X4_40 (pc := 2) rfl (S) hX.1 dX4_stop_2 rfl rfl ?_
  refine j_rs ?_
  refine j_astore3 (pc := 5) dX4_stop_5 (by decide) trivial ?_
  refine j_aload3 (pc := 6) dX4_stop_6 ?_
  refine j_ifnonnull (pc := 7) (tgt := 14) dX4_stop_7 (by decide) ?_
  refine j_aload3 (pc := 14) dX4_stop_14 ?_
  refine j_iload2 (pc := 15) dX4_stop_15 ?_
  refine cs_X4_109 (pc := 16) rfl (T) hA.1 dX4_stop_16 rfl rfl (by decide) (by decide) (fun x h' q => ?_)
  refine j_iret (pc := 19) dX4_stop_19 rfl rfl ?_
  exact ⟨_, rfl, q⟩
theorem qn_replace {a2 : Int32} {a3 : Int32} (hX : PSh h.1 X) (hN : h.i X 1 = nI n) (hn : n ≤ 40) (hr : pF h X n r = none) : DI cx mX4_replace 1 h [.ref X, .int r, .int a2, .int a3] 1 h := by
  have S := qx_found (cx := cx) (r := r) hX hN hn
  rw [hr] at S
  refine Sp.of 1 (by decide) (Nat.le_of_ble_eq_true rfl) rfl ?_
  refine j_aload0 (pc := 0) dX4_replace_0 ?_
  refine j_iload1 (pc := 1) dX4_replace_1 ?_
  refine cd_X4_40 (pc := 2) rfl (S) hX.1 dX4_replace_2 rfl rfl ?_
  refine j_rn ?_
  refine j_nstore4 (pc := 5) dX4_replace_5 (by decide) trivial ?_
  refine j_nload4 (pc := 7) dX4_replace_7 ?_
  refine j_ifnonnullN (pc := 9) dX4_replace_9 ?_
  refine j_iconst (pc := 12) (v := 1) dX4_replace_12 (by decide) ?_
  refine j_goto (pc := 13) (tgt := 23) dX4_replace_13 (by decide) ?_
  refine j_iret (pc := 23) dX4_replace_23 rfl rfl ?_
  exact ⟨_, rfl, rfl, rfl⟩
theorem qs_replace {A : Nat} {a2 : Int32} {a3 : Int32} {y : Int32} {g : Hp} (hX : PSh h.1 X) (hN : h.i X 1 = nI n) (hn : n ≤ 40) (hr : pF h X n r = some A) (hA : RSh h.1 A) (T : DI cx mX2_replacePlace 3 h [.ref A, .int a2, .int a3] y g) : DI cx mX4_replace 4 h [.ref X, .int r, .int a2, .int a3] y g := by
  have S := qx_found (cx := cx) (r := r) hX hN hn
  rw [hr] at S
  refine Sp.of 1 (by decide) (Nat.le_of_ble_eq_true rfl) rfl ?_
  refine j_aload0 (pc := 0) dX4_replace_0 ?_
  refine j_iload1 (pc := 1) dX4_replace_1 ?_
  refine cd_X4_40 (pc := 2) rfl (S) hX.1 dX4_replace_2 rfl rfl ?_
  refine j_rs ?_
  refine j_astore4 (pc := 5) dX4_replace_5 (by decide) trivial ?_
  refine j_aload4 (pc := 7) dX4_replace_7 ?_
  refine j_ifnonnull (pc := 9) (tgt := 16) dX4_replace_9 (by decide) ?_
  refine j_aload4 (pc := 16) dX4_replace_16 ?_
  refine j_iload2 (pc := 18) dX4_replace_18 ?_
  refine j_iload3 (pc := 19) dX4_replace_19 ?_
  refine cd_X4_112 (pc := 20) rfl (T) hA.1 dX4_replace_20 rfl rfl ?_
  refine j_iret (pc := 23) dX4_replace_23 rfl rfl ?_
  exact ⟨_, rfl, rfl, rfl⟩
theorem qn_stops {a2 : Int32} {a3 : Int32} (hX : PSh h.1 X) (hN : h.i X 1 = nI n) (hn : n ≤ 40) (hr : pF h X n r = none) : DL cx mX4_stops 1 h [.ref X, .int r, .int a2, .int a3] (-1) h := by
  have S := qx_found (cx := cx) (r := r) hX hN hn
  rw [hr] at S
  refine Sp.of 1 (by decide) (Nat.le_of_ble_eq_true rfl) rfl ?_
  refine j_aload0 (pc := 0) dX4_stops_0 ?_
  refine j_iload1 (pc := 1) dX4_stops_1 ?_
  refine cd_X4_40 (pc := 2) rfl (S) hX.1 dX4_stops_2 rfl rfl ?_
  refine j_rn ?_
  refine j_nstore4 (pc := 5) dX4_stops_5 (by decide) trivial ?_
  refine j_nload4 (pc := 7) dX4_stops_7 ?_
  refine j_ifnonnullN (pc := 9) dX4_stops_9 ?_
  refine j_ldc2 (pc := 12) dX4_stops_12 wT_kl_X4_103 ?_
  refine j_goto (pc := 15) (tgt := 25) dX4_stops_15 (by decide) ?_
  refine j_lret (pc := 25) dX4_stops_25 rfl ?_
  exact ⟨_, rfl, rfl, rfl⟩
theorem qs_stops {A : Nat} {a2 : Int32} {a3 : Int32} {y : Int64} {g : Hp} (hX : PSh h.1 X) (hN : h.i X 1 = nI n) (hn : n ≤ 40) (hr : pF h X n r = some A) (hA : RSh h.1 A) (T : DL cx mX2_stopOf 0 h [.ref A, .int a2, .int a3] y g) : DL cx mX4_stops 1 h [.ref X, .int r, .int a2, .int a3] y g := by
  have S := qx_found (cx := cx) (r := r) hX hN hn
  rw [hr] at S
  refine Sp.of 1 (by decide) (Nat.le_of_ble_eq_true rfl) rfl ?_
  refine j_aload0 (pc := 0) dX4_stops_0 ?_
  refine j_iload1 (pc := 1) dX4_stops_1 ?_
  refine cd_X4_40 (pc := 2) rfl (S) hX.1 dX4_stops_2 rfl rfl ?_
  refine j_rs ?_
  refine j_astore4 (pc := 5) dX4_stops_5 (by decide) trivial ?_
  refine j_aload4 (pc := 7) dX4_stops_7 ?_
  refine j_ifnonnull (pc := 9) (tgt := 18) dX4_stops_9 (by decide) ?_
  refine j_aload4 (pc := 18) dX4_stops_18 ?_
  refine j_iload2 (pc := 20) dX4_stops_20 ?_
  refine j_iload3 (pc := 21) dX4_stops_21 ?_
  refine cd_X4_115 (pc := 22) rfl (T) hA.1 dX4_stops_22 rfl rfl ?_
  refine j_lret (pc := 25) dX4_stops_25 rfl ?_
  exact ⟨_, rfl, rfl, rfl⟩
theorem qn_close (hX : PSh h.1 X) (hN : h.i X 1 = nI n) (hn : n ≤ 40) (hr : pF h X n r = none) : DI cx mX4_close 1 h [.ref X, .int r] 1 h := by
  have S := qx_found (cx := cx) (r := r) hX hN hn
  rw [hr] at S
  refine Sp.of 1 (by decide) (Nat.le_of_ble_eq_true rfl) rfl ?_
  refine j_aload0 (pc := 0) dX4_close_0 ?_
  refine j_iload1 (pc := 1) dX4_close_1 ?_
  refine cd_X4_40 (pc := 2) rfl (S) hX.1 dX4_close_2 rfl rfl ?_
  refine j_rn ?_
  refine j_nstore2 (pc := 5) dX4_close_5 (by decide) trivial ?_
  refine j_nload2 (pc := 6) dX4_close_6 ?_
  refine j_ifnonnullN (pc := 7) dX4_close_7 ?_
  refine j_iconst (pc := 10) (v := 1) dX4_close_10 (by decide) ?_
  refine j_goto (pc := 11) (tgt := 18) dX4_close_11 (by decide) ?_
  refine j_iret (pc := 18) dX4_close_18 rfl rfl ?_
  exact ⟨_, rfl, rfl, rfl⟩
theorem qs_close {A : Nat} {y : Int32} {g : Hp} (hX : PSh h.1 X) (hN : h.i X 1 = nI n) (hn : n ≤ 40) (hr : pF h X n r = some A) (hA : RSh h.1 A) (T : DI cx mX2_finish 2 h [.ref A] y g) : DI cx mX4_close 3 h [.ref X, .int r] y g := by
  have S := qx_found (cx := cx) (r := r) hX hN hn
  rw [hr] at S
  refine Sp.of 1 (by decide) (Nat.le_of_ble_eq_true rfl) rfl ?_
  refine j_aload0 (pc := 0) dX4_close_0 ?_
  refine j_iload1 (pc := 1) dX4_close_1 ?_
  refine cd_X4_40 (pc := 2) rfl (S) hX.1 dX4_close_2 rfl rfl ?_
  refine j_rs ?_
  refine j_astore2 (pc := 5) dX4_close_5 (by decide) trivial ?_
  refine j_aload2 (pc := 6) dX4_close_6 ?_
  refine j_ifnonnull (pc := 7) (tgt := 14) dX4_close_7 (by decide) ?_
  refine j_aload2 (pc := 14) dX4_close_14 ?_
  refine cd_X4_118 (pc := 15) rfl (T) hA.1 dX4_close_15 rfl rfl ?_
  refine j_iret (pc := 18) dX4_close_18 rfl rfl ?_
  exact ⟨_, rfl, rfl, rfl⟩
theorem qn_fair (hX : PSh h.1 X) (hN : h.i X 1 = nI n) (hn : n ≤ 40) (hr : pF h X n r = none) : DI cx mX4_fair 1 h [.ref X, .int r] (-1) h := by
  have S := qx_found (cx := cx) (r := r) hX hN hn
  rw [hr] at S
  refine Sp.of 1 (by decide) (Nat.le_of_ble_eq_true rfl) rfl ?_
  refine j_aload0 (pc := 0) dX4_fair_0 ?_
  refine j_iload1 (pc := 1) dX4_fair_1 ?_
  refine cd_X4_40 (pc := 2) rfl (S) hX.1 dX4_fair_2 rfl rfl ?_
  refine j_rn ?_
  refine j_nstore2 (pc := 5) dX4_fair_5 (by decide) trivial ?_
  refine j_nload2 (pc := 6) dX4_fair_6 ?_
  refine j_ifnonnullN (pc := 7) dX4_fair_7 ?_
  refine j_iconst (pc := 10) (v := (-1)) dX4_fair_10 (by decide) ?_
  refine j_goto (pc := 11) (tgt := 18) dX4_fair_11 (by decide) ?_
  refine j_iret (pc := 18) dX4_fair_18 rfl rfl ?_
  exact ⟨_, rfl, rfl, rfl⟩
theorem qs_fair {A : Nat} {y : Int32} {g : Hp} (hX : PSh h.1 X) (hN : h.i X 1 = nI n) (hn : n ≤ 40) (hr : pF h X n r = some A) (hA : RSh h.1 A) (T : DI cx mX2_fairness 1 h [.ref A] y g) : DI cx mX4_fair 2 h [.ref X, .int r] y g := by
  have S := qx_found (cx := cx) (r := r) hX hN hn
  rw [hr] at S
  refine Sp.of 1 (by decide) (Nat.le_of_ble_eq_true rfl) rfl ?_
  refine j_aload0 (pc := 0) dX4_fair_0 ?_
  refine j_iload1 (pc := 1) dX4_fair_1 ?_
  refine cd_X4_40 (pc := 2) rfl (S) hX.1 dX4_fair_2 rfl rfl ?_
  refine j_rs ?_
  refine j_astore2 (pc := 5) dX4_fair_5 (by decide) trivial ?_
  refine j_aload2 (pc := 6) dX4_fair_6 ?_
  refine j_ifnonnull (pc := 7) (tgt := 14) dX4_fair_7 (by decide) ?_
  refine j_aload2 (pc := 14) dX4_fair_14 ?_
  refine cd_X4_121 (pc := 15) rfl (T) hA.1 dX4_fair_15 rfl rfl ?_
  refine j_iret (pc := 18) dX4_fair_18 rfl rfl ?_
  exact ⟨_, rfl, rfl, rfl⟩
theorem qn_undo (hX : PSh h.1 X) (hN : h.i X 1 = nI n) (hn : n ≤ 40) (hr : pF h X n r = none) : DI cx mX4_undo 1 h [.ref X, .int r] (-1) h := by
  have S := qx_found (cx := cx) (r := r) hX hN hn
  rw [hr] at S
  refine Sp.of 1 (by decide) (Nat.le_of_ble_eq_true rfl) rfl ?_
  refine j_aload0 (pc := 0) dX4_undo_0 ?_
  refine j_iload1 (pc := 1) dX4_undo_1 ?_
  refine cd_X4_40 (pc := 2) rfl (S) hX.1 dX4_undo_2 rfl rfl ?_
  refine j_rn ?_
  refine j_nstore2 (pc := 5) dX4_undo_5 (by decide) trivial ?_
  refine j_nload2 (pc := 6) dX4_undo_6 ?_
  refine j_ifnonnullN (pc := 7) dX4_undo_7 ?_
  refine j_iconst (pc := 10) (v := (-1)) dX4_undo_10 (by decide) ?_
  refine j_goto (pc := 11) (tgt := 18) dX4_undo_11 (by decide) ?_
  refine j_iret (pc := 18) dX4_undo_18 rfl rfl ?_
  exact ⟨_, rfl, rfl, rfl⟩
theorem qs_undo {A : Nat} {y : Int32} {g : Hp} (hX : PSh h.1 X) (hN : h.i X 1 = nI n) (hn : n ≤ 40) (hr : pF h X n r = some A) (hA : RSh h.1 A) (T : DI cx mX2_undoRound 2 h [.ref A] y g) : DI cx mX4_undo 3 h [.ref X, .int r] y g := by
  have S := qx_found (cx := cx) (r := r) hX hN hn
  rw [hr] at S
  refine Sp.of 1 (by decide) (Nat.le_of_ble_eq_true rfl) rfl ?_
  refine j_aload0 (pc := 0) dX4_undo_0 ?_
  refine j_iload1 (pc := 1) dX4_undo_1 ?_
  refine cd_X4_40 (pc := 2) rfl (S) hX.1 dX4_undo_2 rfl rfl ?_
  refine j_rs ?_
  refine j_astore2 (pc := 5) dX4_undo_5 (by decide) trivial ?_
  refine j_aload2 (pc := 6) dX4_undo_6 ?_
  refine j_ifnonnull (pc := 7) (tgt := 14) dX4_undo_7 (by decide) ?_
  refine j_aload2 (pc := 14) dX4_undo_14 ?_
  refine cd_X4_124 (pc := 15) rfl (T) hA.1 dX4_undo_15 rfl rfl ?_
  refine j_iret (pc := 18) dX4_undo_18 rfl rfl ?_
  exact ⟨_, rfl, rfl, rfl⟩
theorem qn_look {a2 : Int32} {a3 : Int32} (hX : PSh h.1 X) (hN : h.i X 1 = nI n) (hn : n ≤ 40) (hr : pF h X n r = none) : DL cx mX4_look 1 h [.ref X, .int r, .int a2, .int a3] (-1) h := by
  have S := qx_found (cx := cx) (r := r) hX hN hn
  rw [hr] at S
  refine Sp.of 1 (by decide) (Nat.le_of_ble_eq_true rfl) rfl ?_
  refine j_aload0 (pc := 0) dX4_look_0 ?_
  refine j_iload1 (pc := 1) dX4_look_1 ?_
  refine cd_X4_40 (pc := 2) rfl (S) hX.1 dX4_look_2 rfl rfl ?_
  refine j_rn ?_
  refine j_nstore4 (pc := 5) dX4_look_5 (by decide) trivial ?_
  refine j_nload4 (pc := 7) dX4_look_7 ?_
  refine j_ifnonnullN (pc := 9) dX4_look_9 ?_
  refine j_ldc2 (pc := 12) dX4_look_12 wT_kl_X4_103 ?_
  refine j_goto (pc := 15) (tgt := 28) dX4_look_15 (by decide) ?_
  refine j_lret (pc := 28) dX4_look_28 rfl ?_
  exact ⟨_, rfl, rfl, rfl⟩
theorem qs_look {A : Nat} {a2 : Int32} {a3 : Int32} {y : Int64} {g : Hp} (hX : PSh h.1 X) (hN : h.i X 1 = nI n) (hn : n ≤ 40) (hr : pF h X n r = some A) (hA : RSh h.1 A) (T : DL cx mX0_valueOf 3 h [.ref (A + 5), .int a2, .int a3] y g) : DL cx mX4_look 4 h [.ref X, .int r, .int a2, .int a3] y g := by
  have S := qx_found (cx := cx) (r := r) hX hN hn
  rw [hr] at S
  refine Sp.of 1 (by decide) (Nat.le_of_ble_eq_true rfl) rfl ?_
  refine j_aload0 (pc := 0) dX4_look_0 ?_
  refine j_iload1 (pc := 1) dX4_look_1 ?_
  refine cd_X4_40 (pc := 2) rfl (S) hX.1 dX4_look_2 rfl rfl ?_
  refine j_rs ?_
  refine j_astore4 (pc := 5) dX4_look_5 (by decide) trivial ?_
  refine j_aload4 (pc := 7) dX4_look_7 ?_
  refine j_ifnonnull (pc := 9) (tgt := 18) dX4_look_9 (by decide) ?_
  refine j_aload4 (pc := 18) dX4_look_18 ?_
  refine g_X4_48 (pc := 20) rfl hA.1 hA.2.2.2.2.2.1.1 dX4_look_20 ?_
  refine j_iload2 (pc := 23) dX4_look_23 ?_
  refine j_iload3 (pc := 24) dX4_look_24 ?_
  refine cd_X4_141 (pc := 25) rfl (T) hA.2.2.2.2.2.1.2.1 dX4_look_25 rfl rfl ?_
  refine j_lret (pc := 28) dX4_look_28 rfl ?_
  exact ⟨_, rfl, rfl, rfl⟩
end

