/-! the reference: its small methods -/
theorem j_rs {cx : Cx} {mt : Mt} {R : Room} {h : Hp} {pc : Nat} {ls : List (Option Value)} {st : List Value} {bc bs : Nat} {Q : Option Value → Hp → Prop} {x : Nat} (K : J cx mt R h pc ls (.ref x :: st) bc bs Q) : J cx mt R h pc ls (va_rf (some x) :: st) bc bs Q := K
theorem j_rn {cx : Cx} {mt : Mt} {R : Room} {h : Hp} {pc : Nat} {ls : List (Option Value)} {st : List Value} {bc bs : Nat} {Q : Option Value → Hp → Prop} (K : J cx mt R h pc ls (.null :: st) bc bs Q) : J cx mt R h pc ls (va_rf none :: st) bc bs Q := K
/-- the reference's object and its arrays -/
def MSh (s : Sh) (M : Nat) : Prop := s.2.1 M = kObj 5 ∧ (s.2.2 M 0 = some (M + 1) ∧ s.2.1 (M + 1) = kLongs 55720) ∧ (s.2.2 M 2 = some (M + 2) ∧ s.2.1 (M + 2) = kLongs 863660) ∧ (s.2.2 M 3 = some (M + 3) ∧ s.2.1 (M + 3) = kInts 620) ∧ (s.2.2 M 5 = some (M + 4) ∧ s.2.1 (M + 4) = kLongs 120000) ∧ (s.2.2 M 6 = some (M + 5) ∧ s.2.1 (M + 5) = kLongs 180)
section
variable {cx : Cx} {h : Hp} {M a : Nat} {f : Fl}
theorem s_get {b : Nat} (hM : MSh h.1 M) (ha : a < 40) (hb : b < 1393) : DL cx mX5_get 0 (mh h M a f) [.ref M, .int (nI a), .int (nI b)] (f b) (mh h M a f) := by
  refine Sp.of 0 (by decide) (Nat.le_of_ble_eq_true rfl) rfl ?_
  refine j_aload0 dX5_get_0 ?_
  refine g_X5_10 rfl hM.1 hM.2.1.1 dX5_get_1 ?_
  refine j_sipush (v := nI 1393) dX5_get_4 (by decide) ?_
  refine j_iload1 dX5_get_7 ?_
  refine j_imulN dX5_get_8 ?_
  refine j_iload2 dX5_get_9 ?_
  refine j_iaddN dX5_get_10 ?_
  refine j_lald hM.2.1.2 (pk_in (1393 * a + b) 55720 (by omega) rfl) dX5_get_11 ?_
  refine j_lret dX5_get_12 rfl ?_
  exact ⟨_, rfl, by rw [nI_clamp (by omega)]; exact mh_get hb, rfl⟩
theorem s_set {b : Nat} {v : Int64} (hM : MSh h.1 M) (ha : a < 40) (hb : b < 1393) : DV cx mX5_set 0 (mh h M a f) [.ref M, .int (nI a), .int (nI b), .long v] (mh h M a (upF f b v)) := by
  refine Sp.of 0 (by decide) (Nat.le_of_ble_eq_true rfl) rfl ?_
  refine j_aload0 dX5_set_0 ?_
  refine g_X5_10 rfl hM.1 hM.2.1.1 dX5_set_1 ?_
  refine j_sipush (v := nI 1393) dX5_set_4 (by decide) ?_
  refine j_iload1 dX5_set_7 ?_
  refine j_imulN dX5_set_8 ?_
  refine j_iload2 dX5_set_9 ?_
  refine j_iaddN dX5_set_10 ?_
  refine j_lload3 dX5_set_11 ?_
  refine j_last hM.2.1.2 (pk_in (1393 * a + b) 55720 (by omega) rfl) dX5_set_12 ?_
  rw [nI_clamp (by omega), mh_set hb]
  refine j_vret dX5_set_13 rfl ?_
  exact ⟨rfl, rfl⟩
theorem s_more {b : Nat} {v : Int64} (hM : MSh h.1 M) (ha : a < 40) (hb : b < 1393) : DV cx mX5_more 0 (mh h M a f) [.ref M, .int (nI a), .int (nI b), .long v] (mh h M a (upF f b (f b + v))) := by
  refine Sp.of 0 (by decide) (Nat.le_of_ble_eq_true rfl) rfl ?_
  refine j_aload0 dX5_more_0 ?_
  refine g_X5_10 rfl hM.1 hM.2.1.1 dX5_more_1 ?_
  refine j_sipush (v := nI 1393) dX5_more_4 (by decide) ?_
  refine j_iload1 dX5_more_7 ?_
  refine j_imulN dX5_more_8 ?_
  refine j_iload2 dX5_more_9 ?_
  refine j_iaddN dX5_more_10 ?_
  refine j_dup2 dX5_more_11 ?_
  refine j_lald hM.2.1.2 (pk_in (1393 * a + b) 55720 (by omega) rfl) dX5_more_12 ?_
  rw [nI_clamp (by omega), mh_get hb]
  refine j_lload3 dX5_more_13 ?_
  refine j_ladd dX5_more_14 ?_
  refine j_last hM.2.1.2 (pk_in (1393 * a + b) 55720 (by omega) rfl) dX5_more_15 ?_
  rw [nI_clamp (by omega), mh_set hb]
  refine j_vret dX5_more_16 rfl ?_
  exact ⟨rfl, rfl⟩
theorem s_at {s j : Nat} : DI cx mX5_at 0 h [.int (nI s), .int (nI j)] (nI (ix s j)) h := by
  refine Sp.of 0 (by decide) (Nat.le_of_ble_eq_true rfl) rfl ?_
  refine j_bipush (v := nI 13) dX5_at_0 (by decide) ?_
  refine j_bipush (v := nI 17) dX5_at_2 (by decide) ?_
  refine j_iload0 dX5_at_4 ?_
  refine j_imulN dX5_at_5 ?_
  refine j_iaddN dX5_at_6 ?_
  refine j_iload1 dX5_at_7 ?_
  refine j_iaddN dX5_at_8 ?_
  refine j_iret dX5_at_9 rfl rfl ?_
  exact ⟨_, rfl, rfl, rfl⟩
theorem s_isSeat (s : Int32) : DB cx mX5_isSeat 0 h [.int s] ((sN s).isSome) h := by
  refine Sp.of 0 (by decide) (Nat.le_of_ble_eq_true rfl) rfl ?_
  refine j_iload0 dX5_isSeat_0 ?_
  refine j_if_lt (tgt := 14) dX5_isSeat_1 (by decide) (fun c1 => ?_) (fun c1 => ?_)
  · refine j_iconst (v := 0) dX5_isSeat_14 (by decide) ?_
    refine j_iret dX5_isSeat_15 rfl rfl ?_
    exact ⟨_, rfl, by simp_all [sN, b2i, ← Int32.not_le], rfl⟩
  · refine j_iload0 dX5_isSeat_4 ?_
    refine j_bipush (v := 60) dX5_isSeat_5 (by decide) ?_
    refine j_icmp_ge (tgt := 14) dX5_isSeat_7 (by decide) (fun c7 => ?_) (fun c7 => ?_)
    · refine j_iconst (v := 0) dX5_isSeat_14 (by decide) ?_
      refine j_iret dX5_isSeat_15 rfl rfl ?_
      exact ⟨_, rfl, by simp_all [sN, b2i, ← Int32.not_le], rfl⟩
    · refine j_iconst (v := 1) dX5_isSeat_10 (by decide) ?_
      refine j_goto (tgt := 15) dX5_isSeat_11 (by decide) ?_
      refine j_iret dX5_isSeat_15 rfl rfl ?_
      exact ⟨_, rfl, by simp_all [sN, b2i, ← Int32.not_le], rfl⟩
def isRi (h : Hp) (M : Nat) (r : Int32) : Bool := decide (0 ≤ r) && decide (r < h.i M 1)
theorem s_isRing (r : Int32) (hM : MSh h.1 M) : DB cx mX5_isRing 0 h [.ref M, .int r] (isRi h M r) h := by
  refine Sp.of 0 (by decide) (Nat.le_of_ble_eq_true rfl) rfl ?_
  refine j_iload1 dX5_isRing_0 ?_
  refine j_if_lt (tgt := 16) dX5_isRing_1 (by decide) (fun c1 => ?_) (fun c1 => ?_)
  · refine j_iconst (v := 0) dX5_isRing_16 (by decide) ?_
    refine j_iret dX5_isRing_17 rfl rfl ?_
    exact ⟨_, rfl, by simp_all [isRi, b2i, ← Int32.not_le], rfl⟩
  · refine j_iload1 dX5_isRing_4 ?_
    refine j_aload0 dX5_isRing_5 ?_
    refine g_X5_29 rfl hM.1 dX5_isRing_6 ?_
    refine j_icmp_ge (tgt := 16) dX5_isRing_9 (by decide) (fun c9 => ?_) (fun c9 => ?_)
    · refine j_iconst (v := 0) dX5_isRing_16 (by decide) ?_
      refine j_iret dX5_isRing_17 rfl rfl ?_
      exact ⟨_, rfl, by simp_all [isRi, b2i, ← Int32.not_le], rfl⟩
    · refine j_iconst (v := 1) dX5_isRing_12 (by decide) ?_
      refine j_goto (tgt := 17) dX5_isRing_13 (by decide) ?_
      refine j_iret dX5_isRing_17 rfl rfl ?_
      exact ⟨_, rfl, by simp_all [isRi, b2i, ← Int32.not_le], rfl⟩
theorem sN_nI {n : Nat} (hn : n < 60) : sN (nI n) = some n := by
  rcases sN_cases (nI n) with ⟨-, h⟩ | ⟨k, hk, e, h⟩
  · exact absurd ⟨nI_pos' (by omega), (nI_ltI (by omega) (by decide)).mpr hn⟩ h
  · rw [h, (nI_eq (by omega) (by omega)).mp e]
theorem s_isMember {s : Nat} (hM : MSh h.1 M) (ha : a < 40) (hs : s < 60) : DB cx mX5_isMember 1 (mh h M a f) [.ref M, .int (nI a), .int (nI s)] (isMem f s) (mh h M a f) := by
  refine Sp.of 0 (by decide) (Nat.le_of_ble_eq_true rfl) rfl ?_
  refine j_iload2 dX5_isMember_0 ?_
  refine cd_X5_33 rfl (s_isSeat _) dX5_isMember_1 rfl rfl ?_
  refine j_bif_eq (tgt := 28) dX5_isMember_4 (by decide) (fun c4 => by simp [sN_nI hs] at c4) (fun c4 => ?_)
  refine j_aload0 dX5_isMember_7 ?_
  refine j_iload1 dX5_isMember_8 ?_
  refine j_iload2 dX5_isMember_9 ?_
  refine j_iconst (v := nI 0) dX5_isMember_10 (by decide) ?_
  refine cd_X5_37 rfl (s_at) dX5_isMember_11 rfl rfl ?_
  refine cd_X5_41 rfl (s_get hM ha (by first | decide | exact ix_lt hs (by decide) | omega)) hM.1 dX5_isMember_14 rfl rfl ?_
  refine j_ldc2 dX5_isMember_17 wT_kl_X5_45 ?_
  refine j_lcmp_lt (tgt := 28) dX5_isMember_20 dX5_isMember_21 (by decide) (fun c20 => ?_) (fun c20 => ?_)
  · refine j_iconst (v := 0) dX5_isMember_28 (by decide) ?_
    refine j_iret dX5_isMember_29 rfl rfl ?_
    exact ⟨_, rfl, by simp_all [isMem, b2i, ← Int64.not_le], rfl⟩
  · refine j_iconst (v := 1) dX5_isMember_24 (by decide) ?_
    refine j_goto (tgt := 29) dX5_isMember_25 (by decide) ?_
    refine j_iret dX5_isMember_29 rfl rfl ?_
    exact ⟨_, rfl, by simp_all [isMem, b2i, ← Int64.not_le], rfl⟩
end

