section
variable {cx : Cx} {mt : Mt} {R : Room} {h : Hp} {pc : Nat} {ls : List (Option Value)} {st : List Value} {bc bs : Nat} {Q : Option Value → Hp → Prop}
theorem j_lcmpN_eq {a b : Nat} {off : Int} {tgt : Nat} (ha : a < 2 ^ 31) (hb : b < 2 ^ 31) (d : decode mt.2.1 pc = .ok (.lcmp, 1)) (d2 : decode mt.2.1 (pc + 1) = .ok (.ifCond .eq off, 3)) (ht : ((pc + 1 : Nat) : Int) + off = (tgt : Int)) (Kt : a = b → J cx mt R h tgt ls (st) bc bs Q) (Kf : ¬ a = b → J cx mt R h (pc + 4) ls (st) bc bs Q) : J cx mt R h pc ls (.long (lN b) :: .long (lN a) :: st) bc bs Q := j_lcmp_eq d d2 ht (fun q => Kt ((lN_eq ha hb).mp q)) (fun q => Kf (fun z => q ((lN_eq ha hb).mpr z)))
theorem j_lcmpN_ne {a b : Nat} {off : Int} {tgt : Nat} (ha : a < 2 ^ 31) (hb : b < 2 ^ 31) (d : decode mt.2.1 pc = .ok (.lcmp, 1)) (d2 : decode mt.2.1 (pc + 1) = .ok (.ifCond .ne off, 3)) (ht : ((pc + 1 : Nat) : Int) + off = (tgt : Int)) (Kt : ¬ a = b → J cx mt R h tgt ls (st) bc bs Q) (Kf : a = b → J cx mt R h (pc + 4) ls (st) bc bs Q) : J cx mt R h pc ls (.long (lN b) :: .long (lN a) :: st) bc bs Q := j_lcmp_ne d d2 ht (fun q => Kt (fun z => q ((lN_eq ha hb).mpr z))) (fun q => Kf ((lN_eq ha hb).mp q))
theorem j_lcmpN_lt {a b : Nat} {off : Int} {tgt : Nat} (ha : a < 2 ^ 31) (hb : b < 2 ^ 31) (d : decode mt.2.1 pc = .ok (.lcmp, 1)) (d2 : decode mt.2.1 (pc + 1) = .ok (.ifCond .lt off, 3)) (ht : ((pc + 1 : Nat) : Int) + off = (tgt : Int)) (Kt : a < b → J cx mt R h tgt ls (st) bc bs Q) (Kf : b ≤ a → J cx mt R h (pc + 4) ls (st) bc bs Q) : J cx mt R h pc ls (.long (lN b) :: .long (lN a) :: st) bc bs Q := j_lcmp_lt d d2 ht (fun q => Kt ((lN_lt ha hb).mp q)) (fun q => Kf (Nat.not_lt.mp (fun z => q ((lN_lt ha hb).mpr z))))
theorem j_lcmpN_ge {a b : Nat} {off : Int} {tgt : Nat} (ha : a < 2 ^ 31) (hb : b < 2 ^ 31) (d : decode mt.2.1 pc = .ok (.lcmp, 1)) (d2 : decode mt.2.1 (pc + 1) = .ok (.ifCond .ge off, 3)) (ht : ((pc + 1 : Nat) : Int) + off = (tgt : Int)) (Kt : b ≤ a → J cx mt R h tgt ls (st) bc bs Q) (Kf : a < b → J cx mt R h (pc + 4) ls (st) bc bs Q) : J cx mt R h pc ls (.long (lN b) :: .long (lN a) :: st) bc bs Q := j_lcmp_ge d d2 ht (fun q => Kt ((lN_le hb ha).mp q)) (fun q => Kf (Nat.not_le.mp (fun z => q ((lN_le hb ha).mpr z))))
theorem j_lcmpN_gt {a b : Nat} {off : Int} {tgt : Nat} (ha : a < 2 ^ 31) (hb : b < 2 ^ 31) (d : decode mt.2.1 pc = .ok (.lcmp, 1)) (d2 : decode mt.2.1 (pc + 1) = .ok (.ifCond .gt off, 3)) (ht : ((pc + 1 : Nat) : Int) + off = (tgt : Int)) (Kt : b < a → J cx mt R h tgt ls (st) bc bs Q) (Kf : a ≤ b → J cx mt R h (pc + 4) ls (st) bc bs Q) : J cx mt R h pc ls (.long (lN b) :: .long (lN a) :: st) bc bs Q := j_lcmp_gt d d2 ht (fun q => Kt ((lN_lt hb ha).mp q)) (fun q => Kf (Nat.not_lt.mp (fun z => q ((lN_lt hb ha).mpr z))))
theorem j_lcmpN_le {a b : Nat} {off : Int} {tgt : Nat} (ha : a < 2 ^ 31) (hb : b < 2 ^ 31) (d : decode mt.2.1 pc = .ok (.lcmp, 1)) (d2 : decode mt.2.1 (pc + 1) = .ok (.ifCond .le off, 3)) (ht : ((pc + 1 : Nat) : Int) + off = (tgt : Int)) (Kt : a ≤ b → J cx mt R h tgt ls (st) bc bs Q) (Kf : b < a → J cx mt R h (pc + 4) ls (st) bc bs Q) : J cx mt R h pc ls (.long (lN b) :: .long (lN a) :: st) bc bs Q := j_lcmp_le d d2 ht (fun q => Kt ((lN_le ha hb).mp q)) (fun q => Kf (Nat.not_le.mp (fun z => q ((lN_le ha hb).mpr z))))
end
theorem dnI {I P : Nat → Prop} (N : Nat) (h0 : I 0) (hend : I N → P N) (hstep : ∀ n, n < N → I n → (I (n + 1) → P (n + 1)) → P n) : P 0 :=
  dn (P := fun n => I n → P n) N hend (fun n hn ih hi => hstep n hn hi ih) h0
theorem lN_nat {n : Nat} (h : n < 2 ^ 63) : (lN n).toInt.toNat = n := by rw [pk_lT h]; exact Int.toNat_natCast n
theorem nb {b : Bool} {P : Prop} (h1 : b = true) (h2 : b = false) : P := absurd (h1.symm.trans h2) Bool.noConfusion
theorem lN_0 : lN 0 = 0 := rfl
theorem lN_o : lN 1 = 1 := rfl
theorem nI_o : nI 1 = 1 := rfl
section
variable {cx : Cx} {h : Hp} {M a : Nat} {f : Fl}
theorem s_isMemberN {r s : Int32} (hs : sN s = none) : DB cx mX5_isMember 1 h [.ref M, .int r, .int s] false h := by
  refine Sp.of 0 (by decide) (Nat.le_of_ble_eq_true rfl) rfl ?_
  refine j_iload2 dX5_isMember_0 ?_
  refine cd_X5_33 rfl (s_isSeat _) dX5_isMember_1 rfl rfl ?_
  refine j_bif_eq (tgt := 28) dX5_isMember_4 (by decide) (fun c4 => ?_) (fun c4 => by simp [hs] at c4)
  refine j_iconst (v := 0) dX5_isMember_28 (by decide) ?_
  refine j_iret dX5_isMember_29 rfl rfl ?_
  exact ⟨_, rfl, rfl, rfl⟩
theorem s_isPlace {s : Nat} (hM : MSh h.1 M) (ha : a < 40) (hs : s < 60) : DB cx mX5_isPlace 2 (mh h M a f) [.ref M, .int (nI a), .int (nI s)] (isPl f s) (mh h M a f) := by
  refine Sp.of 0 (by decide) (Nat.le_of_ble_eq_true rfl) rfl ?_
  refine j_aload0 dX5_isPlace_0 ?_
  refine j_iload1 dX5_isPlace_1 ?_
  refine j_iconst (v := nI 4) dX5_isPlace_2 (by decide) ?_
  refine cd_X5_41 rfl (s_get hM ha (by first | decide | exact ix_lt hs (by decide) | omega)) hM.1 dX5_isPlace_3 rfl rfl ?_
  refine j_lconst (v := 0) dX5_isPlace_6 (by decide) ?_
  refine j_lcmp_le (tgt := 24) dX5_isPlace_7 dX5_isPlace_8 (by decide) (fun c7 => ?_) (fun c7 => ?_)
  · refine j_iconst (v := 0) dX5_isPlace_24 (by decide) ?_
    refine j_iret dX5_isPlace_25 rfl rfl ?_
    exact ⟨_, rfl, by simp_all [isPl, b2i, ← Int64.not_le], rfl⟩
  · refine j_aload0 dX5_isPlace_11 ?_
    refine j_iload1 dX5_isPlace_12 ?_
    refine j_iload2 dX5_isPlace_13 ?_
    refine cd_X5_47 rfl (s_isMember hM ha hs) hM.1 dX5_isPlace_14 rfl rfl ?_
    refine j_bif_eq (tgt := 24) dX5_isPlace_17 (by decide) (fun c17 => ?_) (fun c17 => ?_)
    · refine j_iconst (v := 0) dX5_isPlace_24 (by decide) ?_
      refine j_iret dX5_isPlace_25 rfl rfl ?_
      exact ⟨_, rfl, by simp_all [isPl, b2i, ← Int64.not_le], rfl⟩
    · refine j_iconst (v := 1) dX5_isPlace_20 (by decide) ?_
      refine j_goto (tgt := 25) dX5_isPlace_21 (by decide) ?_
      refine j_iret dX5_isPlace_25 rfl rfl ?_
      exact ⟨_, rfl, by simp_all [isPl, b2i, ← Int64.not_le], rfl⟩
theorem s_isPlaceN {s : Int32} (hM : MSh h.1 M) (ha : a < 40) (hs : sN s = none) : DB cx mX5_isPlace 2 (mh h M a f) [.ref M, .int (nI a), .int s] false (mh h M a f) := by
  refine Sp.of 0 (by decide) (Nat.le_of_ble_eq_true rfl) rfl ?_
  refine j_aload0 dX5_isPlace_0 ?_
  refine j_iload1 dX5_isPlace_1 ?_
  refine j_iconst (v := nI 4) dX5_isPlace_2 (by decide) ?_
  refine cd_X5_41 rfl (s_get hM ha (by first | decide | exact ix_lt hs (by decide) | omega)) hM.1 dX5_isPlace_3 rfl rfl ?_
  refine j_lconst (v := 0) dX5_isPlace_6 (by decide) ?_
  refine j_lcmp_le (tgt := 24) dX5_isPlace_7 dX5_isPlace_8 (by decide) (fun c7 => ?_) (fun c7 => ?_)
  · refine j_iconst (v := 0) dX5_isPlace_24 (by decide) ?_
    refine j_iret dX5_isPlace_25 rfl rfl ?_
    exact ⟨_, rfl, rfl, rfl⟩
  · refine j_aload0 dX5_isPlace_11 ?_
    refine j_iload1 dX5_isPlace_12 ?_
    refine j_iload2 dX5_isPlace_13 ?_
    refine cd_X5_47 rfl (s_isMemberN hs) hM.1 dX5_isPlace_14 rfl rfl ?_
    refine j_bif_eq (tgt := 24) dX5_isPlace_17 (by decide) (fun c17 => ?_) (fun c17 => by simp at c17)
    refine j_iconst (v := 0) dX5_isPlace_24 (by decide) ?_
    refine j_iret dX5_isPlace_25 rfl rfl ?_
    exact ⟨_, rfl, rfl, rfl⟩
theorem s_isStopped {s : Nat} (hM : MSh h.1 M) (ha : a < 40) (hs : s < 60) : DB cx mX5_isStopped 1 (mh h M a f) [.ref M, .int (nI a), .int (nI s)] (isSt f s) (mh h M a f) := by
  refine Sp.of 0 (by decide) (Nat.le_of_ble_eq_true rfl) rfl ?_
  refine j_aload0 dX5_isStopped_0 ?_
  refine j_iload1 dX5_isStopped_1 ?_
  refine j_iload2 dX5_isStopped_2 ?_
  refine j_iconst (v := nI 4) dX5_isStopped_3 (by decide) ?_
  refine cd_X5_37 rfl (s_at) dX5_isStopped_4 rfl rfl ?_
  refine cd_X5_41 rfl (s_get hM ha (by first | decide | exact ix_lt hs (by decide) | omega)) hM.1 dX5_isStopped_7 rfl rfl ?_
  refine j_lconst (v := 1) dX5_isStopped_10 (by decide) ?_
  refine j_lcmp_ne (tgt := 19) dX5_isStopped_11 dX5_isStopped_12 (by decide) (fun c11 => ?_) (fun c11 => ?_)
  · refine j_iconst (v := 0) dX5_isStopped_19 (by decide) ?_
    refine j_iret dX5_isStopped_20 rfl rfl ?_
    exact ⟨_, rfl, by simp_all [isSt, b2i], rfl⟩
  · refine j_iconst (v := 1) dX5_isStopped_15 (by decide) ?_
    refine j_goto (tgt := 20) dX5_isStopped_16 (by decide) ?_
    refine j_iret dX5_isStopped_20 rfl rfl ?_
    exact ⟨_, rfl, by simp_all [isSt, b2i], rfl⟩
theorem s_isNeither {s : Nat} (hM : MSh h.1 M) (ha : a < 40) (hs : s < 60) : DB cx mX5_isNeither 3 (mh h M a f) [.ref M, .int (nI a), .int (nI s)] (isNe f s) (mh h M a f) := by
  refine Sp.of 0 (by decide) (Nat.le_of_ble_eq_true rfl) rfl ?_
  refine j_aload0 dX5_isNeither_0 ?_
  refine j_iload1 dX5_isNeither_1 ?_
  refine j_iload2 dX5_isNeither_2 ?_
  refine cd_X5_51 rfl (s_isPlace hM ha hs) hM.1 dX5_isNeither_3 rfl rfl ?_
  refine j_bif_eq (tgt := 37) dX5_isNeither_6 (by decide) (fun c6 => ?_) (fun c6 => ?_)
  · refine j_iconst (v := 0) dX5_isNeither_37 (by decide) ?_
    refine j_iret dX5_isNeither_38 rfl rfl ?_
    exact ⟨_, rfl, by simp_all [isNe, b2i], rfl⟩
  · refine j_aload0 dX5_isNeither_9 ?_
    refine j_iload1 dX5_isNeither_10 ?_
    refine j_iload2 dX5_isNeither_11 ?_
    refine cd_X5_54 rfl (s_isStopped hM ha hs) hM.1 dX5_isNeither_12 rfl rfl ?_
    refine j_bif_ne (tgt := 37) dX5_isNeither_15 (by decide) (fun c15 => ?_) (fun c15 => ?_)
    · refine j_iconst (v := 0) dX5_isNeither_37 (by decide) ?_
      refine j_iret dX5_isNeither_38 rfl rfl ?_
      exact ⟨_, rfl, by simp_all [isNe, b2i], rfl⟩
    · refine j_aload0 dX5_isNeither_18 ?_
      refine j_iload1 dX5_isNeither_19 ?_
      refine j_iload2 dX5_isNeither_20 ?_
      refine j_iconst (v := nI 3) dX5_isNeither_21 (by decide) ?_
      refine cd_X5_37 rfl (s_at) dX5_isNeither_22 rfl rfl ?_
      refine cd_X5_41 rfl (s_get hM ha (by first | decide | exact ix_lt hs (by decide) | omega)) hM.1 dX5_isNeither_25 rfl rfl ?_
      refine j_lconst (v := 0) dX5_isNeither_28 (by decide) ?_
      refine j_lcmp_ne (tgt := 37) dX5_isNeither_29 dX5_isNeither_30 (by decide) (fun c29 => ?_) (fun c29 => ?_)
      · refine j_iconst (v := 0) dX5_isNeither_37 (by decide) ?_
        refine j_iret dX5_isNeither_38 rfl rfl ?_
        exact ⟨_, rfl, by simp_all [isNe, b2i], rfl⟩
      · refine j_iconst (v := 1) dX5_isNeither_33 (by decide) ?_
        refine j_goto (tgt := 38) dX5_isNeither_34 (by decide) ?_
        refine j_iret dX5_isNeither_38 rfl rfl ?_
        exact ⟨_, rfl, by simp_all [isNe, b2i], rfl⟩
theorem s_isAble {s : Nat} (hM : MSh h.1 M) (ha : a < 40) (hs : s < 60) : DB cx mX5_isAble 4 (mh h M a f) [.ref M, .int (nI a), .int (nI s)] (isAb f s) (mh h M a f) := by
  refine Sp.of 0 (by decide) (Nat.le_of_ble_eq_true rfl) rfl ?_
  refine j_aload0 dX5_isAble_0 ?_
  refine j_iload1 dX5_isAble_1 ?_
  refine j_iload2 dX5_isAble_2 ?_
  refine cd_X5_57 rfl (s_isNeither hM ha hs) hM.1 dX5_isAble_3 rfl rfl ?_
  refine j_bif_eq (tgt := 28) dX5_isAble_6 (by decide) (fun c6 => ?_) (fun c6 => ?_)
  · refine j_iconst (v := 0) dX5_isAble_28 (by decide) ?_
    refine j_iret dX5_isAble_29 rfl rfl ?_
    exact ⟨_, rfl, by simp_all [isAb, b2i], rfl⟩
  · refine j_aload0 dX5_isAble_9 ?_
    refine j_iload1 dX5_isAble_10 ?_
    refine j_iload2 dX5_isAble_11 ?_
    refine j_iconst (v := nI 5) dX5_isAble_12 (by decide) ?_
    refine cd_X5_37 rfl (s_at) dX5_isAble_13 rfl rfl ?_
    refine cd_X5_41 rfl (s_get hM ha (by first | decide | exact ix_lt hs (by decide) | omega)) hM.1 dX5_isAble_16 rfl rfl ?_
    refine j_lconst (v := 0) dX5_isAble_19 (by decide) ?_
    refine j_lcmp_ne (tgt := 28) dX5_isAble_20 dX5_isAble_21 (by decide) (fun c20 => ?_) (fun c20 => ?_)
    · refine j_iconst (v := 0) dX5_isAble_28 (by decide) ?_
      refine j_iret dX5_isAble_29 rfl rfl ?_
      exact ⟨_, rfl, by simp_all [isAb, b2i], rfl⟩
    · refine j_iconst (v := 1) dX5_isAble_24 (by decide) ?_
      refine j_goto (tgt := 29) dX5_isAble_25 (by decide) ?_
      refine j_iret dX5_isAble_29 rfl rfl ?_
      exact ⟨_, rfl, by simp_all [isAb, b2i], rfl⟩
theorem s_isFull {s : Nat} (hM : MSh h.1 M) (ha : a < 40) (hs : s < 60) : DB cx mX5_isFull 3 (mh h M a f) [.ref M, .int (nI a), .int (nI s)] (isFu f s) (mh h M a f) := by
  refine Sp.of 0 (by decide) (Nat.le_of_ble_eq_true rfl) rfl ?_
  refine j_aload0 dX5_isFull_0 ?_
  refine j_iload1 dX5_isFull_1 ?_
  refine j_iload2 dX5_isFull_2 ?_
  refine cd_X5_51 rfl (s_isPlace hM ha hs) hM.1 dX5_isFull_3 rfl rfl ?_
  refine j_bif_eq (tgt := 29) dX5_isFull_6 (by decide) (fun c6 => ?_) (fun c6 => ?_)
  · refine j_iconst (v := 0) dX5_isFull_29 (by decide) ?_
    refine j_iret dX5_isFull_30 rfl rfl ?_
    exact ⟨_, rfl, by simp_all [isFu, b2i], rfl⟩
  · refine j_aload0 dX5_isFull_9 ?_
    refine j_iload1 dX5_isFull_10 ?_
    refine j_iload2 dX5_isFull_11 ?_
    refine j_bipush (v := nI 12) dX5_isFull_12 (by decide) ?_
    refine cd_X5_37 rfl (s_at) dX5_isFull_14 rfl rfl ?_
    refine cd_X5_41 rfl (s_get hM ha (by first | decide | exact ix_lt hs (by decide) | omega)) hM.1 dX5_isFull_17 rfl rfl ?_
    refine j_lconst (v := 1) dX5_isFull_20 (by decide) ?_
    refine j_lcmp_ne (tgt := 29) dX5_isFull_21 dX5_isFull_22 (by decide) (fun c21 => ?_) (fun c21 => ?_)
    · refine j_iconst (v := 0) dX5_isFull_29 (by decide) ?_
      refine j_iret dX5_isFull_30 rfl rfl ?_
      exact ⟨_, rfl, by simp_all [isFu, b2i], rfl⟩
    · refine j_iconst (v := 1) dX5_isFull_25 (by decide) ?_
      refine j_goto (tgt := 30) dX5_isFull_26 (by decide) ?_
      refine j_iret dX5_isFull_30 rfl rfl ?_
      exact ⟨_, rfl, by simp_all [isFu, b2i], rfl⟩
theorem s_isOther {s t : Nat} (hM : MSh h.1 M) (ha : a < 40) (hs : s < 60) (ht : t < 60) : DB cx mX5_isOther 3 (mh h M a f) [.ref M, .int (nI a), .int (nI s), .int (nI t)] (isOt f t s) (mh h M a f) := by
  refine Sp.of 0 (by decide) (Nat.le_of_ble_eq_true rfl) rfl ?_
  refine j_iload2 dX5_isOther_0 ?_
  refine j_iload3 dX5_isOther_1 ?_
  refine j_icmpN_eq (tgt := 27) (by first | decide | omega) (by first | decide | omega) dX5_isOther_2 (by decide) (fun c2 => ?_) (fun c2 => ?_)
  · refine j_iconst (v := 0) dX5_isOther_27 (by decide) ?_
    refine j_iret dX5_isOther_28 rfl rfl ?_
    exact ⟨_, rfl, by simp_all [isOt, b2i], rfl⟩
  · refine j_aload0 dX5_isOther_5 ?_
    refine j_iload1 dX5_isOther_6 ?_
    refine j_iload2 dX5_isOther_7 ?_
    refine cd_X5_51 rfl (s_isPlace hM ha hs) hM.1 dX5_isOther_8 rfl rfl ?_
    refine j_bif_eq (tgt := 27) dX5_isOther_11 (by decide) (fun c11 => ?_) (fun c11 => ?_)
    · refine j_iconst (v := 0) dX5_isOther_27 (by decide) ?_
      refine j_iret dX5_isOther_28 rfl rfl ?_
      exact ⟨_, rfl, by simp_all [isOt, b2i], rfl⟩
    · refine j_aload0 dX5_isOther_14 ?_
      refine j_iload1 dX5_isOther_15 ?_
      refine j_iload2 dX5_isOther_16 ?_
      refine cd_X5_54 rfl (s_isStopped hM ha hs) hM.1 dX5_isOther_17 rfl rfl ?_
      refine j_bif_ne (tgt := 27) dX5_isOther_20 (by decide) (fun c20 => ?_) (fun c20 => ?_)
      · refine j_iconst (v := 0) dX5_isOther_27 (by decide) ?_
        refine j_iret dX5_isOther_28 rfl rfl ?_
        exact ⟨_, rfl, by simp_all [isOt, b2i], rfl⟩
      · refine j_iconst (v := 1) dX5_isOther_23 (by decide) ?_
        refine j_goto (tgt := 28) dX5_isOther_24 (by decide) ?_
        refine j_iret dX5_isOther_28 rfl rfl ?_
        exact ⟨_, rfl, by simp_all [isOt, b2i], rfl⟩
theorem s_purse (hM : MSh h.1 M) (ha : a < 40) : DL cx mX5_purse 1 (mh h M a f) [.ref M, .int (nI a)] (pur f) (mh h M a f) := by
  refine Sp.of 0 (by decide) (Nat.le_of_ble_eq_true rfl) rfl ?_
  refine j_aload0 dX5_purse_0 ?_
  refine j_iload1 dX5_purse_1 ?_
  refine j_bipush (v := nI 6) dX5_purse_2 (by decide) ?_
  refine cd_X5_41 rfl (s_get hM ha (by first | decide | exact ix_lt hs (by decide) | omega)) hM.1 dX5_purse_4 rfl rfl ?_
  refine j_aload0 dX5_purse_7 ?_
  refine j_iload1 dX5_purse_8 ?_
  refine j_iconst (v := nI 1) dX5_purse_9 (by decide) ?_
  refine cd_X5_41 rfl (s_get hM ha (by first | decide | exact ix_lt hs (by decide) | omega)) hM.1 dX5_purse_10 rfl rfl ?_
  refine j_lmul dX5_purse_13 ?_
  refine j_lret dX5_purse_14 rfl ?_
  exact ⟨_, rfl, rfl, rfl⟩
theorem s_isTold {s t : Nat} (hM : MSh h.1 M) (ha : a < 40) (hs : s < 60) (ht : f 12 = lN t) (ht6 : t ≤ 60) : DB cx mX5_isTold 1 (mh h M a f) [.ref M, .int (nI a), .int (nI s)] (isTo f s) (mh h M a f) := by
  have hto : isTo f s = (fnd (fun k => decide (f (1033 + k) = lN s)) t).isSome := by unfold isTo; rw [ht, lN_nat (by omega)]
  rw [hto]
  refine Sp.of 1 (by decide) (Nat.le_of_ble_eq_true rfl) rfl ?_
  refine j_iconst (v := nI 0) dX5_isTold_0 (by decide) ?_
  refine j_istore3 dX5_isTold_1 (by decide) trivial ?_
  refine dnI (I := fun n => fnd (fun k => decide (f (1033 + k) = lN s)) n = none) (P := (fun R Q n => J cx mX5_isTold R (mh h M a f) 2 [some (.ref M), some (.int (nI a)), some (.int (nI s)), some (.int (nI n))] [] 0 0 Q) _ _) t rfl ?_ ?_
  · intro hn
    refine j_iload3 dX5_isTold_2 ?_
    refine j_i2lN (by first | decide | omega) dX5_isTold_3 ?_
    refine j_aload0 dX5_isTold_4 ?_
    refine j_iload1 dX5_isTold_5 ?_
    refine j_bipush (v := nI 12) dX5_isTold_6 (by decide) ?_
    refine cd_X5_41 rfl (s_get hM ha (by decide)) hM.1 dX5_isTold_8 rfl rfl ?_
    rw [ht]
    refine j_lcmpN_ge (tgt := 39) (by first | decide | omega) (by first | decide | omega) dX5_isTold_11 dX5_isTold_12 (by decide) (fun c11 => ?_) (fun c11 => by omega)
    refine j_iconst (v := 0) dX5_isTold_39 (by decide) ?_
    refine j_iret dX5_isTold_40 rfl rfl ?_
    exact ⟨_, rfl, by rw [hn]; rfl, rfl⟩
  · intro n hn hf ih
    refine j_iload3 dX5_isTold_2 ?_
    refine j_i2lN (by first | decide | omega) dX5_isTold_3 ?_
    refine j_aload0 dX5_isTold_4 ?_
    refine j_iload1 dX5_isTold_5 ?_
    refine j_bipush (v := nI 12) dX5_isTold_6 (by decide) ?_
    refine cd_X5_41 rfl (s_get hM ha (by decide)) hM.1 dX5_isTold_8 rfl rfl ?_
    rw [ht]
    refine j_lcmpN_ge (tgt := 39) (by first | decide | omega) (by first | decide | omega) dX5_isTold_11 dX5_isTold_12 (by decide) (fun c11 => by omega) (fun c11 => ?_)
    refine j_aload0 dX5_isTold_15 ?_
    refine j_iload1 dX5_isTold_16 ?_
    refine j_sipush (v := nI 1033) dX5_isTold_17 (by decide) ?_
    refine j_iload3 dX5_isTold_20 ?_
    refine j_iaddN dX5_isTold_21 ?_
    refine cd_X5_41 rfl (s_get hM ha (by first | decide | exact ix_lt hs (by decide) | omega)) hM.1 dX5_isTold_22 rfl rfl ?_
    refine j_iload2 dX5_isTold_25 ?_
    refine j_i2lN (by first | decide | omega) dX5_isTold_26 ?_
    refine j_lcmp_ne (tgt := 33) dX5_isTold_27 dX5_isTold_28 (by decide) (fun c27 => ?_) (fun c27 => ?_)
    · refine j_iincN3 dX5_isTold_33 (by decide) trivial ?_
      refine j_goto (tgt := 2) dX5_isTold_36 (by decide) ?_
      exact ih (by simp [fnd, hf, c27])
    · refine j_iconst (v := 1) dX5_isTold_31 (by decide) ?_
      refine j_iret dX5_isTold_32 rfl rfl ?_
      exact ⟨_, rfl, by rw [fnd_at hf (decide_eq_true c27) t hn]; rfl, rfl⟩
theorem s_against {seat : Int32} (hM : MSh h.1 M) (ha : a < 40) (hr : isRi h M (nI a) = true) : DI cx mX5_against 3 (mh h M a f) [.ref M, .int (nI a), .int seat] (ag f (sN seat)) (mh h M a f) := by
  rcases sN_cases seat with ⟨hso, -⟩ | ⟨s, hs, rfl, hso⟩ <;> rw [hso]
  · refine Sp.of 0 (by decide) (Nat.le_of_ble_eq_true rfl) rfl ?_
    refine j_aload0 dX5_against_0 ?_
    refine j_iload1 dX5_against_1 ?_
    refine cd_X5_68 rfl (s_isRing _ hM) hM.1 dX5_against_2 rfl rfl ?_
    refine j_bif_ne (tgt := 10) dX5_against_5 (by decide) (fun c5 => ?_) (fun c5 => by exact nb hr c5)
    refine j_aload0 dX5_against_10 ?_
    refine j_iload1 dX5_against_11 ?_
    refine j_iconst (v := nI 4) dX5_against_12 (by decide) ?_
    refine cd_X5_41 rfl (s_get hM ha (by first | decide | exact ix_lt hs (by decide) | omega)) hM.1 dX5_against_13 rfl rfl ?_
    refine j_lconst (v := 1) dX5_against_16 (by decide) ?_
    refine j_lcmp_eq (tgt := 23) dX5_against_17 dX5_against_18 (by decide) (fun c17 => ?_) (fun c17 => ?_)
    · refine j_aload0 dX5_against_23 ?_
      refine j_iload1 dX5_against_24 ?_
      refine j_iload2 dX5_against_25 ?_
      refine cd_X5_51 rfl (s_isPlaceN hM ha hso) hM.1 dX5_against_26 rfl rfl ?_
      refine j_bif_ne (tgt := 34) dX5_against_29 (by decide) (fun c29 => by simp at c29) (fun c29 => ?_)
      refine j_iconst (v := 3) dX5_against_32 (by decide) ?_
      refine j_iret dX5_against_33 rfl rfl ?_
      exact ⟨_, rfl, by simp_all [ag], rfl⟩
    · refine j_iconst (v := 2) dX5_against_21 (by decide) ?_
      refine j_iret dX5_against_22 rfl rfl ?_
      exact ⟨_, rfl, by simp_all [ag], rfl⟩
  · refine Sp.of 0 (by decide) (Nat.le_of_ble_eq_true rfl) rfl ?_
    refine j_aload0 dX5_against_0 ?_
    refine j_iload1 dX5_against_1 ?_
    refine cd_X5_68 rfl (s_isRing _ hM) hM.1 dX5_against_2 rfl rfl ?_
    refine j_bif_ne (tgt := 10) dX5_against_5 (by decide) (fun c5 => ?_) (fun c5 => by exact nb hr c5)
    refine j_aload0 dX5_against_10 ?_
    refine j_iload1 dX5_against_11 ?_
    refine j_iconst (v := nI 4) dX5_against_12 (by decide) ?_
    refine cd_X5_41 rfl (s_get hM ha (by first | decide | exact ix_lt hs (by decide) | omega)) hM.1 dX5_against_13 rfl rfl ?_
    refine j_lconst (v := 1) dX5_against_16 (by decide) ?_
    refine j_lcmp_eq (tgt := 23) dX5_against_17 dX5_against_18 (by decide) (fun c17 => ?_) (fun c17 => ?_)
    · refine j_aload0 dX5_against_23 ?_
      refine j_iload1 dX5_against_24 ?_
      refine j_iload2 dX5_against_25 ?_
      refine cd_X5_51 rfl (s_isPlace hM ha hs) hM.1 dX5_against_26 rfl rfl ?_
      refine j_bif_ne (tgt := 34) dX5_against_29 (by decide) (fun c29 => ?_) (fun c29 => ?_)
      · refine j_aload0 dX5_against_34 ?_
        refine j_iload1 dX5_against_35 ?_
        refine j_iload2 dX5_against_36 ?_
        refine cd_X5_54 rfl (s_isStopped hM ha hs) hM.1 dX5_against_37 rfl rfl ?_
        refine j_bif_eq (tgt := 48) dX5_against_40 (by decide) (fun c40 => ?_) (fun c40 => ?_)
        · refine j_iconst (v := 0) dX5_against_48 (by decide) ?_
          refine j_iret dX5_against_49 rfl rfl ?_
          exact ⟨_, rfl, by simp_all [ag], rfl⟩
        · refine j_bipush (v := 10) dX5_against_43 (by decide) ?_
          refine j_goto (tgt := 49) dX5_against_45 (by decide) ?_
          refine j_iret dX5_against_49 rfl rfl ?_
          exact ⟨_, rfl, by simp_all [ag], rfl⟩
      · refine j_iconst (v := 3) dX5_against_32 (by decide) ?_
        refine j_iret dX5_against_33 rfl rfl ?_
        exact ⟨_, rfl, by simp_all [ag], rfl⟩
    · refine j_iconst (v := 2) dX5_against_21 (by decide) ?_
      refine j_iret dX5_against_22 rfl rfl ?_
      exact ⟨_, rfl, by simp_all [ag], rfl⟩
theorem s_againstKind {k : Nat} (hM : MSh h.1 M) (ha : a < 40) (hr : isRi h M (nI a) = true) (hk : k < 4) : DI cx mX5_againstKind 1 (mh h M a f) [.ref M, .int (nI a), .int (nI k)] (agK f (lN k)) (mh h M a f) := by
  refine Sp.of 0 (by decide) (Nat.le_of_ble_eq_true rfl) rfl ?_
  refine j_aload0 dX5_againstKind_0 ?_
  refine j_iload1 dX5_againstKind_1 ?_
  refine cd_X5_68 rfl (s_isRing _ hM) hM.1 dX5_againstKind_2 rfl rfl ?_
  refine j_bif_ne (tgt := 12) dX5_againstKind_5 (by decide) (fun c5 => ?_) (fun c5 => by exact nb hr c5)
  refine j_aload0 dX5_againstKind_12 ?_
  refine j_iload1 dX5_againstKind_13 ?_
  refine j_iconst (v := nI 4) dX5_againstKind_14 (by decide) ?_
  refine cd_X5_41 rfl (s_get hM ha (by first | decide | exact ix_lt hs (by decide) | omega)) hM.1 dX5_againstKind_15 rfl rfl ?_
  refine j_lconst (v := 1) dX5_againstKind_18 (by decide) ?_
  refine j_lcmp_eq (tgt := 27) dX5_againstKind_19 dX5_againstKind_20 (by decide) (fun c19 => ?_) (fun c19 => ?_)
  · refine j_aload0 dX5_againstKind_27 ?_
    refine j_iload1 dX5_againstKind_28 ?_
    refine j_iconst (v := nI 0) dX5_againstKind_29 (by decide) ?_
    refine cd_X5_41 rfl (s_get hM ha (by first | decide | exact ix_lt hs (by decide) | omega)) hM.1 dX5_againstKind_30 rfl rfl ?_
    refine j_iload2 dX5_againstKind_33 ?_
    refine j_i2lN (by first | decide | omega) dX5_againstKind_34 ?_
    refine j_lcmp_eq (tgt := 43) dX5_againstKind_35 dX5_againstKind_36 (by decide) (fun c35 => ?_) (fun c35 => ?_)
    · refine j_iconst (v := 0) dX5_againstKind_43 (by decide) ?_
      refine j_iret dX5_againstKind_44 rfl rfl ?_
      exact ⟨_, rfl, by simp_all [agK], rfl⟩
    · refine j_iconst (v := 4) dX5_againstKind_39 (by decide) ?_
      refine j_goto (tgt := 44) dX5_againstKind_40 (by decide) ?_
      refine j_iret dX5_againstKind_44 rfl rfl ?_
      exact ⟨_, rfl, by simp_all [agK], rfl⟩
  · refine j_iconst (v := 2) dX5_againstKind_23 (by decide) ?_
    refine j_goto (tgt := 44) dX5_againstKind_24 (by decide) ?_
    refine j_iret dX5_againstKind_44 rfl rfl ?_
    exact ⟨_, rfl, by simp_all [agK], rfl⟩
theorem s_comesBack {s : Nat} (hM : MSh h.1 M) (ha : a < 40) (hs : s < 60) : DV cx mX5_comesBack 1 (mh h M a f) [.ref M, .int (nI a), .int (nI s)] (mh h M a (cbS s f)) := by
  refine Sp.of 0 (by decide) (Nat.le_of_ble_eq_true rfl) rfl ?_
  refine j_aload0 dX5_comesBack_0 ?_
  refine j_iload1 dX5_comesBack_1 ?_
  refine j_iload2 dX5_comesBack_2 ?_
  refine j_bipush (v := nI 8) dX5_comesBack_3 (by decide) ?_
  refine cd_X5_37 rfl (s_at) dX5_comesBack_5 rfl rfl ?_
  refine j_aload0 dX5_comesBack_8 ?_
  refine j_iload1 dX5_comesBack_9 ?_
  refine j_iload2 dX5_comesBack_10 ?_
  refine j_bipush (v := nI 13) dX5_comesBack_11 (by decide) ?_
  refine cd_X5_37 rfl (s_at) dX5_comesBack_13 rfl rfl ?_
  refine cd_X5_41 rfl (s_get hM ha (by first | decide | exact ix_lt hs (by decide) | omega)) hM.1 dX5_comesBack_16 rfl rfl ?_
  refine j_lneg dX5_comesBack_19 ?_
  refine cd_X5_76 rfl (s_more hM ha (by first | decide | exact ix_lt hs (by decide) | omega)) hM.1 dX5_comesBack_20 rfl rfl ?_
  refine j_aload0 dX5_comesBack_23 ?_
  refine j_iload1 dX5_comesBack_24 ?_
  refine j_iload2 dX5_comesBack_25 ?_
  refine j_bipush (v := nI 13) dX5_comesBack_26 (by decide) ?_
  refine cd_X5_37 rfl (s_at) dX5_comesBack_28 rfl rfl ?_
  refine j_lconst (v := 0) dX5_comesBack_31 (by decide) ?_
  refine cd_X5_62 rfl (s_set hM ha (by first | decide | exact ix_lt hs (by decide) | omega)) hM.1 dX5_comesBack_32 rfl rfl ?_
  refine j_aload0 dX5_comesBack_35 ?_
  refine j_iload1 dX5_comesBack_36 ?_
  refine j_iload2 dX5_comesBack_37 ?_
  refine j_bipush (v := nI 14) dX5_comesBack_38 (by decide) ?_
  refine cd_X5_37 rfl (s_at) dX5_comesBack_40 rfl rfl ?_
  refine j_lconst (v := 0) dX5_comesBack_43 (by decide) ?_
  refine cd_X5_62 rfl (s_set hM ha (by first | decide | exact ix_lt hs (by decide) | omega)) hM.1 dX5_comesBack_44 rfl rfl ?_
  refine j_vret dX5_comesBack_47 rfl ?_
  exact ⟨rfl, rfl⟩
theorem s_backComes {s : Nat} (hM : MSh h.1 M) (ha : a < 40) (hs : s < 60) : DV cx mX5_backComes 1 (mh h M a f) [.ref M, .int (nI a), .int (nI s)] (mh h M a (bcS s f)) := by
  refine Sp.of 0 (by decide) (Nat.le_of_ble_eq_true rfl) rfl ?_
  refine j_aload0 dX5_backComes_0 ?_
  refine j_iload1 dX5_backComes_1 ?_
  refine j_iload2 dX5_backComes_2 ?_
  refine j_bipush (v := nI 11) dX5_backComes_3 (by decide) ?_
  refine cd_X5_37 rfl (s_at) dX5_backComes_5 rfl rfl ?_
  refine j_aload0 dX5_backComes_8 ?_
  refine j_iload1 dX5_backComes_9 ?_
  refine j_iload2 dX5_backComes_10 ?_
  refine j_bipush (v := nI 7) dX5_backComes_11 (by decide) ?_
  refine cd_X5_37 rfl (s_at) dX5_backComes_13 rfl rfl ?_
  refine cd_X5_41 rfl (s_get hM ha (by first | decide | exact ix_lt hs (by decide) | omega)) hM.1 dX5_backComes_16 rfl rfl ?_
  refine cd_X5_76 rfl (s_more hM ha (by first | decide | exact ix_lt hs (by decide) | omega)) hM.1 dX5_backComes_19 rfl rfl ?_
  refine j_aload0 dX5_backComes_22 ?_
  refine j_iload1 dX5_backComes_23 ?_
  refine j_iload2 dX5_backComes_24 ?_
  refine j_bipush (v := nI 7) dX5_backComes_25 (by decide) ?_
  refine cd_X5_37 rfl (s_at) dX5_backComes_27 rfl rfl ?_
  refine j_lconst (v := 0) dX5_backComes_30 (by decide) ?_
  refine cd_X5_62 rfl (s_set hM ha (by first | decide | exact ix_lt hs (by decide) | omega)) hM.1 dX5_backComes_31 rfl rfl ?_
  refine j_vret dX5_backComes_34 rfl ?_
  exact ⟨rfl, rfl⟩
theorem s_rowGoes (hM : MSh h.1 M) (ha : a < 40) : DV cx mX5_rowGoes 2 (mh h M a f) [.ref M, .int (nI a)] (mh h M a (fRowGoes f)) := by
  refine Sp.of 1 (by decide) (Nat.le_of_ble_eq_true rfl) rfl ?_
  refine j_iconst (v := nI 0) dX5_rowGoes_0 (by decide) ?_
  refine j_istore2 dX5_rowGoes_1 (by decide) trivial ?_
  refine dn (P := (fun R Q n => J cx mX5_rowGoes R (mh h M a (itr cbS n f)) 2 [some (.ref M), some (.int (nI a)), some (.int (nI n))] [] 0 0 Q) _ _) 60 ?_ ?_
  · refine j_iload2 dX5_rowGoes_2 ?_
    refine j_bipush (v := nI 60) dX5_rowGoes_3 (by decide) ?_
    refine j_icmpN_ge (tgt := 20) (by first | decide | omega) (by first | decide | omega) dX5_rowGoes_5 (by decide) (fun c5 => ?_) (fun c5 => by omega)
    refine j_aload0 dX5_rowGoes_20 ?_
    refine j_iload1 dX5_rowGoes_21 ?_
    refine j_bipush (v := nI 7) dX5_rowGoes_22 (by decide) ?_
    refine j_ldc2 dX5_rowGoes_24 wT_kl_X5_66 ?_
    refine cd_X5_62 rfl (s_set hM ha (by first | decide | exact ix_lt hs (by decide) | omega)) hM.1 dX5_rowGoes_27 rfl rfl ?_
    refine j_vret dX5_rowGoes_30 rfl ?_
    exact ⟨rfl, rfl⟩
  · intro s hs ih
    refine j_iload2 dX5_rowGoes_2 ?_
    refine j_bipush (v := nI 60) dX5_rowGoes_3 (by decide) ?_
    refine j_icmpN_ge (tgt := 20) (by first | decide | omega) (by first | decide | omega) dX5_rowGoes_5 (by decide) (fun c5 => by omega) (fun c5 => ?_)
    refine j_aload0 dX5_rowGoes_8 ?_
    refine j_iload1 dX5_rowGoes_9 ?_
    refine j_iload2 dX5_rowGoes_10 ?_
    refine cd_X5_85 rfl (s_comesBack hM ha hs) hM.1 dX5_rowGoes_11 rfl rfl ?_
    refine j_iincN2 dX5_rowGoes_14 (by decide) trivial ?_
    refine j_goto (tgt := 2) dX5_rowGoes_17 (by decide) ?_
    exact ih
theorem s_nobodySays (hM : MSh h.1 M) (ha : a < 40) : DV cx mX5_nobodySays 1 (mh h M a f) [.ref M, .int (nI a)] (mh h M a (itr nsS 60 f)) := by
  refine Sp.of 1 (by decide) (Nat.le_of_ble_eq_true rfl) rfl ?_
  refine j_iconst (v := nI 0) dX5_nobodySays_0 (by decide) ?_
  refine j_istore2 dX5_nobodySays_1 (by decide) trivial ?_
  refine dn (P := (fun R Q n => J cx mX5_nobodySays R (mh h M a (itr nsS n f)) 2 [some (.ref M), some (.int (nI a)), some (.int (nI n))] [] 0 0 Q) _ _) 60 ?_ ?_
  · refine j_iload2 dX5_nobodySays_2 ?_
    refine j_bipush (v := nI 60) dX5_nobodySays_3 (by decide) ?_
    refine j_icmpN_ge (tgt := 26) (by first | decide | omega) (by first | decide | omega) dX5_nobodySays_5 (by decide) (fun c5 => ?_) (fun c5 => by omega)
    refine j_vret dX5_nobodySays_26 rfl ?_
    exact ⟨rfl, rfl⟩
  · intro s hs ih
    refine j_iload2 dX5_nobodySays_2 ?_
    refine j_bipush (v := nI 60) dX5_nobodySays_3 (by decide) ?_
    refine j_icmpN_ge (tgt := 26) (by first | decide | omega) (by first | decide | omega) dX5_nobodySays_5 (by decide) (fun c5 => by omega) (fun c5 => ?_)
    refine j_aload0 dX5_nobodySays_8 ?_
    refine j_iload1 dX5_nobodySays_9 ?_
    refine j_iload2 dX5_nobodySays_10 ?_
    refine j_bipush (v := nI 16) dX5_nobodySays_11 (by decide) ?_
    refine cd_X5_37 rfl (s_at) dX5_nobodySays_13 rfl rfl ?_
    refine j_lconst (v := 0) dX5_nobodySays_16 (by decide) ?_
    refine cd_X5_62 rfl (s_set hM ha (by first | decide | exact ix_lt hs (by decide) | omega)) hM.1 dX5_nobodySays_17 rfl rfl ?_
    refine j_iincN2 dX5_nobodySays_20 (by decide) trivial ?_
    refine j_goto (tgt := 2) dX5_nobodySays_23 (by decide) ?_
    exact ih
theorem s_said (hM : MSh h.1 M) (ha : a < 40) : DL cx mX5_said 4 (mh h M a f) [.ref M, .int (nI a)] (said f 60) (mh h M a f) := by
  refine Sp.of 3 (by decide) (Nat.le_of_ble_eq_true rfl) rfl ?_
  refine j_lconst (v := 0) dX5_said_0 (by decide) ?_
  refine j_lstore2 dX5_said_1 (by decide) trivial ?_
  refine j_iconst (v := nI 0) dX5_said_2 (by decide) ?_
  refine j_istore4 dX5_said_3 (by decide) trivial ?_
  refine dn (P := (fun R Q n => J cx mX5_said R (mh h M a f) 5 [some (.ref M), some (.int (nI a)), some (.long (said f n)), none, some (.int (nI n))] [] 0 0 Q) _ _) 60 ?_ ?_
  · refine j_iload4 dX5_said_5 ?_
    refine j_bipush (v := nI 60) dX5_said_7 (by decide) ?_
    refine j_icmpN_ge (tgt := 47) (by first | decide | omega) (by first | decide | omega) dX5_said_9 (by decide) (fun c9 => ?_) (fun c9 => by omega)
    refine j_lload2 dX5_said_47 ?_
    refine j_lret dX5_said_48 rfl ?_
    exact ⟨_, rfl, rfl, rfl⟩
  · intro s hs ih
    have e : said f (s + 1) = said f s + (if isNe f s then f (ix s 16) else 0) := rfl
    rw [e] at ih
    refine j_iload4 dX5_said_5 ?_
    refine j_bipush (v := nI 60) dX5_said_7 (by decide) ?_
    refine j_icmpN_ge (tgt := 47) (by first | decide | omega) (by first | decide | omega) dX5_said_9 (by decide) (fun c9 => by omega) (fun c9 => ?_)
    refine j_lload2 dX5_said_12 ?_
    refine j_aload0 dX5_said_13 ?_
    refine j_iload1 dX5_said_14 ?_
    refine j_iload4 dX5_said_15 ?_
    refine cd_X5_57 rfl (s_isNeither hM ha hs) hM.1 dX5_said_17 rfl rfl ?_
    refine j_bif_eq (tgt := 38) dX5_said_20 (by decide) (fun c20 => ?_) (fun c20 => ?_)
    · refine j_lconst (v := 0) dX5_said_38 (by decide) ?_
      refine j_ladd dX5_said_39 ?_
      refine j_lstore2 dX5_said_40 (by decide) trivial ?_
      refine j_iincN4 dX5_said_41 (by decide) trivial ?_
      refine j_goto (tgt := 5) dX5_said_44 (by decide) ?_
      simpa [c20] using ih
    · refine j_aload0 dX5_said_23 ?_
      refine j_iload1 dX5_said_24 ?_
      refine j_iload4 dX5_said_25 ?_
      refine j_bipush (v := nI 16) dX5_said_27 (by decide) ?_
      refine cd_X5_37 rfl (s_at) dX5_said_29 rfl rfl ?_
      refine cd_X5_41 rfl (s_get hM ha (by first | decide | exact ix_lt hs (by decide) | omega)) hM.1 dX5_said_32 rfl rfl ?_
      refine j_goto (tgt := 39) dX5_said_35 (by decide) ?_
      refine j_ladd dX5_said_39 ?_
      refine j_lstore2 dX5_said_40 (by decide) trivial ?_
      refine j_iincN4 dX5_said_41 (by decide) trivial ?_
      refine j_goto (tgt := 5) dX5_said_44 (by decide) ?_
      simpa [c20] using ih
theorem s_neither (hM : MSh h.1 M) (ha : a < 40) : DL cx mX5_neither 4 (mh h M a f) [.ref M, .int (nI a)] (lN (cnt (isNe f) 60)) (mh h M a f) := by
  refine Sp.of 3 (by decide) (Nat.le_of_ble_eq_true rfl) rfl ?_
  refine j_lconst (v := 0) dX5_neither_0 (by decide) ?_
  refine j_lstore2 dX5_neither_1 (by decide) trivial ?_
  refine j_iconst (v := nI 0) dX5_neither_2 (by decide) ?_
  refine j_istore4 dX5_neither_3 (by decide) trivial ?_
  refine dn (P := (fun R Q n => J cx mX5_neither R (mh h M a f) 5 [some (.ref M), some (.int (nI a)), some (.long (lN (cnt (isNe f) n))), none, some (.int (nI n))] [] 0 0 Q) _ _) 60 ?_ ?_
  · refine j_iload4 dX5_neither_5 ?_
    refine j_bipush (v := nI 60) dX5_neither_7 (by decide) ?_
    refine j_icmpN_ge (tgt := 36) (by first | decide | omega) (by first | decide | omega) dX5_neither_9 (by decide) (fun c9 => ?_) (fun c9 => by omega)
    refine j_lload2 dX5_neither_36 ?_
    refine j_lret dX5_neither_37 rfl ?_
    exact ⟨_, rfl, rfl, rfl⟩
  · intro s hs ih
    have e : cnt (isNe f) (s + 1) = cnt (isNe f) s + (if isNe f s then 1 else 0) := rfl
    rw [e, ← lN_add] at ih
    refine j_iload4 dX5_neither_5 ?_
    refine j_bipush (v := nI 60) dX5_neither_7 (by decide) ?_
    refine j_icmpN_ge (tgt := 36) (by first | decide | omega) (by first | decide | omega) dX5_neither_9 (by decide) (fun c9 => by omega) (fun c9 => ?_)
    refine j_lload2 dX5_neither_12 ?_
    refine j_aload0 dX5_neither_13 ?_
    refine j_iload1 dX5_neither_14 ?_
    refine j_iload4 dX5_neither_15 ?_
    refine cd_X5_57 rfl (s_isNeither hM ha hs) hM.1 dX5_neither_17 rfl rfl ?_
    refine j_bif_eq (tgt := 27) dX5_neither_20 (by decide) (fun c20 => ?_) (fun c20 => ?_)
    · refine j_lconst (v := 0) dX5_neither_27 (by decide) ?_
      refine j_ladd dX5_neither_28 ?_
      refine j_lstore2 dX5_neither_29 (by decide) trivial ?_
      refine j_iincN4 dX5_neither_30 (by decide) trivial ?_
      refine j_goto (tgt := 5) dX5_neither_33 (by decide) ?_
      simpa [c20, lN_0, lN_o] using ih
    · refine j_lconst (v := 1) dX5_neither_23 (by decide) ?_
      refine j_goto (tgt := 28) dX5_neither_24 (by decide) ?_
      refine j_ladd dX5_neither_28 ?_
      refine j_lstore2 dX5_neither_29 (by decide) trivial ?_
      refine j_iincN4 dX5_neither_30 (by decide) trivial ?_
      refine j_goto (tgt := 5) dX5_neither_33 (by decide) ?_
      simpa [c20, lN_0, lN_o] using ih
theorem s_firstAble (hM : MSh h.1 M) (ha : a < 40) : DI cx mX5_firstAble 5 (mh h M a f) [.ref M, .int (nI a)] (match fnd (isAb f) 60 with | some s => nI s | none => -1) (mh h M a f) := by
  refine Sp.of 1 (by decide) (Nat.le_of_ble_eq_true rfl) rfl ?_
  refine j_iconst (v := nI 0) dX5_firstAble_0 (by decide) ?_
  refine j_istore2 dX5_firstAble_1 (by decide) trivial ?_
  refine dnI (I := fun n => fnd (isAb f) n = none) (P := (fun R Q n => J cx mX5_firstAble R (mh h M a f) 2 [some (.ref M), some (.int (nI a)), some (.int (nI n))] [] 0 0 Q) _ _) 60 rfl ?_ ?_
  · intro hn
    refine j_iload2 dX5_firstAble_2 ?_
    refine j_bipush (v := nI 60) dX5_firstAble_3 (by decide) ?_
    refine j_icmpN_ge (tgt := 25) (by first | decide | omega) (by first | decide | omega) dX5_firstAble_5 (by decide) (fun c5 => ?_) (fun c5 => by omega)
    refine j_iconst (v := (-1)) dX5_firstAble_25 (by decide) ?_
    refine j_iret dX5_firstAble_26 rfl rfl ?_
    exact ⟨_, rfl, by rw [hn], rfl⟩
  · intro s hs hf ih
    refine j_iload2 dX5_firstAble_2 ?_
    refine j_bipush (v := nI 60) dX5_firstAble_3 (by decide) ?_
    refine j_icmpN_ge (tgt := 25) (by first | decide | omega) (by first | decide | omega) dX5_firstAble_5 (by decide) (fun c5 => by omega) (fun c5 => ?_)
    refine j_aload0 dX5_firstAble_8 ?_
    refine j_iload1 dX5_firstAble_9 ?_
    refine j_iload2 dX5_firstAble_10 ?_
    refine cd_X5_114 rfl (s_isAble hM ha hs) hM.1 dX5_firstAble_11 rfl rfl ?_
    refine j_bif_eq (tgt := 19) dX5_firstAble_14 (by decide) (fun c14 => ?_) (fun c14 => ?_)
    · refine j_iincN2 dX5_firstAble_19 (by decide) trivial ?_
      refine j_goto (tgt := 2) dX5_firstAble_22 (by decide) ?_
      exact ih (by simp [fnd, hf, c14])
    · refine j_iload2 dX5_firstAble_17 ?_
      refine j_iret dX5_firstAble_18 rfl rfl ?_
      exact ⟨_, rfl, by rw [fnd_at hf c14 60 hs], rfl⟩
end

