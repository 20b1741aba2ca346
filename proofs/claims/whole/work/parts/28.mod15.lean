/-! the reference: count, copies, a new ring -/
def lst (p : Nat → Bool) : Nat → Option Nat
  | 0 => none
  | n + 1 => if p n then some n else lst p n
def isC (h : Hp) (M : Nat) (r : Int32) (c : Nat) : Bool := decide (h.i (M + 3) c = r)
theorem nI_dn (n : Nat) : nI n + Int32.ofInt (-1) = nI n - 1 := by
  rw [show Int32.ofInt (-1) = -1 from by decide, Int32.sub_eq_add_neg]
theorem m1_lt : (nI 0 - 1 : Int32) < 0 := by decide
theorem m1_eq : (nI 0 - 1 : Int32) = -1 := by decide
section
variable {cx : Cx} {h : Hp} {M a : Nat} {f : Fl}
theorem s_copiesOf {r : Int32} {c : Nat} (hM : MSh h.1 M) (hc : h.i M 4 = nI c) (hc6 : c ≤ 620) : DI cx mX5_copiesOf 0 h [.ref M, .int r] (nI (cnt (isC h M r) c)) h := by
  refine Sp.ofQ 2 (by decide) (Nat.le_of_ble_eq_true rfl) rfl (fun Q hQ => ?_)
  have L : J cx mX5_copiesOf (Rm 0 0 0) h 4 [some (.ref M), some (.int r), some (.int (nI 0)), some (.int (nI 0))] [] 0 0 Q := by
    refine dn (P := fun n => J cx mX5_copiesOf (Rm 0 0 0) h 4 [some (.ref M), some (.int r), some (.int (nI (cnt (isC h M r) n))), some (.int (nI n))] [] 0 0 Q) c ?_ ?_
    · refine j_iload3 (pc := 4) dX5_copiesOf_4 ?_
      refine j_aload0 (pc := 5) dX5_copiesOf_5 ?_
      refine g_X5_105 (pc := 6) rfl hM.1 dX5_copiesOf_6 ?_
      rw [hc]
      refine j_icmpN_ge (pc := 9) (tgt := 36) (by first | decide | omega) (by first | decide | omega) dX5_copiesOf_9 (by decide) (fun c9 => ?_) (fun c9 => by omega)
      refine j_iload2 (pc := 36) dX5_copiesOf_36 ?_
      refine j_iret (pc := 37) dX5_copiesOf_37 rfl rfl ?_
      exact hQ _ _ ⟨_, rfl, rfl, rfl⟩
    · intro n hn ih
      have e : cnt (isC h M r) (n + 1) = cnt (isC h M r) n + (if isC h M r n then 1 else 0) := rfl
      rw [e] at ih
      refine j_iload3 (pc := 4) dX5_copiesOf_4 ?_
      refine j_aload0 (pc := 5) dX5_copiesOf_5 ?_
      refine g_X5_105 (pc := 6) rfl hM.1 dX5_copiesOf_6 ?_
      rw [hc]
      refine j_icmpN_ge (pc := 9) (tgt := 36) (by first | decide | omega) (by first | decide | omega) dX5_copiesOf_9 (by decide) (fun c9 => by omega) (fun c9 => ?_)
      refine j_iload2 (pc := 12) dX5_copiesOf_12 ?_
      refine j_aload0 (pc := 13) dX5_copiesOf_13 ?_
      refine g_X5_18 (pc := 14) rfl hM.1 hM.2.2.2.1.1 dX5_copiesOf_14 ?_
      refine j_iload3 (pc := 17) dX5_copiesOf_17 ?_
      refine j_iald (pc := 18) hM.2.2.2.1.2 (pk_in n 620 (by omega) rfl) dX5_copiesOf_18 ?_
      rw [nI_clamp (by omega)]
      refine j_iload1 (pc := 19) dX5_copiesOf_19 ?_
      refine j_icmp_ne (pc := 20) (tgt := 27) dX5_copiesOf_20 (by decide) (fun c20 => ?_) (fun c20 => ?_)
      · refine j_iconst (pc := 27) (v := nI 0) dX5_copiesOf_27 (by decide) ?_
        refine j_iaddN (pc := 28) dX5_copiesOf_28 ?_
        refine j_istore2 (pc := 29) dX5_copiesOf_29 (by decide) trivial ?_
        refine j_iincN3 (pc := 30) dX5_copiesOf_30 (by decide) trivial ?_
        refine j_goto (pc := 33) (tgt := 4) dX5_copiesOf_33 (by decide) ?_
        first | (rw [if_pos (show isC h M r n = true from decide_eq_true c20)] at ih; exact ih) | (rw [if_neg (show ¬ isC h M r n = true from fun z => c20 (of_decide_eq_true z))] at ih; exact ih)
      · refine j_iconst (pc := 23) (v := nI 1) dX5_copiesOf_23 (by decide) ?_
        refine j_goto (pc := 24) (tgt := 28) dX5_copiesOf_24 (by decide) ?_
        refine j_iaddN (pc := 28) dX5_copiesOf_28 ?_
        refine j_istore2 (pc := 29) dX5_copiesOf_29 (by decide) trivial ?_
        refine j_iincN3 (pc := 30) dX5_copiesOf_30 (by decide) trivial ?_
        refine j_goto (pc := 33) (tgt := 4) dX5_copiesOf_33 (by decide) ?_
        first | (rw [if_pos (show isC h M r n = true from decide_eq_true c20)] at ih; exact ih) | (rw [if_neg (show ¬ isC h M r n = true from fun z => c20 (of_decide_eq_true z))] at ih; exact ih)
  refine j_iconst (pc := 0) (v := nI 0) dX5_copiesOf_0 (by decide) ?_
  refine j_istore2 (pc := 1) dX5_copiesOf_1 (by decide) trivial ?_
  refine j_iconst (pc := 2) (v := nI 0) dX5_copiesOf_2 (by decide) ?_
  refine j_istore3 (pc := 3) dX5_copiesOf_3 (by decide) trivial ?_
  exact L
theorem s_latestCopy {r : Int32} {c : Nat} (hM : MSh h.1 M) (hc : h.i M 4 = nI c) (hc6 : c ≤ 620) : DI cx mX5_latestCopy 0 h [.ref M, .int r] (woI (lst (isC h M r) c)) h := by
  refine Sp.ofQ 1 (by decide) (Nat.le_of_ble_eq_true rfl) rfl (fun Q hQ => ?_)
  have L : ∀ n, n ≤ c → lst (isC h M r) n = lst (isC h M r) c → J cx mX5_latestCopy (Rm 0 0 0) h 7 [some (.ref M), some (.int r), some (.int (nI n - 1))] [] 0 0 Q := by
    intro n
    induction n with
    | zero =>
      intro _ he
      refine j_iload2 (pc := 7) dX5_latestCopy_7 ?_
      refine j_if_lt (pc := 8) (tgt := 27) dX5_latestCopy_8 (by decide) (fun c8 => ?_) (fun c8 => by exact absurd m1_lt c8)
      refine j_iload2 (pc := 27) dX5_latestCopy_27 ?_
      refine j_iret (pc := 28) dX5_latestCopy_28 rfl rfl ?_
      exact hQ _ _ ⟨_, rfl, by rw [← he]; exact m1_eq, rfl⟩
    | succ n ih =>
      intro hn he
      rw [nI_pred]
      refine j_iload2 (pc := 7) dX5_latestCopy_7 ?_
      refine j_if_lt (pc := 8) (tgt := 27) dX5_latestCopy_8 (by decide) (fun c8 => by exact absurd c8 (nI_pos (by omega))) (fun c8 => ?_)
      refine j_aload0 (pc := 11) dX5_latestCopy_11 ?_
      refine g_X5_18 (pc := 12) rfl hM.1 hM.2.2.2.1.1 dX5_latestCopy_12 ?_
      refine j_iload2 (pc := 15) dX5_latestCopy_15 ?_
      refine j_iald (pc := 16) hM.2.2.2.1.2 (pk_in n 620 (by omega) rfl) dX5_latestCopy_16 ?_
      rw [nI_clamp (by omega)]
      refine j_iload1 (pc := 17) dX5_latestCopy_17 ?_
      refine j_icmp_eq (pc := 18) (tgt := 27) dX5_latestCopy_18 (by decide) (fun c18 => ?_) (fun c18 => ?_)
      · refine j_iload2 (pc := 27) dX5_latestCopy_27 ?_
        refine j_iret (pc := 28) dX5_latestCopy_28 rfl rfl ?_
        exact hQ _ _ ⟨_, rfl, by rw [← he]; unfold lst; rw [if_pos (show isC h M r n = true from decide_eq_true c18)]; rfl, rfl⟩
      · refine j_iinc2 (pc := 21) dX5_latestCopy_21 (by decide) trivial ?_
        rw [nI_dn]
        refine j_goto (pc := 24) (tgt := 7) dX5_latestCopy_24 (by decide) ?_
        exact ih (by omega) (by rw [← he]; show _ = (if isC h M r n then some n else lst (isC h M r) n); rw [if_neg (show ¬ isC h M r n = true from fun z => c18 (of_decide_eq_true z))])
  refine j_aload0 (pc := 0) dX5_latestCopy_0 ?_
  refine g_X5_105 (pc := 1) rfl hM.1 dX5_latestCopy_1 ?_
  rw [hc]
  refine j_iconst (pc := 4) (v := 1) dX5_latestCopy_4 (by decide) ?_
  refine j_isub (pc := 5) dX5_latestCopy_5 ?_
  refine j_istore2 (pc := 6) dX5_latestCopy_6 (by decide) trivial ?_
  exact L c (Nat.le_refl c) rfl
theorem sb_count {r w : Int32} (hM : MSh h.1 M) (h1 : ¬ r = -1) (hr : isRi h M r = false) : DL cx mX5_count 5 h [.ref M, .int r, .int w] (-1) h := by
  refine Sp.of 0 (by decide) (Nat.le_of_ble_eq_true rfl) rfl ?_
  refine j_iload1 (pc := 0) dX5_count_0 ?_
  refine j_iconst (pc := 1) (v := (-1)) dX5_count_1 (by decide) ?_
  refine j_icmp_ne (pc := 2) (tgt := 34) dX5_count_2 (by decide) (fun c2 => ?_) (fun c2 => by exact absurd c2 h1)
  refine j_aload0 (pc := 34) dX5_count_34 ?_
  refine j_iload1 (pc := 35) dX5_count_35 ?_
  refine cd_X5_68 (pc := 36) rfl (s_isRing _ hM) hM.1 dX5_count_36 rfl rfl ?_
  refine j_bif_ne (pc := 39) (tgt := 46) dX5_count_39 (by decide) (fun c39 => by exact nb c39 hr) (fun c39 => ?_)
  refine j_ldc2 (pc := 42) dX5_count_42 wT_kl_X5_66 ?_
  refine j_lret (pc := 45) dX5_count_45 rfl ?_
  exact ⟨_, rfl, rfl, rfl⟩
def fCnt0 (h : Hp) (M : Nat) (w : Int32) : Int64 := if w = 0 then (h.i M 1).toInt64 else if w = 1 then (h.i M 7).toInt64 else -1
theorem s_count0 {w : Int32} (hM : MSh h.1 M) : DL cx mX5_count 5 h [.ref M, .int (-1), .int w] (fCnt0 h M w) h := by
  refine Sp.of 0 (by decide) (Nat.le_of_ble_eq_true rfl) rfl ?_
  refine j_iload1 (pc := 0) dX5_count_0 ?_
  refine j_iconst (pc := 1) (v := (-1)) dX5_count_1 (by decide) ?_
  refine j_icmp_ne (pc := 2) (tgt := 34) dX5_count_2 (by decide) (fun c2 => by exact absurd rfl c2) (fun c2 => ?_)
  refine j_iload2 (pc := 5) dX5_count_5 ?_
  refine j_if_ne (pc := 6) (tgt := 17) dX5_count_6 (by decide) (fun c6 => ?_) (fun c6 => ?_)
  · refine j_iload2 (pc := 17) dX5_count_17 ?_
    refine j_iconst (pc := 18) (v := 1) dX5_count_18 (by decide) ?_
    refine j_icmp_ne (pc := 19) (tgt := 30) dX5_count_19 (by decide) (fun c19 => ?_) (fun c19 => ?_)
    · refine j_ldc2 (pc := 30) dX5_count_30 wT_kl_X5_66 ?_
      refine j_lret (pc := 33) dX5_count_33 rfl ?_
      exact ⟨_, rfl, by simp_all [fCnt0], rfl⟩
    · refine j_aload0 (pc := 22) dX5_count_22 ?_
      refine g_X5_176 (pc := 23) rfl hM.1 dX5_count_23 ?_
      refine j_i2l (pc := 26) dX5_count_26 ?_
      refine j_goto (pc := 27) (tgt := 33) dX5_count_27 (by decide) ?_
      refine j_lret (pc := 33) dX5_count_33 rfl ?_
      exact ⟨_, rfl, by simp_all [fCnt0], rfl⟩
  · refine j_aload0 (pc := 9) dX5_count_9 ?_
    refine g_X5_29 (pc := 10) rfl hM.1 dX5_count_10 ?_
    refine j_i2l (pc := 13) dX5_count_13 ?_
    refine j_goto (pc := 14) (tgt := 33) dX5_count_14 (by decide) ?_
    refine j_lret (pc := 33) dX5_count_33 rfl ?_
    exact ⟨_, rfl, by simp_all [fCnt0], rfl⟩
theorem fCount_out {f : Fl} {cop : Int64} {w : Int32} (hw : w.toInt < 0 ∨ 13 < w.toInt) : fCount f cop w = -1 := by
  unfold fCount
  have hne : ∀ k : Nat, k ≤ 13 → ¬ w = nI k := by
    intro k hk e
    rw [e, nI_toInt (by omega)] at hw
    omega
  rw [if_neg (show ¬ w = 0 from hne 0 (by omega)), if_neg (show ¬ w = 1 from hne 1 (by omega)), if_neg (show ¬ w = 2 from hne 2 (by omega)), if_neg (show ¬ w = 3 from hne 3 (by omega)), if_neg (show ¬ w = 4 from hne 4 (by omega)), if_neg (show ¬ w = 5 from hne 5 (by omega)), if_neg (show ¬ w = 6 from hne 6 (by omega)), if_neg (show ¬ w = 7 from hne 7 (by omega)), if_neg (show ¬ w = 8 from hne 8 (by omega)), if_neg (show ¬ w = 9 from hne 9 (by omega)), if_neg (show ¬ w = 10 from hne 10 (by omega)), if_neg (show ¬ w = 11 from hne 11 (by omega)), if_neg (show ¬ w = 12 from hne 12 (by omega)), if_neg (show ¬ w = 13 from hne 13 (by omega))]
theorem s_count {w : Int32} {c : Nat} (hM : MSh h.1 M) (ha : a < 40) (hr : isRi h M (nI a) = true) (hc : h.i M 4 = nI c) (hc6 : c ≤ 620) : DL cx mX5_count 5 (mh h M a f) [.ref M, .int (nI a), .int w] (fCount f (lN (cnt (isC h M (nI a)) c)) w) (mh h M a f) := by
  have hn1 : ¬ nI a = -1 := nI_ne (by omega)
  have hcc := cnt_le (isC h M (nI a)) c
  by_cases hw : w.toInt < 0 ∨ 13 < w.toInt
  · rw [fCount_out hw]
    refine Sp.of 0 (by decide) (Nat.le_of_ble_eq_true rfl) rfl ?_
    refine j_iload1 (pc := 0) dX5_count_0 ?_
    refine j_iconst (pc := 1) (v := (-1)) dX5_count_1 (by decide) ?_
    refine j_icmp_ne (pc := 2) (tgt := 34) dX5_count_2 (by decide) (fun c2 => ?_) (fun c2 => by exact absurd c2 hn1)
    refine j_aload0 (pc := 34) dX5_count_34 ?_
    refine j_iload1 (pc := 35) dX5_count_35 ?_
    refine cd_X5_68 (pc := 36) rfl (s_isRing _ hM) hM.1 dX5_count_36 rfl rfl ?_
    refine j_bif_ne (pc := 39) (tgt := 46) dX5_count_39 (by decide) (fun c39 => ?_) (fun c39 => by exact nb hr c39)
    refine j_iload2 (pc := 46) dX5_count_46 ?_
    refine j_tabOut (tgt := 219) dX5_count_47 hw (by decide) ?_
    refine j_ldc2 (pc := 219) dX5_count_219 wT_kl_X5_66 ?_
    refine j_lret (pc := 222) dX5_count_222 rfl ?_
    exact ⟨_, rfl, rfl, rfl⟩
  · obtain ⟨k, hk, rfl⟩ : ∃ k : Nat, k < 14 ∧ w = nI k := by
      rcases pk_ix w (n := 14) (by decide) with z | z | z
      · exact absurd (Or.inl (Int32.lt_iff_toInt_lt.mp z)) hw
      · have := Int32.le_iff_toInt_le.mp z
        rw [nI_toInt (by decide)] at this
        exact absurd (Or.inr (by omega)) hw
      · exact z
    rcases (show k = 0 ∨ k = 1 ∨ k = 2 ∨ k = 3 ∨ k = 4 ∨ k = 5 ∨ k = 6 ∨ k = 7 ∨ k = 8 ∨ k = 9 ∨ k = 10 ∨ k = 11 ∨ k = 12 ∨ k = 13 by omega) with rfl | rfl | rfl | rfl | rfl | rfl | rfl | rfl | rfl | rfl | rfl | rfl | rfl | rfl
    · refine Sp.of 0 (by decide) (Nat.le_of_ble_eq_true rfl) rfl ?_
      refine j_iload1 (pc := 0) dX5_count_0 ?_
      refine j_iconst (pc := 1) (v := (-1)) dX5_count_1 (by decide) ?_
      refine j_icmp_ne (pc := 2) (tgt := 34) dX5_count_2 (by decide) (fun c2 => ?_) (fun c2 => by exact absurd c2 hn1)
      refine j_aload0 (pc := 34) dX5_count_34 ?_
      refine j_iload1 (pc := 35) dX5_count_35 ?_
      refine cd_X5_68 (pc := 36) rfl (s_isRing _ hM) hM.1 dX5_count_36 rfl rfl ?_
      refine j_bif_ne (pc := 39) (tgt := 46) dX5_count_39 (by decide) (fun c39 => ?_) (fun c39 => by exact nb hr c39)
      refine j_iload2 (pc := 46) dX5_count_46 ?_
      refine j_tabIn (off := 69) (tgt := 116) dX5_count_47 (by decide) (by decide) (by decide) (by decide) ?_
      refine j_aload0 (pc := 116) dX5_count_116 ?_
      refine j_iload1 (pc := 117) dX5_count_117 ?_
      refine j_iconst (pc := 118) (v := nI 0) dX5_count_118 (by decide) ?_
      refine cd_X5_41 (pc := 119) rfl (s_get hM ha (by first | decide | exact ix_lt hs (by decide) | omega)) hM.1 dX5_count_119 rfl rfl ?_
      refine j_lret (pc := 122) dX5_count_122 rfl ?_
      exact ⟨_, rfl, rfl, rfl⟩
    · refine Sp.of 0 (by decide) (Nat.le_of_ble_eq_true rfl) rfl ?_
      refine j_iload1 (pc := 0) dX5_count_0 ?_
      refine j_iconst (pc := 1) (v := (-1)) dX5_count_1 (by decide) ?_
      refine j_icmp_ne (pc := 2) (tgt := 34) dX5_count_2 (by decide) (fun c2 => ?_) (fun c2 => by exact absurd c2 hn1)
      refine j_aload0 (pc := 34) dX5_count_34 ?_
      refine j_iload1 (pc := 35) dX5_count_35 ?_
      refine cd_X5_68 (pc := 36) rfl (s_isRing _ hM) hM.1 dX5_count_36 rfl rfl ?_
      refine j_bif_ne (pc := 39) (tgt := 46) dX5_count_39 (by decide) (fun c39 => ?_) (fun c39 => by exact nb hr c39)
      refine j_iload2 (pc := 46) dX5_count_46 ?_
      refine j_tabIn (off := 76) (tgt := 123) dX5_count_47 (by decide) (by decide) (by decide) (by decide) ?_
      refine j_aload0 (pc := 123) dX5_count_123 ?_
      refine j_iload1 (pc := 124) dX5_count_124 ?_
      refine j_iconst (pc := 125) (v := nI 1) dX5_count_125 (by decide) ?_
      refine cd_X5_41 (pc := 126) rfl (s_get hM ha (by first | decide | exact ix_lt hs (by decide) | omega)) hM.1 dX5_count_126 rfl rfl ?_
      refine j_lret (pc := 129) dX5_count_129 rfl ?_
      exact ⟨_, rfl, rfl, rfl⟩
    · refine Sp.of 0 (by decide) (Nat.le_of_ble_eq_true rfl) rfl ?_
      refine j_iload1 (pc := 0) dX5_count_0 ?_
      refine j_iconst (pc := 1) (v := (-1)) dX5_count_1 (by decide) ?_
      refine j_icmp_ne (pc := 2) (tgt := 34) dX5_count_2 (by decide) (fun c2 => ?_) (fun c2 => by exact absurd c2 hn1)
      refine j_aload0 (pc := 34) dX5_count_34 ?_
      refine j_iload1 (pc := 35) dX5_count_35 ?_
      refine cd_X5_68 (pc := 36) rfl (s_isRing _ hM) hM.1 dX5_count_36 rfl rfl ?_
      refine j_bif_ne (pc := 39) (tgt := 46) dX5_count_39 (by decide) (fun c39 => ?_) (fun c39 => by exact nb hr c39)
      refine j_iload2 (pc := 46) dX5_count_46 ?_
      refine j_tabIn (off := 83) (tgt := 130) dX5_count_47 (by decide) (by decide) (by decide) (by decide) ?_
      refine j_aload0 (pc := 130) dX5_count_130 ?_
      refine j_iload1 (pc := 131) dX5_count_131 ?_
      refine j_iconst (pc := 132) (v := nI 2) dX5_count_132 (by decide) ?_
      refine cd_X5_41 (pc := 133) rfl (s_get hM ha (by first | decide | exact ix_lt hs (by decide) | omega)) hM.1 dX5_count_133 rfl rfl ?_
      refine j_lret (pc := 136) dX5_count_136 rfl ?_
      exact ⟨_, rfl, rfl, rfl⟩
    · refine Sp.of 0 (by decide) (Nat.le_of_ble_eq_true rfl) rfl ?_
      refine j_iload1 (pc := 0) dX5_count_0 ?_
      refine j_iconst (pc := 1) (v := (-1)) dX5_count_1 (by decide) ?_
      refine j_icmp_ne (pc := 2) (tgt := 34) dX5_count_2 (by decide) (fun c2 => ?_) (fun c2 => by exact absurd c2 hn1)
      refine j_aload0 (pc := 34) dX5_count_34 ?_
      refine j_iload1 (pc := 35) dX5_count_35 ?_
      refine cd_X5_68 (pc := 36) rfl (s_isRing _ hM) hM.1 dX5_count_36 rfl rfl ?_
      refine j_bif_ne (pc := 39) (tgt := 46) dX5_count_39 (by decide) (fun c39 => ?_) (fun c39 => by exact nb hr c39)
      refine j_iload2 (pc := 46) dX5_count_46 ?_
      refine j_tabIn (off := 90) (tgt := 137) dX5_count_47 (by decide) (by decide) (by decide) (by decide) ?_
      refine j_aload0 (pc := 137) dX5_count_137 ?_
      refine j_iload1 (pc := 138) dX5_count_138 ?_
      refine j_iconst (pc := 139) (v := nI 3) dX5_count_139 (by decide) ?_
      refine cd_X5_41 (pc := 140) rfl (s_get hM ha (by first | decide | exact ix_lt hs (by decide) | omega)) hM.1 dX5_count_140 rfl rfl ?_
      refine j_lret (pc := 143) dX5_count_143 rfl ?_
      exact ⟨_, rfl, rfl, rfl⟩
    · refine Sp.of 0 (by decide) (Nat.le_of_ble_eq_true rfl) rfl ?_
      refine j_iload1 (pc := 0) dX5_count_0 ?_
      refine j_iconst (pc := 1) (v := (-1)) dX5_count_1 (by decide) ?_
      refine j_icmp_ne (pc := 2) (tgt := 34) dX5_count_2 (by decide) (fun c2 => ?_) (fun c2 => by exact absurd c2 hn1)
      refine j_aload0 (pc := 34) dX5_count_34 ?_
      refine j_iload1 (pc := 35) dX5_count_35 ?_
      refine cd_X5_68 (pc := 36) rfl (s_isRing _ hM) hM.1 dX5_count_36 rfl rfl ?_
      refine j_bif_ne (pc := 39) (tgt := 46) dX5_count_39 (by decide) (fun c39 => ?_) (fun c39 => by exact nb hr c39)
      refine j_iload2 (pc := 46) dX5_count_46 ?_
      refine j_tabIn (off := 97) (tgt := 144) dX5_count_47 (by decide) (by decide) (by decide) (by decide) ?_
      refine j_aload0 (pc := 144) dX5_count_144 ?_
      refine j_iload1 (pc := 145) dX5_count_145 ?_
      refine j_iconst (pc := 146) (v := nI 4) dX5_count_146 (by decide) ?_
      refine cd_X5_41 (pc := 147) rfl (s_get hM ha (by first | decide | exact ix_lt hs (by decide) | omega)) hM.1 dX5_count_147 rfl rfl ?_
      refine j_lret (pc := 150) dX5_count_150 rfl ?_
      exact ⟨_, rfl, rfl, rfl⟩
    · refine Sp.of 0 (by decide) (Nat.le_of_ble_eq_true rfl) rfl ?_
      refine j_iload1 (pc := 0) dX5_count_0 ?_
      refine j_iconst (pc := 1) (v := (-1)) dX5_count_1 (by decide) ?_
      refine j_icmp_ne (pc := 2) (tgt := 34) dX5_count_2 (by decide) (fun c2 => ?_) (fun c2 => by exact absurd c2 hn1)
      refine j_aload0 (pc := 34) dX5_count_34 ?_
      refine j_iload1 (pc := 35) dX5_count_35 ?_
      refine cd_X5_68 (pc := 36) rfl (s_isRing _ hM) hM.1 dX5_count_36 rfl rfl ?_
      refine j_bif_ne (pc := 39) (tgt := 46) dX5_count_39 (by decide) (fun c39 => ?_) (fun c39 => by exact nb hr c39)
      refine j_iload2 (pc := 46) dX5_count_46 ?_
      refine j_tabIn (off := 104) (tgt := 151) dX5_count_47 (by decide) (by decide) (by decide) (by decide) ?_
      refine j_aload0 (pc := 151) dX5_count_151 ?_
      refine j_iload1 (pc := 152) dX5_count_152 ?_
      refine j_iconst (pc := 153) (v := nI 5) dX5_count_153 (by decide) ?_
      refine cd_X5_41 (pc := 154) rfl (s_get hM ha (by first | decide | exact ix_lt hs (by decide) | omega)) hM.1 dX5_count_154 rfl rfl ?_
      refine j_lret (pc := 157) dX5_count_157 rfl ?_
      exact ⟨_, rfl, rfl, rfl⟩
    · refine Sp.of 0 (by decide) (Nat.le_of_ble_eq_true rfl) rfl ?_
      refine j_iload1 (pc := 0) dX5_count_0 ?_
      refine j_iconst (pc := 1) (v := (-1)) dX5_count_1 (by decide) ?_
      refine j_icmp_ne (pc := 2) (tgt := 34) dX5_count_2 (by decide) (fun c2 => ?_) (fun c2 => by exact absurd c2 hn1)
      refine j_aload0 (pc := 34) dX5_count_34 ?_
      refine j_iload1 (pc := 35) dX5_count_35 ?_
      refine cd_X5_68 (pc := 36) rfl (s_isRing _ hM) hM.1 dX5_count_36 rfl rfl ?_
      refine j_bif_ne (pc := 39) (tgt := 46) dX5_count_39 (by decide) (fun c39 => ?_) (fun c39 => by exact nb hr c39)
      refine j_iload2 (pc := 46) dX5_count_46 ?_
      refine j_tabIn (off := 111) (tgt := 158) dX5_count_47 (by decide) (by decide) (by decide) (by decide) ?_
      refine j_aload0 (pc := 158) dX5_count_158 ?_
      refine j_iload1 (pc := 159) dX5_count_159 ?_
      refine j_bipush (pc := 160) (v := nI 6) dX5_count_160 (by decide) ?_
      refine cd_X5_41 (pc := 162) rfl (s_get hM ha (by first | decide | exact ix_lt hs (by decide) | omega)) hM.1 dX5_count_162 rfl rfl ?_
      refine j_lret (pc := 165) dX5_count_165 rfl ?_
      exact ⟨_, rfl, rfl, rfl⟩
    · refine Sp.of 0 (by decide) (Nat.le_of_ble_eq_true rfl) rfl ?_
      refine j_iload1 (pc := 0) dX5_count_0 ?_
      refine j_iconst (pc := 1) (v := (-1)) dX5_count_1 (by decide) ?_
      refine j_icmp_ne (pc := 2) (tgt := 34) dX5_count_2 (by decide) (fun c2 => ?_) (fun c2 => by exact absurd c2 hn1)
      refine j_aload0 (pc := 34) dX5_count_34 ?_
      refine j_iload1 (pc := 35) dX5_count_35 ?_
      refine cd_X5_68 (pc := 36) rfl (s_isRing _ hM) hM.1 dX5_count_36 rfl rfl ?_
      refine j_bif_ne (pc := 39) (tgt := 46) dX5_count_39 (by decide) (fun c39 => ?_) (fun c39 => by exact nb hr c39)
      refine j_iload2 (pc := 46) dX5_count_46 ?_
      refine j_tabIn (off := 119) (tgt := 166) dX5_count_47 (by decide) (by decide) (by decide) (by decide) ?_
      refine j_aload0 (pc := 166) dX5_count_166 ?_
      refine j_iload1 (pc := 167) dX5_count_167 ?_
      refine j_bipush (pc := 168) (v := nI 7) dX5_count_168 (by decide) ?_
      refine cd_X5_41 (pc := 170) rfl (s_get hM ha (by first | decide | exact ix_lt hs (by decide) | omega)) hM.1 dX5_count_170 rfl rfl ?_
      refine j_lret (pc := 173) dX5_count_173 rfl ?_
      exact ⟨_, rfl, rfl, rfl⟩
    · refine Sp.of 0 (by decide) (Nat.le_of_ble_eq_true rfl) rfl ?_
      refine j_iload1 (pc := 0) dX5_count_0 ?_
      refine j_iconst (pc := 1) (v := (-1)) dX5_count_1 (by decide) ?_
      refine j_icmp_ne (pc := 2) (tgt := 34) dX5_count_2 (by decide) (fun c2 => ?_) (fun c2 => by exact absurd c2 hn1)
      refine j_aload0 (pc := 34) dX5_count_34 ?_
      refine j_iload1 (pc := 35) dX5_count_35 ?_
      refine cd_X5_68 (pc := 36) rfl (s_isRing _ hM) hM.1 dX5_count_36 rfl rfl ?_
      refine j_bif_ne (pc := 39) (tgt := 46) dX5_count_39 (by decide) (fun c39 => ?_) (fun c39 => by exact nb hr c39)
      refine j_iload2 (pc := 46) dX5_count_46 ?_
      refine j_tabIn (off := 127) (tgt := 174) dX5_count_47 (by decide) (by decide) (by decide) (by decide) ?_
      refine j_aload0 (pc := 174) dX5_count_174 ?_
      refine j_iload1 (pc := 175) dX5_count_175 ?_
      refine j_bipush (pc := 176) (v := nI 8) dX5_count_176 (by decide) ?_
      refine cd_X5_41 (pc := 178) rfl (s_get hM ha (by first | decide | exact ix_lt hs (by decide) | omega)) hM.1 dX5_count_178 rfl rfl ?_
      refine j_lret (pc := 181) dX5_count_181 rfl ?_
      exact ⟨_, rfl, rfl, rfl⟩
    · refine Sp.of 0 (by decide) (Nat.le_of_ble_eq_true rfl) rfl ?_
      refine j_iload1 (pc := 0) dX5_count_0 ?_
      refine j_iconst (pc := 1) (v := (-1)) dX5_count_1 (by decide) ?_
      refine j_icmp_ne (pc := 2) (tgt := 34) dX5_count_2 (by decide) (fun c2 => ?_) (fun c2 => by exact absurd c2 hn1)
      refine j_aload0 (pc := 34) dX5_count_34 ?_
      refine j_iload1 (pc := 35) dX5_count_35 ?_
      refine cd_X5_68 (pc := 36) rfl (s_isRing _ hM) hM.1 dX5_count_36 rfl rfl ?_
      refine j_bif_ne (pc := 39) (tgt := 46) dX5_count_39 (by decide) (fun c39 => ?_) (fun c39 => by exact nb hr c39)
      refine j_iload2 (pc := 46) dX5_count_46 ?_
      refine j_tabIn (off := 135) (tgt := 182) dX5_count_47 (by decide) (by decide) (by decide) (by decide) ?_
      refine j_aload0 (pc := 182) dX5_count_182 ?_
      refine j_iload1 (pc := 183) dX5_count_183 ?_
      refine j_bipush (pc := 184) (v := nI 9) dX5_count_184 (by decide) ?_
      refine cd_X5_41 (pc := 186) rfl (s_get hM ha (by first | decide | exact ix_lt hs (by decide) | omega)) hM.1 dX5_count_186 rfl rfl ?_
      refine j_lret (pc := 189) dX5_count_189 rfl ?_
      exact ⟨_, rfl, rfl, rfl⟩
    · refine Sp.of 0 (by decide) (Nat.le_of_ble_eq_true rfl) rfl ?_
      refine j_iload1 (pc := 0) dX5_count_0 ?_
      refine j_iconst (pc := 1) (v := (-1)) dX5_count_1 (by decide) ?_
      refine j_icmp_ne (pc := 2) (tgt := 34) dX5_count_2 (by decide) (fun c2 => ?_) (fun c2 => by exact absurd c2 hn1)
      refine j_aload0 (pc := 34) dX5_count_34 ?_
      refine j_iload1 (pc := 35) dX5_count_35 ?_
      refine cd_X5_68 (pc := 36) rfl (s_isRing _ hM) hM.1 dX5_count_36 rfl rfl ?_
      refine j_bif_ne (pc := 39) (tgt := 46) dX5_count_39 (by decide) (fun c39 => ?_) (fun c39 => by exact nb hr c39)
      refine j_iload2 (pc := 46) dX5_count_46 ?_
      refine j_tabIn (off := 143) (tgt := 190) dX5_count_47 (by decide) (by decide) (by decide) (by decide) ?_
      refine j_aload0 (pc := 190) dX5_count_190 ?_
      refine j_iload1 (pc := 191) dX5_count_191 ?_
      refine cd_X5_121 (pc := 192) rfl (s_said hM ha) hM.1 dX5_count_192 rfl rfl ?_
      refine j_lret (pc := 195) dX5_count_195 rfl ?_
      exact ⟨_, rfl, rfl, rfl⟩
    · refine Sp.of 0 (by decide) (Nat.le_of_ble_eq_true rfl) rfl ?_
      refine j_iload1 (pc := 0) dX5_count_0 ?_
      refine j_iconst (pc := 1) (v := (-1)) dX5_count_1 (by decide) ?_
      refine j_icmp_ne (pc := 2) (tgt := 34) dX5_count_2 (by decide) (fun c2 => ?_) (fun c2 => by exact absurd c2 hn1)
      refine j_aload0 (pc := 34) dX5_count_34 ?_
      refine j_iload1 (pc := 35) dX5_count_35 ?_
      refine cd_X5_68 (pc := 36) rfl (s_isRing _ hM) hM.1 dX5_count_36 rfl rfl ?_
      refine j_bif_ne (pc := 39) (tgt := 46) dX5_count_39 (by decide) (fun c39 => ?_) (fun c39 => by exact nb hr c39)
      refine j_iload2 (pc := 46) dX5_count_46 ?_
      refine j_tabIn (off := 149) (tgt := 196) dX5_count_47 (by decide) (by decide) (by decide) (by decide) ?_
      refine j_aload0 (pc := 196) dX5_count_196 ?_
      refine j_iload1 (pc := 197) dX5_count_197 ?_
      refine j_bipush (pc := 198) (v := nI 10) dX5_count_198 (by decide) ?_
      refine cd_X5_41 (pc := 200) rfl (s_get hM ha (by first | decide | exact ix_lt hs (by decide) | omega)) hM.1 dX5_count_200 rfl rfl ?_
      refine j_lret (pc := 203) dX5_count_203 rfl ?_
      exact ⟨_, rfl, rfl, rfl⟩
    · refine Sp.of 0 (by decide) (Nat.le_of_ble_eq_true rfl) rfl ?_
      refine j_iload1 (pc := 0) dX5_count_0 ?_
      refine j_iconst (pc := 1) (v := (-1)) dX5_count_1 (by decide) ?_
      refine j_icmp_ne (pc := 2) (tgt := 34) dX5_count_2 (by decide) (fun c2 => ?_) (fun c2 => by exact absurd c2 hn1)
      refine j_aload0 (pc := 34) dX5_count_34 ?_
      refine j_iload1 (pc := 35) dX5_count_35 ?_
      refine cd_X5_68 (pc := 36) rfl (s_isRing _ hM) hM.1 dX5_count_36 rfl rfl ?_
      refine j_bif_ne (pc := 39) (tgt := 46) dX5_count_39 (by decide) (fun c39 => ?_) (fun c39 => by exact nb hr c39)
      refine j_iload2 (pc := 46) dX5_count_46 ?_
      refine j_tabIn (off := 157) (tgt := 204) dX5_count_47 (by decide) (by decide) (by decide) (by decide) ?_
      refine j_aload0 (pc := 204) dX5_count_204 ?_
      refine j_iload1 (pc := 205) dX5_count_205 ?_
      refine cd_X5_182 (pc := 206) rfl (s_copiesOf (h := mh h M a f) (c := c) hM hc hc6) hM.1 dX5_count_206 rfl rfl ?_
      have hcc2 := cnt_le (isC (mh h M a f) M (nI a)) c
      refine j_i2lN (pc := 209) (by first | decide | omega) dX5_count_209 ?_
      refine j_lret (pc := 210) dX5_count_210 rfl ?_
      exact ⟨_, rfl, rfl, rfl⟩
    · refine Sp.of 0 (by decide) (Nat.le_of_ble_eq_true rfl) rfl ?_
      refine j_iload1 (pc := 0) dX5_count_0 ?_
      refine j_iconst (pc := 1) (v := (-1)) dX5_count_1 (by decide) ?_
      refine j_icmp_ne (pc := 2) (tgt := 34) dX5_count_2 (by decide) (fun c2 => ?_) (fun c2 => by exact absurd c2 hn1)
      refine j_aload0 (pc := 34) dX5_count_34 ?_
      refine j_iload1 (pc := 35) dX5_count_35 ?_
      refine cd_X5_68 (pc := 36) rfl (s_isRing _ hM) hM.1 dX5_count_36 rfl rfl ?_
      refine j_bif_ne (pc := 39) (tgt := 46) dX5_count_39 (by decide) (fun c39 => ?_) (fun c39 => by exact nb hr c39)
      refine j_iload2 (pc := 46) dX5_count_46 ?_
      refine j_tabIn (off := 164) (tgt := 211) dX5_count_47 (by decide) (by decide) (by decide) (by decide) ?_
      refine j_aload0 (pc := 211) dX5_count_211 ?_
      refine j_iload1 (pc := 212) dX5_count_212 ?_
      refine j_bipush (pc := 213) (v := nI 11) dX5_count_213 (by decide) ?_
      refine cd_X5_41 (pc := 215) rfl (s_get hM ha (by first | decide | exact ix_lt hs (by decide) | omega)) hM.1 dX5_count_215 rfl rfl ?_
      refine j_lret (pc := 218) dX5_count_218 rfl ?_
      exact ⟨_, rfl, rfl, rfl⟩
end

