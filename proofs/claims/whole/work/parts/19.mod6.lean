/-! the reference: who draws, what is lacking -/
def woI (o : Option Nat) : Int32 := match o with | some s => nI s | none => -1
/-- what the reference's own indices rest on -/
def toOK (f : Fl) : Prop := ∃ t, t ≤ 60 ∧ f 12 = lN t ∧ ∀ k, k < t → ∃ q, q < 60 ∧ f (1033 + k) = lN q
def loOK (f : Fl) : Prop := ∃ t, t ≤ 60 ∧ f 10 = lN t ∧ ∀ k, k < t → ∃ x, x < 2 ^ 31 ∧ f (1093 + k) = lN x
def rdOK (f : Fl) : Prop := ∃ r, r ≤ 60 ∧ f 5 = lN r
def asOK (f : Fl) : Prop := f 9 = -1 ∨ ∃ q, q < 60 ∧ f 9 = lN q
def kiOK (f : Fl) : Prop := f 0 = 0 ∨ f 0 = 1 ∨ f 0 = 2 ∨ f 0 = 3
theorem cnt_mono (p : Nat → Bool) {m n : Nat} (h : m ≤ n) : cnt p m ≤ cnt p n := by
  obtain ⟨d, rfl⟩ : ∃ d, n = m + d := ⟨n - m, by omega⟩
  induction d with
  | zero => exact Nat.le_refl _
  | succ d ih =>
    have e : cnt p (m + (d + 1)) = cnt p (m + d) + (if p (m + d) then 1 else 0) := rfl
    rw [e]
    have := ih (by omega)
    omega
theorem cnt_kth {p : Nat → Bool} {k : Nat} : ∀ {n : Nat}, k < cnt p n → ∃ i, i < n ∧ p i = true ∧ cnt p i = k
  | 0, h => absurd h (Nat.not_lt_zero k)
  | n + 1, h => by
    rcases Nat.lt_or_ge k (cnt p n) with q | q
    · obtain ⟨i, h1, h2⟩ := cnt_kth q
      exact ⟨i, by omega, h2⟩
    · have e : cnt p (n + 1) = cnt p n + (if p n then 1 else 0) := rfl
      rw [e] at h
      cases hp : p n
      · rw [hp] at h; simp at h; omega
      · rw [hp] at h; simp at h; exact ⟨n, by omega, hp, by omega⟩
theorem cnt_lt {p : Nat → Bool} {i j : Nat} (hp : p i = true) (h : i < j) : cnt p i < cnt p j := by
  have h1 := cnt_mono p (show i + 1 ≤ j by omega)
  have e : cnt p (i + 1) = cnt p i + (if p i then 1 else 0) := rfl
  rw [e, hp] at h1
  simp at h1
  omega
theorem fnd_kth {p : Nat → Bool} {k i n : Nat} (hi : i < n) (hp : p i = true) (hk : cnt p i = k) : fnd (fun s => p s && decide (cnt p s = k)) n = some i := by
  refine fnd_at (fnd_none.mpr (fun j hj => ?_)) (by simp [hp, hk]) n hi
  cases hpj : p j
  · rfl
  · have := cnt_lt hpj hj
    simp
    omega
theorem lkS_u (s q : Nat) (x : Fl × Int64) : (lkS s x).1 (ix q 2) = x.1 (ix q 2) := by
  unfold lkS
  split
  · rfl
  · split
    · rfl
    · split
      · rfl
      · dsimp only
        rw [upF_n _ _ (by unfold ix; omega), upF_n _ _ (by unfold ix; omega)]
        split
        · rw [upF_n _ _ (by unfold ix; omega), upF_n _ _ (by unfold ix; omega)]
        · rw [upF_n _ _ (by unfold ix; omega)]
theorem lacks_u (f : Fl) (q : Nat) : ∀ n, (lacks f n).1 (ix q 2) = f (ix q 2)
  | 0 => rfl
  | n + 1 => (lkS_u n q _).trans (lacks_u f q n)
theorem bbS_lt {f : Fl} {n q : Nat} {b : Option Nat} (h : bbS f n b = some q) : q = n ∨ b = some q := by
  unfold bbS at h
  cases b with
  | none =>
    cases hA : isAb f n
    · simp [hA] at h
    · simp [hA] at h
      exact Or.inl h.symm
  | some z =>
    cases hA : (isAb f n && decide (f (ix z 15) < f (ix n 15)))
    · rw [if_neg (by rw [hA]; decide)] at h
      exact Or.inr h
    · rw [if_pos hA] at h
      exact Or.inl (Option.some.inj h).symm
theorem woI_s (s : Nat) : woI (some s) = nI s := rfl
section
variable {cx : Cx} {h : Hp} {M a : Nat} {f : Fl}
theorem s_firstAbleW (hM : MSh h.1 M) (ha : a < 40) : DI cx mX5_firstAble 5 (mh h M a f) [.ref M, .int (nI a)] (woI (fnd (isAb f) 60)) (mh h M a f) := s_firstAble hM ha
theorem s_byOrder (hM : MSh h.1 M) (ha : a < 40) (hto : toOK f) : DI cx mX5_byOrder 6 (mh h M a f) [.ref M, .int (nI a)] (woI (match fnd (fun k => isAb f (f (1033 + k)).toInt.toNat) (f 12).toInt.toNat with | some k => some (f (1033 + k)).toInt.toNat | none => fnd (isAb f) 60)) (mh h M a f) := by
  obtain ⟨t, ht6, ht, hq⟩ := hto
  rw [ht, lN_nat (by omega)]
  refine Sp.ofQ 1 (by decide) (Nat.le_of_ble_eq_true rfl) rfl (fun Q hQ => ?_)
  have L1 : J cx mX5_byOrder (Rm 6 0 0) (mh h M a f) 2 [some (.ref M), some (.int (nI a)), some (.int (nI 0))] [] 0 0 Q := by
    refine dnI (I := fun n => fnd (fun k => isAb f (f (1033 + k)).toInt.toNat) n = none) (P := fun n => J cx mX5_byOrder (Rm 6 0 0) (mh h M a f) 2 [some (.ref M), some (.int (nI a)), some (.int (nI n))] [] 0 0 Q) t rfl ?_ ?_
    · intro hn
      refine j_iload2 dX5_byOrder_2 ?_
      refine j_i2lN (by first | decide | omega) dX5_byOrder_3 ?_
      refine j_aload0 dX5_byOrder_4 ?_
      refine j_iload1 dX5_byOrder_5 ?_
      refine j_bipush (v := nI 12) dX5_byOrder_6 (by decide) ?_
      refine cd_X5_41 rfl (s_get hM ha (by decide)) hM.1 dX5_byOrder_8 rfl rfl ?_
      rw [ht]
      refine j_lcmpN_ge (tgt := 52) (by first | decide | omega) (by first | decide | omega) dX5_byOrder_11 dX5_byOrder_12 (by decide) (fun c11 => ?_) (fun c11 => by omega)
      refine j_aload0 dX5_byOrder_52 ?_
      refine j_iload1 dX5_byOrder_53 ?_
      refine cd_X5_117 rfl (s_firstAbleW hM ha) hM.1 dX5_byOrder_54 rfl rfl ?_
      refine j_iret dX5_byOrder_57 rfl rfl ?_
      exact hQ _ _ ⟨_, rfl, by rw [hn], rfl⟩
    · intro n hn hf ih
      obtain ⟨s, hs, hse⟩ := hq n hn
      have hsn : (f (1033 + n)).toInt.toNat = s := by rw [hse, lN_nat (by omega)]
      refine j_iload2 dX5_byOrder_2 ?_
      refine j_i2lN (by first | decide | omega) dX5_byOrder_3 ?_
      refine j_aload0 dX5_byOrder_4 ?_
      refine j_iload1 dX5_byOrder_5 ?_
      refine j_bipush (v := nI 12) dX5_byOrder_6 (by decide) ?_
      refine cd_X5_41 rfl (s_get hM ha (by decide)) hM.1 dX5_byOrder_8 rfl rfl ?_
      rw [ht]
      refine j_lcmpN_ge (tgt := 52) (by first | decide | omega) (by first | decide | omega) dX5_byOrder_11 dX5_byOrder_12 (by decide) (fun c11 => by omega) (fun c11 => ?_)
      refine j_aload0 dX5_byOrder_15 ?_
      refine j_iload1 dX5_byOrder_16 ?_
      refine j_aload0 dX5_byOrder_17 ?_
      refine j_iload1 dX5_byOrder_18 ?_
      refine j_sipush (v := nI 1033) dX5_byOrder_19 (by decide) ?_
      refine j_iload2 dX5_byOrder_22 ?_
      refine j_iaddN dX5_byOrder_23 ?_
      refine cd_X5_41 rfl (s_get hM ha (by first | decide | exact ix_lt hs (by decide) | omega)) hM.1 dX5_byOrder_24 rfl rfl ?_
      rw [hse]
      refine j_l2iN dX5_byOrder_27 ?_
      refine cd_X5_114 rfl (s_isAble hM ha hs) hM.1 dX5_byOrder_28 rfl rfl ?_
      refine j_bif_eq (tgt := 46) dX5_byOrder_31 (by decide) (fun c31 => ?_) (fun c31 => ?_)
      · refine j_iincN2 dX5_byOrder_46 (by decide) trivial ?_
        refine j_goto (tgt := 2) dX5_byOrder_49 (by decide) ?_
        exact ih (by simp only [fnd, hf, hsn, c31]; rfl)
      · refine j_aload0 dX5_byOrder_34 ?_
        refine j_iload1 dX5_byOrder_35 ?_
        refine j_sipush (v := nI 1033) dX5_byOrder_36 (by decide) ?_
        refine j_iload2 dX5_byOrder_39 ?_
        refine j_iaddN dX5_byOrder_40 ?_
        refine cd_X5_41 rfl (s_get hM ha (by first | decide | exact ix_lt hs (by decide) | omega)) hM.1 dX5_byOrder_41 rfl rfl ?_
        rw [hse]
        refine j_l2iN dX5_byOrder_44 ?_
        refine j_iret dX5_byOrder_45 rfl rfl ?_
        exact hQ _ _ ⟨_, rfl, by rw [fnd_at hf (show isAb f (f (1033 + n)).toInt.toNat = true by rw [hsn]; exact c31) t hn]; simp only [woI, hsn], rfl⟩
  refine j_iconst (v := nI 0) dX5_byOrder_0 (by decide) ?_
  refine j_istore2 dX5_byOrder_1 (by decide) trivial ?_
  exact L1
theorem s_byBid (hM : MSh h.1 M) (ha : a < 40) : DI cx mX5_byBid 5 (mh h M a f) [.ref M, .int (nI a)] (woI (itr (bbS f) 60 none)) (mh h M a f) := by
  have hlt : ∀ n q, itr (bbS f) n none = some q → q < n := by
    intro n
    induction n with
    | zero => intro q hq; cases hq
    | succ n ih =>
      intro q hq
      rcases bbS_lt (show bbS f n (itr (bbS f) n none) = some q from hq) with h1 | h1
      · omega
      · have := ih q h1; omega
  refine Sp.ofQ 2 (by decide) (Nat.le_of_ble_eq_true rfl) rfl (fun Q hQ => ?_)
  have L1 : J cx mX5_byBid (Rm 5 0 0) (mh h M a f) 4 [some (.ref M), some (.int (nI a)), some (.int (-1)), some (.int (nI 0))] [] 0 0 Q := by
    refine dn (P := fun n => J cx mX5_byBid (Rm 5 0 0) (mh h M a f) 4 [some (.ref M), some (.int (nI a)), some (.int (woI (itr (bbS f) n none))), some (.int (nI n))] [] 0 0 Q) 60 ?_ ?_
    · refine j_iload3 dX5_byBid_4 ?_
      refine j_bipush (v := nI 60) dX5_byBid_5 (by decide) ?_
      refine j_icmpN_ge (tgt := 58) (by first | decide | omega) (by first | decide | omega) dX5_byBid_7 (by decide) (fun c7 => ?_) (fun c7 => by omega)
      refine j_iload2 dX5_byBid_58 ?_
      refine j_iret dX5_byBid_59 rfl rfl ?_
      exact hQ _ _ ⟨_, rfl, rfl, rfl⟩
    · intro s hs ih
      have hb := hlt s
      have ih : J cx mX5_byBid (Rm 5 0 0) (mh h M a f) 4 [some (.ref M), some (.int (nI a)), some (.int (woI (bbS f s (itr (bbS f) s none)))), some (.int (nI (s + 1)))] [] 0 0 Q := ih
      cases hbo : itr (bbS f) s none with
      | none =>
        rw [hbo] at ih
        refine j_iload3 dX5_byBid_4 ?_
        refine j_bipush (v := nI 60) dX5_byBid_5 (by decide) ?_
        refine j_icmpN_ge (tgt := 58) (by first | decide | omega) (by first | decide | omega) dX5_byBid_7 (by decide) (fun c7 => by omega) (fun c7 => ?_)
        refine j_aload0 dX5_byBid_10 ?_
        refine j_iload1 dX5_byBid_11 ?_
        refine j_iload3 dX5_byBid_12 ?_
        refine cd_X5_114 rfl (s_isAble hM ha hs) hM.1 dX5_byBid_13 rfl rfl ?_
        refine j_bif_eq (tgt := 52) dX5_byBid_16 (by decide) (fun c16 => ?_) (fun c16 => ?_)
        · refine j_iincN3 dX5_byBid_52 (by decide) trivial ?_
          refine j_goto (tgt := 4) dX5_byBid_55 (by decide) ?_
          simpa [bbS, woI, c16] using ih
        · refine j_iload2 dX5_byBid_19 ?_
          refine j_iconst (v := (-1)) dX5_byBid_20 (by decide) ?_
          refine j_icmp_eq (tgt := 50) dX5_byBid_21 (by decide) (fun c21 => ?_) (fun c21 => by exact absurd rfl c21)
          refine j_iload3 dX5_byBid_50 ?_
          refine j_istore2 dX5_byBid_51 (by decide) trivial ?_
          refine j_iincN3 dX5_byBid_52 (by decide) trivial ?_
          refine j_goto (tgt := 4) dX5_byBid_55 (by decide) ?_
          simpa [bbS, woI, c16] using ih
      | some q =>
        rw [hbo] at ih
        have hq := hb q hbo
        have hq6 : q < 60 := by omega
        refine j_iload3 dX5_byBid_4 ?_
        refine j_bipush (v := nI 60) dX5_byBid_5 (by decide) ?_
        refine j_icmpN_ge (tgt := 58) (by first | decide | omega) (by first | decide | omega) dX5_byBid_7 (by decide) (fun c7 => by omega) (fun c7 => ?_)
        refine j_aload0 dX5_byBid_10 ?_
        refine j_iload1 dX5_byBid_11 ?_
        refine j_iload3 dX5_byBid_12 ?_
        refine cd_X5_114 rfl (s_isAble hM ha hs) hM.1 dX5_byBid_13 rfl rfl ?_
        refine j_bif_eq (tgt := 52) dX5_byBid_16 (by decide) (fun c16 => ?_) (fun c16 => ?_)
        · refine j_iincN3 dX5_byBid_52 (by decide) trivial ?_
          refine j_goto (tgt := 4) dX5_byBid_55 (by decide) ?_
          first | (simpa [bbS, woI, c16, Int64.not_lt.mpr c46] using ih) | (simpa [bbS, woI, c16, Int64.not_le.mp c46] using ih) | (simpa [bbS, woI, c16] using ih)
        · show J cx mX5_byBid (Rm 5 0 0) (mh h M a f) 19 [some (.ref M), some (.int (nI a)), some (.int (nI q)), some (.int (nI s))] [] 0 0 Q
          refine j_iload2 dX5_byBid_19 ?_
          refine j_iconst (v := (-1)) dX5_byBid_20 (by decide) ?_
          refine j_icmp_eq (tgt := 50) dX5_byBid_21 (by decide) (fun c21 => by exact absurd c21 (nI_ne hq6)) (fun c21 => ?_)
          refine j_aload0 dX5_byBid_24 ?_
          refine j_iload1 dX5_byBid_25 ?_
          refine j_iload3 dX5_byBid_26 ?_
          refine j_bipush (v := nI 15) dX5_byBid_27 (by decide) ?_
          refine cd_X5_37 rfl (s_at) dX5_byBid_29 rfl rfl ?_
          refine cd_X5_41 rfl (s_get hM ha (by first | decide | exact ix_lt hs (by decide) | omega)) hM.1 dX5_byBid_32 rfl rfl ?_
          refine j_aload0 dX5_byBid_35 ?_
          refine j_iload1 dX5_byBid_36 ?_
          refine j_iload2 dX5_byBid_37 ?_
          refine j_bipush (v := nI 15) dX5_byBid_38 (by decide) ?_
          refine cd_X5_37 rfl (s_at) dX5_byBid_40 rfl rfl ?_
          refine cd_X5_41 rfl (s_get hM ha (ix_lt hq6 (by decide))) hM.1 dX5_byBid_43 rfl rfl ?_
          refine j_lcmp_le (tgt := 52) dX5_byBid_46 dX5_byBid_47 (by decide) (fun c46 => ?_) (fun c46 => ?_)
          · refine j_iincN3 dX5_byBid_52 (by decide) trivial ?_
            refine j_goto (tgt := 4) dX5_byBid_55 (by decide) ?_
            first | (simpa [bbS, woI, c16, Int64.not_lt.mpr c46] using ih) | (simpa [bbS, woI, c16, Int64.not_le.mp c46] using ih) | (simpa [bbS, woI, c16] using ih)
          · refine j_iload3 dX5_byBid_50 ?_
            refine j_istore2 dX5_byBid_51 (by decide) trivial ?_
            refine j_iincN3 dX5_byBid_52 (by decide) trivial ?_
            refine j_goto (tgt := 4) dX5_byBid_55 (by decide) ?_
            first | (simpa [bbS, woI, c16, Int64.not_lt.mpr c46] using ih) | (simpa [bbS, woI, c16, Int64.not_le.mp c46] using ih) | (simpa [bbS, woI, c16] using ih)
  refine j_iconst (v := (-1)) dX5_byBid_0 (by decide) ?_
  refine j_istore2 dX5_byBid_1 (by decide) trivial ?_
  refine j_iconst (v := nI 0) dX5_byBid_2 (by decide) ?_
  refine j_istore3 dX5_byBid_3 (by decide) trivial ?_
  exact L1
theorem s_byNeed (hM : MSh h.1 M) (ha : a < 40) (has : asOK f) : DI cx mX5_byNeed 6 (mh h M a f) [.ref M, .int (nI a)] (woI (if (f 9).toInt32 = -1 then fnd (isAb f) 60 else if isAb f (f 9).toInt.toNat = true ∧ lN (cnt (isNe f) 60) < 2 * said f 60 then some (f 9).toInt.toNat else fnd (isAb f) 60)) (mh h M a f) := by
  rcases has with h9 | ⟨s, hs, h9⟩
  · rw [h9, if_pos m1_i]
    refine Sp.of 1 (by decide) (Nat.le_of_ble_eq_true rfl) rfl ?_
    refine j_aload0 dX5_byNeed_0 ?_
    refine j_iload1 dX5_byNeed_1 ?_
    refine j_bipush (v := nI 9) dX5_byNeed_2 (by decide) ?_
    refine cd_X5_41 rfl (s_get hM ha (by first | decide | exact ix_lt hs (by decide) | omega)) hM.1 dX5_byNeed_4 rfl rfl ?_
    rw [h9]
    refine j_l2i dX5_byNeed_7 ?_
    rw [m1_i]
    refine j_istore2 dX5_byNeed_8 (by decide) trivial ?_
    refine j_iload2 dX5_byNeed_9 ?_
    refine j_iconst (v := (-1)) dX5_byNeed_10 (by decide) ?_
    refine j_icmp_eq (tgt := 45) dX5_byNeed_11 (by decide) (fun c11 => ?_) (fun c11 => by exact absurd rfl c11)
    refine j_aload0 dX5_byNeed_45 ?_
    refine j_iload1 dX5_byNeed_46 ?_
    refine cd_X5_117 rfl (s_firstAbleW hM ha) hM.1 dX5_byNeed_47 rfl rfl ?_
    refine j_iret dX5_byNeed_50 rfl rfl ?_
    exact ⟨_, rfl, rfl, rfl⟩
  · rw [h9, lN_i, lN_nat (by omega), if_neg (nI_ne hs)]
    refine Sp.of 1 (by decide) (Nat.le_of_ble_eq_true rfl) rfl ?_
    refine j_aload0 dX5_byNeed_0 ?_
    refine j_iload1 dX5_byNeed_1 ?_
    refine j_bipush (v := nI 9) dX5_byNeed_2 (by decide) ?_
    refine cd_X5_41 rfl (s_get hM ha (by first | decide | exact ix_lt hs (by decide) | omega)) hM.1 dX5_byNeed_4 rfl rfl ?_
    rw [h9]
    refine j_l2iN dX5_byNeed_7 ?_
    refine j_istore2 dX5_byNeed_8 (by decide) trivial ?_
    refine j_iload2 dX5_byNeed_9 ?_
    refine j_iconst (v := (-1)) dX5_byNeed_10 (by decide) ?_
    refine j_icmp_eq (tgt := 45) dX5_byNeed_11 (by decide) (fun c11 => by exact absurd c11 (nI_ne hs)) (fun c11 => ?_)
    refine j_aload0 dX5_byNeed_14 ?_
    refine j_iload1 dX5_byNeed_15 ?_
    refine j_iload2 dX5_byNeed_16 ?_
    refine cd_X5_114 rfl (s_isAble hM ha hs) hM.1 dX5_byNeed_17 rfl rfl ?_
    refine j_bif_eq (tgt := 45) dX5_byNeed_20 (by decide) (fun c20 => ?_) (fun c20 => ?_)
    · refine j_aload0 dX5_byNeed_45 ?_
      refine j_iload1 dX5_byNeed_46 ?_
      refine cd_X5_117 rfl (s_firstAbleW hM ha) hM.1 dX5_byNeed_47 rfl rfl ?_
      refine j_iret dX5_byNeed_50 rfl rfl ?_
      exact ⟨_, rfl, by simp_all [woI_s, ← Int64.not_le], rfl⟩
    · refine j_ldc2 dX5_byNeed_23 wT_kl_X5_45 ?_
      refine j_aload0 dX5_byNeed_26 ?_
      refine j_iload1 dX5_byNeed_27 ?_
      refine cd_X5_121 rfl (s_said hM ha) hM.1 dX5_byNeed_28 rfl rfl ?_
      refine j_lmul dX5_byNeed_31 ?_
      refine j_aload0 dX5_byNeed_32 ?_
      refine j_iload1 dX5_byNeed_33 ?_
      refine cd_X5_124 rfl (s_neither hM ha) hM.1 dX5_byNeed_34 rfl rfl ?_
      refine j_lcmp_le (tgt := 45) dX5_byNeed_37 dX5_byNeed_38 (by decide) (fun c37 => ?_) (fun c37 => ?_)
      · refine j_aload0 dX5_byNeed_45 ?_
        refine j_iload1 dX5_byNeed_46 ?_
        refine cd_X5_117 rfl (s_firstAbleW hM ha) hM.1 dX5_byNeed_47 rfl rfl ?_
        refine j_iret dX5_byNeed_50 rfl rfl ?_
        exact ⟨_, rfl, by simp_all [woI_s, ← Int64.not_le], rfl⟩
      · refine j_iload2 dX5_byNeed_41 ?_
        refine j_goto (tgt := 50) dX5_byNeed_42 (by decide) ?_
        refine j_iret dX5_byNeed_50 rfl rfl ?_
        exact ⟨_, rfl, by simp_all [woI_s, ← Int64.not_le], rfl⟩
theorem s_byLot (hM : MSh h.1 M) (ha : a < 40) (hlo : loOK f) (hrd : rdOK f) : DI cx mX5_byLot 5 (mh h M a f) [.ref M, .int (nI a)] (woI (if cnt (isAb f) 60 = 0 then none else fnd (fun s => isAb f s && decide (cnt (isAb f) s = lotN f)) 60)) (mh h M a f) := by
  obtain ⟨t, ht6, ht, hx⟩ := hlo
  obtain ⟨r, hr6, hr⟩ := hrd
  have hc60 := cnt_le (isAb f) 60
  refine Sp.ofQ 5 (by decide) (Nat.le_of_ble_eq_true rfl) rfl (fun Q hQ => ?_)
  have hlx : ∃ x, x < 2 ^ 31 ∧ lotX f = lN x := by
    unfold lotX
    by_cases hlt : f 5 < f 10
    · rw [if_pos hlt, hr, lN_nat (by omega)]
      rw [hr, ht, lN_lt (by omega) (by omega)] at hlt
      exact hx r hlt
    · rw [if_neg hlt]
      exact ⟨0, by decide, rfl⟩
  obtain ⟨x, hx31, hxe⟩ := hlx
  have L2 : ¬ cnt (isAb f) 60 = 0 → J cx mX5_byLot (Rm 5 0 0) (mh h M a f) 87 [some (.ref M), some (.int (nI a)), none, none, none, some (.int (nI (lotN f))), some (.int (nI 0))] [] 0 0 Q := by
    intro hcn
    have hL : lotN f < cnt (isAb f) 60 := Nat.mod_lt _ (by omega)
    obtain ⟨i, hi, hpi, hki⟩ := cnt_kth hL
    have hres : woI (if cnt (isAb f) 60 = 0 then none else fnd (fun s => isAb f s && decide (cnt (isAb f) s = lotN f)) 60) = nI i := by rw [if_neg hcn, fnd_kth hi hpi hki]; rfl
    refine dn (P := fun n => J cx mX5_byLot (Rm 5 0 0) (mh h M a f) 87 [some (.ref M), some (.int (nI a)), none, none, none, some (.int (nI (lotN f - cnt (isAb f) n))), some (.int (nI n))] [] 0 0 Q) i ?_ ?_
    · rw [hki, Nat.sub_self]
      have hs := hi
      refine j_aload0 dX5_byLot_87 ?_
      refine j_iload1 dX5_byLot_88 ?_
      refine j_iload6 dX5_byLot_89 ?_
      refine cd_X5_114 rfl (s_isAble hM ha hs) hM.1 dX5_byLot_91 rfl rfl ?_
      refine j_bif_eq (tgt := 102) dX5_byLot_94 (by decide) (fun c94 => by exact nb hpi c94) (fun c94 => ?_)
      refine j_iload5 dX5_byLot_97 ?_
      refine j_if_le (tgt := 128) dX5_byLot_99 (by decide) (fun c99 => ?_) (fun c99 => by exact absurd (show nI 0 ≤ 0 from Int32.le_refl 0) c99)
      refine j_iload6 dX5_byLot_128 ?_
      refine j_iret dX5_byLot_130 rfl rfl ?_
      exact hQ _ _ ⟨_, rfl, hres.symm, rfl⟩
    · intro s hsi ih
      have hs : s < 60 := by omega
      have hm := cnt_mono (isAb f) (show s ≤ i by omega)
      have e : cnt (isAb f) (s + 1) = cnt (isAb f) s + (if isAb f s then 1 else 0) := rfl
      rw [e] at ih
      have hw : isAb f s = true → ¬ nI (lotN f - cnt (isAb f) s) ≤ 0 := fun hp z => by
        have h2 := cnt_lt hp hsi
        exact nI_nle (n := lotN f - cnt (isAb f) s) (by omega) (by omega) z
      refine j_aload0 dX5_byLot_87 ?_
      refine j_iload1 dX5_byLot_88 ?_
      refine j_iload6 dX5_byLot_89 ?_
      refine cd_X5_114 rfl (s_isAble hM ha hs) hM.1 dX5_byLot_91 rfl rfl ?_
      refine j_bif_eq (tgt := 102) dX5_byLot_94 (by decide) (fun c94 => ?_) (fun c94 => ?_)
      · refine j_iload5 dX5_byLot_102 ?_
        refine j_aload0 dX5_byLot_104 ?_
        refine j_iload1 dX5_byLot_105 ?_
        refine j_iload6 dX5_byLot_106 ?_
        refine cd_X5_114 rfl (s_isAble hM ha hs) hM.1 dX5_byLot_108 rfl rfl ?_
        refine j_bif_eq (tgt := 118) dX5_byLot_111 (by decide) (fun c111 => ?_) (fun c111 => ?_)
        · refine j_iconst (v := nI 0) dX5_byLot_118 (by decide) ?_
          refine j_isubN (by first | exact Nat.zero_le _ | (have h2 := cnt_lt c111 hsi; omega)) dX5_byLot_119 ?_
          refine j_istore5 dX5_byLot_120 (by decide) trivial ?_
          refine j_iincN6 dX5_byLot_122 (by decide) trivial ?_
          refine j_goto (tgt := 87) dX5_byLot_125 (by decide) ?_
          first | exact nb c94 c111 | exact nb c111 c94 | (simp only [c94, if_true, if_false, Bool.false_eq_true, Nat.add_zero, Nat.sub_zero, Nat.sub_sub] at ih ⊢; exact ih)
        · refine j_iconst (v := nI 1) dX5_byLot_114 (by decide) ?_
          refine j_goto (tgt := 119) dX5_byLot_115 (by decide) ?_
          refine j_isubN (by first | exact Nat.zero_le _ | (have h2 := cnt_lt c111 hsi; omega)) dX5_byLot_119 ?_
          refine j_istore5 dX5_byLot_120 (by decide) trivial ?_
          refine j_iincN6 dX5_byLot_122 (by decide) trivial ?_
          refine j_goto (tgt := 87) dX5_byLot_125 (by decide) ?_
          first | exact nb c94 c111 | exact nb c111 c94 | (simp only [c94, if_true, if_false, Bool.false_eq_true, Nat.add_zero, Nat.sub_zero, Nat.sub_sub] at ih ⊢; exact ih)
      · refine j_iload5 dX5_byLot_97 ?_
        refine j_if_le (tgt := 128) dX5_byLot_99 (by decide) (fun c99 => by exact absurd c99 (hw c94)) (fun c99 => ?_)
        refine j_iload5 dX5_byLot_102 ?_
        refine j_aload0 dX5_byLot_104 ?_
        refine j_iload1 dX5_byLot_105 ?_
        refine j_iload6 dX5_byLot_106 ?_
        refine cd_X5_114 rfl (s_isAble hM ha hs) hM.1 dX5_byLot_108 rfl rfl ?_
        refine j_bif_eq (tgt := 118) dX5_byLot_111 (by decide) (fun c111 => ?_) (fun c111 => ?_)
        · refine j_iconst (v := nI 0) dX5_byLot_118 (by decide) ?_
          refine j_isubN (by first | exact Nat.zero_le _ | (have h2 := cnt_lt c111 hsi; omega)) dX5_byLot_119 ?_
          refine j_istore5 dX5_byLot_120 (by decide) trivial ?_
          refine j_iincN6 dX5_byLot_122 (by decide) trivial ?_
          refine j_goto (tgt := 87) dX5_byLot_125 (by decide) ?_
          first | exact nb c94 c111 | exact nb c111 c94 | (simp only [c94, if_true, if_false, Bool.false_eq_true, Nat.add_zero, Nat.sub_zero, Nat.sub_sub] at ih ⊢; exact ih)
        · refine j_iconst (v := nI 1) dX5_byLot_114 (by decide) ?_
          refine j_goto (tgt := 119) dX5_byLot_115 (by decide) ?_
          refine j_isubN (by first | exact Nat.zero_le _ | (have h2 := cnt_lt c111 hsi; omega)) dX5_byLot_119 ?_
          refine j_istore5 dX5_byLot_120 (by decide) trivial ?_
          refine j_iincN6 dX5_byLot_122 (by decide) trivial ?_
          refine j_goto (tgt := 87) dX5_byLot_125 (by decide) ?_
          first | exact nb c94 c111 | exact nb c111 c94 | (simp only [c94, if_true, if_false, Bool.false_eq_true, Nat.add_zero, Nat.sub_zero, Nat.sub_sub] at ih ⊢; exact ih)
  have L1 : J cx mX5_byLot (Rm 5 0 0) (mh h M a f) 4 [some (.ref M), some (.int (nI a)), some (.int (nI 0)), some (.int (nI 0)), none, none, none] [] 0 0 Q := by
    refine dn (P := fun n => J cx mX5_byLot (Rm 5 0 0) (mh h M a f) 4 [some (.ref M), some (.int (nI a)), some (.int (nI (cnt (isAb f) n))), some (.int (nI n)), none, none, none] [] 0 0 Q) 60 ?_ ?_
    · have hz : nI (cnt (isAb f) 60) = 0 → cnt (isAb f) 60 = 0 := fun z => (nI_eq (show cnt (isAb f) 60 < 2 ^ 31 by omega) (show 0 < 2 ^ 31 by decide)).mp z
      have hmod : cnt (isAb f) 60 ≠ 0 → lN x - lN x / lN (cnt (isAb f) 60) * lN (cnt (isAb f) 60) = lN (lotN f) := fun hne => by
        rw [pk_lRem (by omega) (by omega) (by omega)]
        unfold lotN
        rw [hxe, lN_nat (by omega)]
      have hfin : ¬ nI (cnt (isAb f) 60) = 0 → J cx mX5_byLot (Rm 5 0 0) (mh h M a f) 76 [some (.ref M), some (.int (nI a)), some (.int (nI (cnt (isAb f) 60))), some (.int (nI 60)), none, none, none] [.long (lotX f)] 0 0 Q := by
        intro hne
        have hcn : ¬ cnt (isAb f) 60 = 0 := fun z => hne (by rw [z]; rfl)
        have hl0 : ¬ lN (cnt (isAb f) 60) = 0 := fun z => hcn ((lN_eq (show cnt (isAb f) 60 < 2 ^ 31 by omega) (show 0 < 2 ^ 31 by decide)).mp z)
        rw [hxe]
        refine j_lstore3 dX5_byLot_76 (by decide) trivial ?_
        refine j_lload3 dX5_byLot_77 ?_
        refine j_iload2 dX5_byLot_78 ?_
        refine j_i2lN (by first | decide | omega) dX5_byLot_79 ?_
        refine j_lrem dX5_byLot_80 (hl0) ?_
        rw [hmod hcn]
        refine j_l2iN dX5_byLot_81 ?_
        refine j_istore5 dX5_byLot_82 (by decide) trivial ?_
        refine j_iconst (v := nI 0) dX5_byLot_84 (by decide) ?_
        refine j_istore6 dX5_byLot_85 (by decide) trivial ?_
        exact J.wk (L2 hcn) (by simp [lcw])
      refine j_iload3 dX5_byLot_4 ?_
      refine j_bipush (v := nI 60) dX5_byLot_5 (by decide) ?_
      refine j_icmpN_ge (tgt := 33) (by first | decide | omega) (by first | decide | omega) dX5_byLot_7 (by decide) (fun c7 => ?_) (fun c7 => by omega)
      refine j_iload2 dX5_byLot_33 ?_
      refine j_if_ne (tgt := 39) dX5_byLot_34 (by decide) (fun c34 => ?_) (fun c34 => ?_)
      · refine j_aload0 dX5_byLot_39 ?_
        refine j_iload1 dX5_byLot_40 ?_
        refine j_iconst (v := nI 5) dX5_byLot_41 (by decide) ?_
        refine cd_X5_41 rfl (s_get hM ha (by first | decide | exact ix_lt hs (by decide) | omega)) hM.1 dX5_byLot_42 rfl rfl ?_
        refine j_aload0 dX5_byLot_45 ?_
        refine j_iload1 dX5_byLot_46 ?_
        refine j_bipush (v := nI 10) dX5_byLot_47 (by decide) ?_
        refine cd_X5_41 rfl (s_get hM ha (by first | decide | exact ix_lt hs (by decide) | omega)) hM.1 dX5_byLot_49 rfl rfl ?_
        refine j_lcmp_ge (tgt := 75) dX5_byLot_52 dX5_byLot_53 (by decide) (fun c52 => ?_) (fun c52 => ?_)
        · refine j_lconst (v := 0) dX5_byLot_75 (by decide) ?_
          first | (have h5 := hfin c34; rw [lotX, if_pos (Int64.not_le.mp c52), hr, lN_nat (by omega)] at h5; exact h5) | (have h5 := hfin c34; rw [lotX, if_neg (Int64.not_lt.mpr c52)] at h5; exact h5)
        · refine j_aload0 dX5_byLot_56 ?_
          refine j_iload1 dX5_byLot_57 ?_
          refine j_sipush (v := nI 1093) dX5_byLot_58 (by decide) ?_
          refine j_aload0 dX5_byLot_61 ?_
          refine j_iload1 dX5_byLot_62 ?_
          refine j_iconst (v := nI 5) dX5_byLot_63 (by decide) ?_
          refine cd_X5_41 rfl (s_get hM ha (by first | decide | exact ix_lt hs (by decide) | omega)) hM.1 dX5_byLot_64 rfl rfl ?_
          rw [hr]
          refine j_l2iN dX5_byLot_67 ?_
          refine j_iaddN dX5_byLot_68 ?_
          have hrt : r < t := by have q := Int64.not_le.mp c52; rw [hr, ht, lN_lt (by omega) (by omega)] at q; exact q
          refine cd_X5_41 rfl (s_get hM ha (by first | decide | exact ix_lt hs (by decide) | omega)) hM.1 dX5_byLot_69 rfl rfl ?_
          refine j_goto (tgt := 76) dX5_byLot_72 (by decide) ?_
          first | (have h5 := hfin c34; rw [lotX, if_pos (Int64.not_le.mp c52), hr, lN_nat (by omega)] at h5; exact h5) | (have h5 := hfin c34; rw [lotX, if_neg (Int64.not_lt.mpr c52)] at h5; exact h5)
      · refine j_iconst (v := (-1)) dX5_byLot_37 (by decide) ?_
        refine j_iret dX5_byLot_38 rfl rfl ?_
        exact hQ _ _ ⟨_, rfl, by rw [if_pos (hz c34)]; rfl, rfl⟩
    · intro s hs ih
      have hcs := cnt_le (isAb f) s
      refine j_iload3 dX5_byLot_4 ?_
      refine j_bipush (v := nI 60) dX5_byLot_5 (by decide) ?_
      refine j_icmpN_ge (tgt := 33) (by first | decide | omega) (by first | decide | omega) dX5_byLot_7 (by decide) (fun c7 => by omega) (fun c7 => ?_)
      refine j_iload2 dX5_byLot_10 ?_
      refine j_aload0 dX5_byLot_11 ?_
      refine j_iload1 dX5_byLot_12 ?_
      refine j_iload3 dX5_byLot_13 ?_
      refine cd_X5_114 rfl (s_isAble hM ha hs) hM.1 dX5_byLot_14 rfl rfl ?_
      refine j_bif_eq (tgt := 24) dX5_byLot_17 (by decide) (fun c17 => ?_) (fun c17 => ?_)
      · refine j_iconst (v := nI 0) dX5_byLot_24 (by decide) ?_
        refine j_iaddN dX5_byLot_25 ?_
        refine j_istore2 dX5_byLot_26 (by decide) trivial ?_
        refine j_iincN3 dX5_byLot_27 (by decide) trivial ?_
        refine j_goto (tgt := 4) dX5_byLot_30 (by decide) ?_
        simpa [cnt, c17] using ih
      · refine j_iconst (v := nI 1) dX5_byLot_20 (by decide) ?_
        refine j_goto (tgt := 25) dX5_byLot_21 (by decide) ?_
        refine j_iaddN dX5_byLot_25 ?_
        refine j_istore2 dX5_byLot_26 (by decide) trivial ?_
        refine j_iincN3 dX5_byLot_27 (by decide) trivial ?_
        refine j_goto (tgt := 4) dX5_byLot_30 (by decide) ?_
        simpa [cnt, c17] using ih
  refine j_iconst (v := nI 0) dX5_byLot_0 (by decide) ?_
  refine j_istore2 dX5_byLot_1 (by decide) trivial ?_
  refine j_iconst (v := nI 0) dX5_byLot_2 (by decide) ?_
  refine j_istore3 dX5_byLot_3 (by decide) trivial ?_
  exact L1
theorem s_who (hM : MSh h.1 M) (ha : a < 40) (hki : kiOK f) (hto : toOK f) (hlo : loOK f) (hrd : rdOK f) (has : asOK f) : DI cx mX5_who 7 (mh h M a f) [.ref M, .int (nI a)] (woI (who f)) (mh h M a f) := by
  unfold who
  rcases hki with h0 | h0 | h0 | h0 <;> rw [h0]
  · rw [if_pos rfl]
    refine Sp.of 0 (by decide) (Nat.le_of_ble_eq_true rfl) rfl ?_
    refine j_aload0 dX5_who_0 ?_
    refine j_iload1 dX5_who_1 ?_
    refine j_iconst (v := nI 0) dX5_who_2 (by decide) ?_
    refine cd_X5_41 rfl (s_get hM ha (by first | decide | exact ix_lt hs (by decide) | omega)) hM.1 dX5_who_3 rfl rfl ?_
    rw [h0]
    refine j_l2i dX5_who_6 ?_
    refine j_tabIn (off := 25) (tgt := 32) dX5_who_7 (by decide) (by decide) (by decide) (by decide) ?_
    refine j_aload0 dX5_who_32 ?_
    refine j_iload1 dX5_who_33 ?_
    refine cd_X5_127 rfl (s_byOrder hM ha hto) hM.1 dX5_who_34 rfl rfl ?_
    refine j_iret dX5_who_37 rfl rfl ?_
    exact ⟨_, rfl, rfl, rfl⟩
  · rw [if_neg (by decide), if_pos rfl]
    refine Sp.of 0 (by decide) (Nat.le_of_ble_eq_true rfl) rfl ?_
    refine j_aload0 dX5_who_0 ?_
    refine j_iload1 dX5_who_1 ?_
    refine j_iconst (v := nI 0) dX5_who_2 (by decide) ?_
    refine cd_X5_41 rfl (s_get hM ha (by first | decide | exact ix_lt hs (by decide) | omega)) hM.1 dX5_who_3 rfl rfl ?_
    rw [h0]
    refine j_l2i dX5_who_6 ?_
    refine j_tabIn (off := 31) (tgt := 38) dX5_who_7 (by decide) (by decide) (by decide) (by decide) ?_
    refine j_aload0 dX5_who_38 ?_
    refine j_iload1 dX5_who_39 ?_
    refine cd_X5_130 rfl (s_byLot hM ha hlo hrd) hM.1 dX5_who_40 rfl rfl ?_
    refine j_iret dX5_who_43 rfl rfl ?_
    exact ⟨_, rfl, rfl, rfl⟩
  · rw [if_neg (by decide), if_neg (by decide), if_pos rfl]
    refine Sp.of 0 (by decide) (Nat.le_of_ble_eq_true rfl) rfl ?_
    refine j_aload0 dX5_who_0 ?_
    refine j_iload1 dX5_who_1 ?_
    refine j_iconst (v := nI 0) dX5_who_2 (by decide) ?_
    refine cd_X5_41 rfl (s_get hM ha (by first | decide | exact ix_lt hs (by decide) | omega)) hM.1 dX5_who_3 rfl rfl ?_
    rw [h0]
    refine j_l2i dX5_who_6 ?_
    refine j_tabIn (off := 37) (tgt := 44) dX5_who_7 (by decide) (by decide) (by decide) (by decide) ?_
    refine j_aload0 dX5_who_44 ?_
    refine j_iload1 dX5_who_45 ?_
    refine cd_X5_133 rfl (s_byBid hM ha) hM.1 dX5_who_46 rfl rfl ?_
    refine j_iret dX5_who_49 rfl rfl ?_
    exact ⟨_, rfl, rfl, rfl⟩
  · rw [if_neg (by decide), if_neg (by decide), if_neg (by decide)]
    refine Sp.of 0 (by decide) (Nat.le_of_ble_eq_true rfl) rfl ?_
    refine j_aload0 dX5_who_0 ?_
    refine j_iload1 dX5_who_1 ?_
    refine j_iconst (v := nI 0) dX5_who_2 (by decide) ?_
    refine cd_X5_41 rfl (s_get hM ha (by first | decide | exact ix_lt hs (by decide) | omega)) hM.1 dX5_who_3 rfl rfl ?_
    rw [h0]
    refine j_l2i dX5_who_6 ?_
    refine j_tabOut (tgt := 50) dX5_who_7 (by decide) (by decide) ?_
    refine j_aload0 dX5_who_50 ?_
    refine j_iload1 dX5_who_51 ?_
    refine cd_X5_136 rfl (s_byNeed hM ha has) hM.1 dX5_who_52 rfl rfl ?_
    refine j_iret dX5_who_55 rfl rfl ?_
    exact ⟨_, rfl, rfl, rfl⟩
end

