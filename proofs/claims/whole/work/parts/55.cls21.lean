/-! the class: a ring that is open: what a place does -/
def rDep (h : Hp) (A : Nat) (s x : Int32) : Int32 × Hp := if h.i (A + 5) 1 = 1 then (match bPl h (A + 5) s with | none => (3, h) | some p => if h.i p 4 = 0 then (if h.i p 0 = 4 then (if wn x.toInt64 1 100000000 = true then (0, h.setL p 8 (h.l p 8 + x.toInt64)) else (7, h)) else (4, h)) else (10, h)) else (2, h)
def rRow (h : Hp) (A : Nat) (n : Int32) : Int32 × Hp := if h.i (A + 5) 1 = 1 then (if bLeft h (A + 5) = true then (if wn n.toInt64 0 60 = true then (0, (itr (rrC (A + 5)) 60 h).setI (A + 5) 4 n) else (7, h)) else (8, h)) else (2, h)
def rPayIn (h : Hp) (A : Nat) (s x : Int32) : Int32 × Hp := if h.i (A + 5) 1 = 1 then (match bPl h (A + 5) s with | none => (3, h) | some p => if h.i p 4 = 0 then (if x = 1 ∧ ¬ h.i p 0 = 3 then (4, h) else if wn x.toInt64 0 1 = true then (if h.i (A + 5) 4 = -1 then (5, h) else if s < h.i (A + 5) 4 then (if x = 0 then rPay1 h A p else rPay2 h A p) else (6, h)) else (7, h)) else (10, h)) else (2, h)
def lt1 (h : Hp) (A p : Nat) : Hp := h.setL (A + 5) 8 (h.l (A + 5) 8 + (h.l p 6 + h.l A 2))
def lt2 (h : Hp) (A : Nat) : Hp := h.setL (A + 5) 9 (h.l (A + 5) 9 + h.l A 2)
def lt3 (h : Hp) (p : Nat) : Hp := (h.setL p 9 (h.l p 9 + h.l p 6)).setL p 6 0
def rLate (h : Hp) (A : Nat) (s : Int32) : Int32 × Hp := if h.i (A + 5) 1 = 1 then (match bPl h (A + 5) s with | none => (3, h) | some p => if h.i p 4 = 0 then (if h.l p 6 = 0 then (8, h) else (0, lt3 (lt2 (lt1 h A p) A) p)) else (10, h)) else (2, h)
def rWhy (h : Hp) (A : Nat) (s k : Int32) : Int32 := if h.i (A + 5) 1 = 1 then (if h.i A 0 = k then (match bPl h (A + 5) s with | none => 3 | some p => if h.i p 4 = 0 then (if h.i p 3 = 0 then 0 else 8) else 10) else 4) else 2
def rBid (h : Hp) (A : Nat) (s : Int32) (b : Int64) : Int32 × Hp := if rWhy h A s 2 = 0 then (match bPl h (A + 5) s with | none => (3, h) | some p => if wn b 0 (h.l A 1 * (h.i (A + 5) 3).toInt64) = true then (0, h.setL p 16 b) else (7, h)) else (rWhy h A s 2, h)
def rAsk (h : Hp) (A : Nat) (s : Int32) : Int32 × Hp := if rWhy h A s 3 = 0 then (0, (itr (fyC (A + 5)) 60 h).setI (A + 5) 5 s) else (rWhy h A s 3, h)
def rYes (h : Hp) (A : Nat) (s : Int32) : Int32 × Hp := if h.i (A + 5) 1 = 1 then (if h.i A 0 = 3 then (match bPl h (A + 5) s with | none => (3, h) | some p => if h.i (A + 5) 5 = -1 then (3, h) else if h.i p 4 = 0 then (if ¬ h.i p 3 = 0 then (8, h) else if h.i p 17 = 0 then (0, h.setI p 17 1) else (8, h)) else (10, h)) else (4, h)) else (2, h)
def rRepH (h : Hp) (p : Nat) (w : Int32) : Hp := ((((((h.setI p 0 w).setI p 4 0).setL p 7 0).setL p 9 0).setL p 10 0).setL p 11 0).setL p 12 0
def rRep (h : Hp) (A : Nat) (s w : Int32) : Int32 × Hp := if h.i (A + 5) 1 = 1 then (match bPl h (A + 5) s with | none => (3, h) | some p => if h.i p 4 = 0 then (8, h) else if wn w.toInt64 2 4 = true then (0, rRepH h p w) else (4, h)) else (2, h)
section
variable {cx : Cx} {h : Hp} {A : Nat}
theorem t_addDeposit {s x : Int32} (hA : RSh h.1 A) : DI cx mX2_addDeposit 3 h [.ref A, .int s, .int x] (rDep h A s x).1 (rDep h A s x).2 := by
  have hB := hA.2.2.2.2.2.1.2
  have S := t_placeAt (cx := cx) (h := h) (B := A + 5) (s := s) hB
  unfold rDep
  cases hm : bPl h (A + 5) s with
  | none =>
    rw [hm] at S
    dsimp only
    refine Sp.of 1 (by decide) (Nat.le_of_ble_eq_true rfl) rfl ?_
    refine j_aload0 (pc := 0) dX2_addDeposit_0 ?_
    refine g_X2_42 (pc := 1) rfl hA.1 hA.2.2.2.2.2.1.1 dX2_addDeposit_1 ?_
    refine g_X2_85 (pc := 4) rfl hA.2.2.2.2.2.1.2.1 dX2_addDeposit_4 ?_
    refine j_iconst (pc := 7) (v := 1) dX2_addDeposit_7 (by decide) ?_
    refine j_icmp_eq (pc := 8) (tgt := 13) dX2_addDeposit_8 (by decide) (fun c8 => ?_) (fun c8 => ?_)
    · refine j_aload0 (pc := 13) dX2_addDeposit_13 ?_
      refine g_X2_42 (pc := 14) rfl hA.1 hA.2.2.2.2.2.1.1 dX2_addDeposit_14 ?_
      refine j_iload1 (pc := 17) dX2_addDeposit_17 ?_
      refine cd_X2_138 (pc := 18) rfl (S) hA.2.2.2.2.2.1.2.1 dX2_addDeposit_18 rfl rfl ?_
      refine j_rn ?_
      refine j_nstore3 (pc := 21) dX2_addDeposit_21 (by decide) trivial ?_
      refine j_nload3 (pc := 22) dX2_addDeposit_22 ?_
      refine j_ifnonnullN (pc := 23) dX2_addDeposit_23 ?_
      refine j_iconst (pc := 26) (v := 3) dX2_addDeposit_26 (by decide) ?_
      refine j_iret (pc := 27) dX2_addDeposit_27 rfl rfl ?_
      exact ⟨_, rfl, by rw [if_pos c8], by rw [if_pos c8]⟩
    · refine j_iconst (pc := 11) (v := 2) dX2_addDeposit_11 (by decide) ?_
      refine j_iret (pc := 12) dX2_addDeposit_12 rfl rfl ?_
      exact ⟨_, rfl, by rw [if_neg c8], by rw [if_neg c8]⟩
  | some p =>
    rw [hm] at S
    dsimp only
    have hp := bPl_kd hB hm
    refine Sp.of 1 (by decide) (Nat.le_of_ble_eq_true rfl) rfl ?_
    refine j_aload0 (pc := 0) dX2_addDeposit_0 ?_
    refine g_X2_42 (pc := 1) rfl hA.1 hA.2.2.2.2.2.1.1 dX2_addDeposit_1 ?_
    refine g_X2_85 (pc := 4) rfl hA.2.2.2.2.2.1.2.1 dX2_addDeposit_4 ?_
    refine j_iconst (pc := 7) (v := 1) dX2_addDeposit_7 (by decide) ?_
    refine j_icmp_eq (pc := 8) (tgt := 13) dX2_addDeposit_8 (by decide) (fun c8 => ?_) (fun c8 => ?_)
    · refine j_aload0 (pc := 13) dX2_addDeposit_13 ?_
      refine g_X2_42 (pc := 14) rfl hA.1 hA.2.2.2.2.2.1.1 dX2_addDeposit_14 ?_
      refine j_iload1 (pc := 17) dX2_addDeposit_17 ?_
      refine cd_X2_138 (pc := 18) rfl (S) hA.2.2.2.2.2.1.2.1 dX2_addDeposit_18 rfl rfl ?_
      refine j_rs ?_
      refine j_astore3 (pc := 21) dX2_addDeposit_21 (by decide) trivial ?_
      refine j_aload3 (pc := 22) dX2_addDeposit_22 ?_
      refine j_ifnonnull (pc := 23) (tgt := 28) dX2_addDeposit_23 (by decide) ?_
      refine j_aload3 (pc := 28) dX2_addDeposit_28 ?_
      refine g_X2_141 (pc := 29) rfl hp dX2_addDeposit_29 ?_
      refine j_if_eq (pc := 32) (tgt := 38) dX2_addDeposit_32 (by decide) (fun c32 => ?_) (fun c32 => ?_)
      · refine j_aload3 (pc := 38) dX2_addDeposit_38 ?_
        refine g_X2_98 (pc := 39) rfl hp dX2_addDeposit_39 ?_
        refine j_iconst (pc := 42) (v := 4) dX2_addDeposit_42 (by decide) ?_
        refine j_icmp_eq (pc := 43) (tgt := 48) dX2_addDeposit_43 (by decide) (fun c43 => ?_) (fun c43 => ?_)
        · refine j_iload2 (pc := 48) dX2_addDeposit_48 ?_
          refine j_i2l (pc := 49) dX2_addDeposit_49 ?_
          refine j_lconst (pc := 50) (v := 1) dX2_addDeposit_50 (by decide) ?_
          refine j_ldc2 (pc := 51) dX2_addDeposit_51 wT_kl_X2_143 ?_
          refine cd_X2_94 (pc := 54) rfl (t_within) dX2_addDeposit_54 rfl rfl ?_
          refine j_bif_ne (pc := 57) (tgt := 63) dX2_addDeposit_57 (by decide) (fun c57 => ?_) (fun c57 => ?_)
          · refine j_aload3 (pc := 63) dX2_addDeposit_63 ?_
            refine j_dup (pc := 64) dX2_addDeposit_64 ?_
            refine g_X2_145 (pc := 65) rfl hp dX2_addDeposit_65 ?_
            refine j_iload2 (pc := 68) dX2_addDeposit_68 ?_
            refine j_i2l (pc := 69) dX2_addDeposit_69 ?_
            refine j_ladd (pc := 70) dX2_addDeposit_70 ?_
            refine p_X2_145 (pc := 71) rfl hp dX2_addDeposit_71 ?_
            refine j_iconst (pc := 74) (v := 0) dX2_addDeposit_74 (by decide) ?_
            refine j_iret (pc := 75) dX2_addDeposit_75 rfl rfl ?_
            exact ⟨_, rfl, by rw [if_pos c8, if_pos c32, if_pos c43, if_pos c57], by rw [if_pos c8, if_pos c32, if_pos c43, if_pos c57]⟩
          · refine j_bipush (pc := 60) (v := 7) dX2_addDeposit_60 (by decide) ?_
            refine j_iret (pc := 62) dX2_addDeposit_62 rfl rfl ?_
            exact ⟨_, rfl, by rw [if_pos c8, if_pos c32, if_pos c43, if_neg (by rw [c57]; decide)], by rw [if_pos c8, if_pos c32, if_pos c43, if_neg (by rw [c57]; decide)]⟩
        · refine j_iconst (pc := 46) (v := 4) dX2_addDeposit_46 (by decide) ?_
          refine j_iret (pc := 47) dX2_addDeposit_47 rfl rfl ?_
          exact ⟨_, rfl, by rw [if_pos c8, if_pos c32, if_neg c43], by rw [if_pos c8, if_pos c32, if_neg c43]⟩
      · refine j_bipush (pc := 35) (v := 10) dX2_addDeposit_35 (by decide) ?_
        refine j_iret (pc := 37) dX2_addDeposit_37 rfl rfl ?_
        exact ⟨_, rfl, by rw [if_pos c8, if_neg c32], by rw [if_pos c8, if_neg c32]⟩
    · refine j_iconst (pc := 11) (v := 2) dX2_addDeposit_11 (by decide) ?_
      refine j_iret (pc := 12) dX2_addDeposit_12 rfl rfl ?_
      exact ⟨_, rfl, by rw [if_neg c8], by rw [if_neg c8]⟩
theorem t_layRow {n : Int32} (hA : RSh h.1 A) : DI cx mX2_layRow 3 h [.ref A, .int n] (rRow h A n).1 (rRow h A n).2 := by
  have hB := hA.2.2.2.2.2.1.2
  have S := t_replaceRow (cx := cx) (h := h) (B := A + 5) (m := n) hB
  unfold rRow
  refine Sp.of 0 (by decide) (Nat.le_of_ble_eq_true rfl) rfl ?_
  refine j_aload0 (pc := 0) dX2_layRow_0 ?_
  refine g_X2_42 (pc := 1) rfl hA.1 hA.2.2.2.2.2.1.1 dX2_layRow_1 ?_
  refine g_X2_85 (pc := 4) rfl hA.2.2.2.2.2.1.2.1 dX2_layRow_4 ?_
  refine j_iconst (pc := 7) (v := 1) dX2_layRow_7 (by decide) ?_
  refine j_icmp_eq (pc := 8) (tgt := 13) dX2_layRow_8 (by decide) (fun c8 => ?_) (fun c8 => ?_)
  · refine j_aload0 (pc := 13) dX2_layRow_13 ?_
    refine g_X2_42 (pc := 14) rfl hA.1 hA.2.2.2.2.2.1.1 dX2_layRow_14 ?_
    refine cd_X2_148 (pc := 17) rfl (t_roundIsLeft hB) hA.2.2.2.2.2.1.2.1 dX2_layRow_17 rfl rfl ?_
    refine j_bif_ne (pc := 20) (tgt := 26) dX2_layRow_20 (by decide) (fun c20 => ?_) (fun c20 => ?_)
    · refine j_iload1 (pc := 26) dX2_layRow_26 ?_
      refine j_i2l (pc := 27) dX2_layRow_27 ?_
      refine j_lconst (pc := 28) (v := 0) dX2_layRow_28 (by decide) ?_
      refine j_ldc2 (pc := 29) dX2_layRow_29 wT_kl_X2_151 ?_
      refine cd_X2_94 (pc := 32) rfl (t_within) dX2_layRow_32 rfl rfl ?_
      refine j_bif_ne (pc := 35) (tgt := 41) dX2_layRow_35 (by decide) (fun c35 => ?_) (fun c35 => ?_)
      · refine j_aload0 (pc := 41) dX2_layRow_41 ?_
        refine g_X2_42 (pc := 42) rfl hA.1 hA.2.2.2.2.2.1.1 dX2_layRow_42 ?_
        refine j_iload1 (pc := 45) dX2_layRow_45 ?_
        refine cd_X2_153 (pc := 46) rfl (S) hA.2.2.2.2.2.1.2.1 dX2_layRow_46 rfl rfl ?_
        refine j_iconst (pc := 49) (v := 0) dX2_layRow_49 (by decide) ?_
        refine j_iret (pc := 50) dX2_layRow_50 rfl rfl ?_
        exact ⟨_, rfl, by rw [if_pos c8, if_pos c20, if_pos c35], by rw [if_pos c8, if_pos c20, if_pos c35]⟩
      · refine j_bipush (pc := 38) (v := 7) dX2_layRow_38 (by decide) ?_
        refine j_iret (pc := 40) dX2_layRow_40 rfl rfl ?_
        exact ⟨_, rfl, by rw [if_pos c8, if_pos c20, if_neg (by rw [c35]; decide)], by rw [if_pos c8, if_pos c20, if_neg (by rw [c35]; decide)]⟩
    · refine j_bipush (pc := 23) (v := 8) dX2_layRow_23 (by decide) ?_
      refine j_iret (pc := 25) dX2_layRow_25 rfl rfl ?_
      exact ⟨_, rfl, by rw [if_pos c8, if_neg (by rw [c20]; decide)], by rw [if_pos c8, if_neg (by rw [c20]; decide)]⟩
  · refine j_iconst (pc := 11) (v := 2) dX2_layRow_11 (by decide) ?_
    refine j_iret (pc := 12) dX2_layRow_12 rfl rfl ?_
    exact ⟨_, rfl, by rw [if_neg c8], by rw [if_neg c8]⟩
theorem t_payIn {s x : Int32} (hA : RSh h.1 A) : DI cx mX2_payIn 3 h [.ref A, .int s, .int x] (rPayIn h A s x).1 (rPayIn h A s x).2 := by
  have hB := hA.2.2.2.2.2.1.2
  have S := t_placeAt (cx := cx) (h := h) (B := A + 5) (s := s) hB
  unfold rPayIn
  cases hm : bPl h (A + 5) s with
  | none =>
    rw [hm] at S
    dsimp only
    refine Sp.of 1 (by decide) (Nat.le_of_ble_eq_true rfl) rfl ?_
    refine j_aload0 (pc := 0) dX2_payIn_0 ?_
    refine g_X2_42 (pc := 1) rfl hA.1 hA.2.2.2.2.2.1.1 dX2_payIn_1 ?_
    refine g_X2_85 (pc := 4) rfl hA.2.2.2.2.2.1.2.1 dX2_payIn_4 ?_
    refine j_iconst (pc := 7) (v := 1) dX2_payIn_7 (by decide) ?_
    refine j_icmp_eq (pc := 8) (tgt := 13) dX2_payIn_8 (by decide) (fun c8 => ?_) (fun c8 => ?_)
    · refine j_aload0 (pc := 13) dX2_payIn_13 ?_
      refine g_X2_42 (pc := 14) rfl hA.1 hA.2.2.2.2.2.1.1 dX2_payIn_14 ?_
      refine j_iload1 (pc := 17) dX2_payIn_17 ?_
      refine cd_X2_138 (pc := 18) rfl (S) hA.2.2.2.2.2.1.2.1 dX2_payIn_18 rfl rfl ?_
      refine j_rn ?_
      refine j_nstore3 (pc := 21) dX2_payIn_21 (by decide) trivial ?_
      refine j_nload3 (pc := 22) dX2_payIn_22 ?_
      refine j_ifnonnullN (pc := 23) dX2_payIn_23 ?_
      refine j_iconst (pc := 26) (v := 3) dX2_payIn_26 (by decide) ?_
      refine j_iret (pc := 27) dX2_payIn_27 rfl rfl ?_
      exact ⟨_, rfl, by rw [if_pos c8], by rw [if_pos c8]⟩
    · refine j_iconst (pc := 11) (v := 2) dX2_payIn_11 (by decide) ?_
      refine j_iret (pc := 12) dX2_payIn_12 rfl rfl ?_
      exact ⟨_, rfl, by rw [if_neg c8], by rw [if_neg c8]⟩
  | some p =>
    rw [hm] at S
    dsimp only
    have hp := bPl_kd hB hm
    have S1 := t_payFirst (cx := cx) hA hp
    have S2 := t_paySecond (cx := cx) hA hp
    refine Sp.of 1 (by decide) (Nat.le_of_ble_eq_true rfl) rfl ?_
    refine j_aload0 (pc := 0) dX2_payIn_0 ?_
    refine g_X2_42 (pc := 1) rfl hA.1 hA.2.2.2.2.2.1.1 dX2_payIn_1 ?_
    refine g_X2_85 (pc := 4) rfl hA.2.2.2.2.2.1.2.1 dX2_payIn_4 ?_
    refine j_iconst (pc := 7) (v := 1) dX2_payIn_7 (by decide) ?_
    refine j_icmp_eq (pc := 8) (tgt := 13) dX2_payIn_8 (by decide) (fun c8 => ?_) (fun c8 => ?_)
    · refine j_aload0 (pc := 13) dX2_payIn_13 ?_
      refine g_X2_42 (pc := 14) rfl hA.1 hA.2.2.2.2.2.1.1 dX2_payIn_14 ?_
      refine j_iload1 (pc := 17) dX2_payIn_17 ?_
      refine cd_X2_138 (pc := 18) rfl (S) hA.2.2.2.2.2.1.2.1 dX2_payIn_18 rfl rfl ?_
      refine j_rs ?_
      refine j_astore3 (pc := 21) dX2_payIn_21 (by decide) trivial ?_
      refine j_aload3 (pc := 22) dX2_payIn_22 ?_
      refine j_ifnonnull (pc := 23) (tgt := 28) dX2_payIn_23 (by decide) ?_
      refine j_aload3 (pc := 28) dX2_payIn_28 ?_
      refine g_X2_141 (pc := 29) rfl hp dX2_payIn_29 ?_
      refine j_if_eq (pc := 32) (tgt := 38) dX2_payIn_32 (by decide) (fun c32 => ?_) (fun c32 => ?_)
      · refine j_iload2 (pc := 38) dX2_payIn_38 ?_
        refine j_iconst (pc := 39) (v := 1) dX2_payIn_39 (by decide) ?_
        refine j_icmp_ne (pc := 40) (tgt := 53) dX2_payIn_40 (by decide) (fun c40 => ?_) (fun c40 => ?_)
        · have e53 : ¬ (x = 1 ∧ ¬ h.i p 0 = 3) := by first | exact fun z => c40 z.1 | exact fun z => z.2 c48
          refine j_iload2 (pc := 53) dX2_payIn_53 ?_
          refine j_i2l (pc := 54) dX2_payIn_54 ?_
          refine j_lconst (pc := 55) (v := 0) dX2_payIn_55 (by decide) ?_
          refine j_lconst (pc := 56) (v := 1) dX2_payIn_56 (by decide) ?_
          refine cd_X2_94 (pc := 57) rfl (t_within) dX2_payIn_57 rfl rfl ?_
          refine j_bif_ne (pc := 60) (tgt := 66) dX2_payIn_60 (by decide) (fun c60 => ?_) (fun c60 => ?_)
          · refine j_aload0 (pc := 66) dX2_payIn_66 ?_
            refine g_X2_42 (pc := 67) rfl hA.1 hA.2.2.2.2.2.1.1 dX2_payIn_67 ?_
            refine g_X2_157 (pc := 70) rfl hA.2.2.2.2.2.1.2.1 dX2_payIn_70 ?_
            refine j_iconst (pc := 73) (v := (-1)) dX2_payIn_73 (by decide) ?_
            refine j_icmp_ne (pc := 74) (tgt := 79) dX2_payIn_74 (by decide) (fun c74 => ?_) (fun c74 => ?_)
            · refine j_iload1 (pc := 79) dX2_payIn_79 ?_
              refine j_aload0 (pc := 80) dX2_payIn_80 ?_
              refine g_X2_42 (pc := 81) rfl hA.1 hA.2.2.2.2.2.1.1 dX2_payIn_81 ?_
              refine g_X2_157 (pc := 84) rfl hA.2.2.2.2.2.1.2.1 dX2_payIn_84 ?_
              refine j_icmp_lt (pc := 87) (tgt := 93) dX2_payIn_87 (by decide) (fun c87 => ?_) (fun c87 => ?_)
              · refine j_iload2 (pc := 93) dX2_payIn_93 ?_
                refine j_if_ne (pc := 94) (tgt := 105) dX2_payIn_94 (by decide) (fun c94 => ?_) (fun c94 => ?_)
                · refine j_aload0 (pc := 105) dX2_payIn_105 ?_
                  refine j_aload3 (pc := 106) dX2_payIn_106 ?_
                  refine cd_X2_164 (pc := 107) rfl (S2) hA.1 dX2_payIn_107 rfl rfl ?_
                  refine j_iret (pc := 110) dX2_payIn_110 rfl rfl ?_
                  first | (rw [if_pos c8, if_pos c32, if_neg e53, if_pos c60, if_neg c74, if_pos c87, if_pos c94]; exact ⟨_, rfl, rfl, rfl⟩) | (rw [if_pos c8, if_pos c32, if_neg e53, if_pos c60, if_neg c74, if_pos c87, if_neg c94]; exact ⟨_, rfl, rfl, rfl⟩)
                · refine j_aload0 (pc := 97) dX2_payIn_97 ?_
                  refine j_aload3 (pc := 98) dX2_payIn_98 ?_
                  refine cd_X2_160 (pc := 99) rfl (S1) hA.1 dX2_payIn_99 rfl rfl ?_
                  refine j_goto (pc := 102) (tgt := 110) dX2_payIn_102 (by decide) ?_
                  refine j_iret (pc := 110) dX2_payIn_110 rfl rfl ?_
                  first | (rw [if_pos c8, if_pos c32, if_neg e53, if_pos c60, if_neg c74, if_pos c87, if_pos c94]; exact ⟨_, rfl, rfl, rfl⟩) | (rw [if_pos c8, if_pos c32, if_neg e53, if_pos c60, if_neg c74, if_pos c87, if_neg c94]; exact ⟨_, rfl, rfl, rfl⟩)
              · refine j_bipush (pc := 90) (v := 6) dX2_payIn_90 (by decide) ?_
                refine j_iret (pc := 92) dX2_payIn_92 rfl rfl ?_
                exact ⟨_, rfl, by rw [if_pos c8, if_pos c32, if_neg e53, if_pos c60, if_neg c74, if_neg c87], by rw [if_pos c8, if_pos c32, if_neg e53, if_pos c60, if_neg c74, if_neg c87]⟩
            · refine j_iconst (pc := 77) (v := 5) dX2_payIn_77 (by decide) ?_
              refine j_iret (pc := 78) dX2_payIn_78 rfl rfl ?_
              exact ⟨_, rfl, by rw [if_pos c8, if_pos c32, if_neg e53, if_pos c60, if_pos c74], by rw [if_pos c8, if_pos c32, if_neg e53, if_pos c60, if_pos c74]⟩
          · refine j_bipush (pc := 63) (v := 7) dX2_payIn_63 (by decide) ?_
            refine j_iret (pc := 65) dX2_payIn_65 rfl rfl ?_
            exact ⟨_, rfl, by rw [if_pos c8, if_pos c32, if_neg e53, if_neg (by rw [c60]; decide)], by rw [if_pos c8, if_pos c32, if_neg e53, if_neg (by rw [c60]; decide)]⟩
        · refine j_aload3 (pc := 43) dX2_payIn_43 ?_
          refine g_X2_98 (pc := 44) rfl hp dX2_payIn_44 ?_
          refine j_iconst (pc := 47) (v := 3) dX2_payIn_47 (by decide) ?_
          refine j_icmp_eq (pc := 48) (tgt := 53) dX2_payIn_48 (by decide) (fun c48 => ?_) (fun c48 => ?_)
          · have e53 : ¬ (x = 1 ∧ ¬ h.i p 0 = 3) := by first | exact fun z => c40 z.1 | exact fun z => z.2 c48
            refine j_iload2 (pc := 53) dX2_payIn_53 ?_
            refine j_i2l (pc := 54) dX2_payIn_54 ?_
            refine j_lconst (pc := 55) (v := 0) dX2_payIn_55 (by decide) ?_
            refine j_lconst (pc := 56) (v := 1) dX2_payIn_56 (by decide) ?_
            refine cd_X2_94 (pc := 57) rfl (t_within) dX2_payIn_57 rfl rfl ?_
            refine j_bif_ne (pc := 60) (tgt := 66) dX2_payIn_60 (by decide) (fun c60 => ?_) (fun c60 => ?_)
            · refine j_aload0 (pc := 66) dX2_payIn_66 ?_
              refine g_X2_42 (pc := 67) rfl hA.1 hA.2.2.2.2.2.1.1 dX2_payIn_67 ?_
              refine g_X2_157 (pc := 70) rfl hA.2.2.2.2.2.1.2.1 dX2_payIn_70 ?_
              refine j_iconst (pc := 73) (v := (-1)) dX2_payIn_73 (by decide) ?_
              refine j_icmp_ne (pc := 74) (tgt := 79) dX2_payIn_74 (by decide) (fun c74 => ?_) (fun c74 => ?_)
              · refine j_iload1 (pc := 79) dX2_payIn_79 ?_
                refine j_aload0 (pc := 80) dX2_payIn_80 ?_
                refine g_X2_42 (pc := 81) rfl hA.1 hA.2.2.2.2.2.1.1 dX2_payIn_81 ?_
                refine g_X2_157 (pc := 84) rfl hA.2.2.2.2.2.1.2.1 dX2_payIn_84 ?_
                refine j_icmp_lt (pc := 87) (tgt := 93) dX2_payIn_87 (by decide) (fun c87 => ?_) (fun c87 => ?_)
                · refine j_iload2 (pc := 93) dX2_payIn_93 ?_
                  refine j_if_ne (pc := 94) (tgt := 105) dX2_payIn_94 (by decide) (fun c94 => ?_) (fun c94 => ?_)
                  · refine j_aload0 (pc := 105) dX2_payIn_105 ?_
                    refine j_aload3 (pc := 106) dX2_payIn_106 ?_
                    refine cd_X2_164 (pc := 107) rfl (S2) hA.1 dX2_payIn_107 rfl rfl ?_
                    refine j_iret (pc := 110) dX2_payIn_110 rfl rfl ?_
                    first | (rw [if_pos c8, if_pos c32, if_neg e53, if_pos c60, if_neg c74, if_pos c87, if_pos c94]; exact ⟨_, rfl, rfl, rfl⟩) | (rw [if_pos c8, if_pos c32, if_neg e53, if_pos c60, if_neg c74, if_pos c87, if_neg c94]; exact ⟨_, rfl, rfl, rfl⟩)
                  · refine j_aload0 (pc := 97) dX2_payIn_97 ?_
                    refine j_aload3 (pc := 98) dX2_payIn_98 ?_
                    refine cd_X2_160 (pc := 99) rfl (S1) hA.1 dX2_payIn_99 rfl rfl ?_
                    refine j_goto (pc := 102) (tgt := 110) dX2_payIn_102 (by decide) ?_
                    refine j_iret (pc := 110) dX2_payIn_110 rfl rfl ?_
                    first | (rw [if_pos c8, if_pos c32, if_neg e53, if_pos c60, if_neg c74, if_pos c87, if_pos c94]; exact ⟨_, rfl, rfl, rfl⟩) | (rw [if_pos c8, if_pos c32, if_neg e53, if_pos c60, if_neg c74, if_pos c87, if_neg c94]; exact ⟨_, rfl, rfl, rfl⟩)
                · refine j_bipush (pc := 90) (v := 6) dX2_payIn_90 (by decide) ?_
                  refine j_iret (pc := 92) dX2_payIn_92 rfl rfl ?_
                  exact ⟨_, rfl, by rw [if_pos c8, if_pos c32, if_neg e53, if_pos c60, if_neg c74, if_neg c87], by rw [if_pos c8, if_pos c32, if_neg e53, if_pos c60, if_neg c74, if_neg c87]⟩
              · refine j_iconst (pc := 77) (v := 5) dX2_payIn_77 (by decide) ?_
                refine j_iret (pc := 78) dX2_payIn_78 rfl rfl ?_
                exact ⟨_, rfl, by rw [if_pos c8, if_pos c32, if_neg e53, if_pos c60, if_pos c74], by rw [if_pos c8, if_pos c32, if_neg e53, if_pos c60, if_pos c74]⟩
            · refine j_bipush (pc := 63) (v := 7) dX2_payIn_63 (by decide) ?_
              refine j_iret (pc := 65) dX2_payIn_65 rfl rfl ?_
              exact ⟨_, rfl, by rw [if_pos c8, if_pos c32, if_neg e53, if_neg (by rw [c60]; decide)], by rw [if_pos c8, if_pos c32, if_neg e53, if_neg (by rw [c60]; decide)]⟩
          · refine j_iconst (pc := 51) (v := 4) dX2_payIn_51 (by decide) ?_
            refine j_iret (pc := 52) dX2_payIn_52 rfl rfl ?_
            exact ⟨_, rfl, by rw [if_pos c8, if_pos c32, if_pos ⟨c40, c48⟩], by rw [if_pos c8, if_pos c32, if_pos ⟨c40, c48⟩]⟩
      · refine j_bipush (pc := 35) (v := 10) dX2_payIn_35 (by decide) ?_
        refine j_iret (pc := 37) dX2_payIn_37 rfl rfl ?_
        exact ⟨_, rfl, by rw [if_pos c8, if_neg c32], by rw [if_pos c8, if_neg c32]⟩
    · refine j_iconst (pc := 11) (v := 2) dX2_payIn_11 (by decide) ?_
      refine j_iret (pc := 12) dX2_payIn_12 rfl rfl ?_
      exact ⟨_, rfl, by rw [if_neg c8], by rw [if_neg c8]⟩
theorem t_payDebt {s : Int32} (hA : RSh h.1 A) : DI cx mX2_payDebt 3 h [.ref A, .int s] (rLate h A s).1 (rLate h A s).2 := by
  have hB := hA.2.2.2.2.2.1.2
  have S := t_placeAt (cx := cx) (h := h) (B := A + 5) (s := s) hB
  unfold rLate
  cases hm : bPl h (A + 5) s with
  | none =>
    rw [hm] at S
    dsimp only
    refine Sp.of 1 (by decide) (Nat.le_of_ble_eq_true rfl) rfl ?_
    refine j_aload0 (pc := 0) dX2_payDebt_0 ?_
    refine g_X2_42 (pc := 1) rfl hA.1 hA.2.2.2.2.2.1.1 dX2_payDebt_1 ?_
    refine g_X2_85 (pc := 4) rfl hA.2.2.2.2.2.1.2.1 dX2_payDebt_4 ?_
    refine j_iconst (pc := 7) (v := 1) dX2_payDebt_7 (by decide) ?_
    refine j_icmp_eq (pc := 8) (tgt := 13) dX2_payDebt_8 (by decide) (fun c8 => ?_) (fun c8 => ?_)
    · refine j_aload0 (pc := 13) dX2_payDebt_13 ?_
      refine g_X2_42 (pc := 14) rfl hA.1 hA.2.2.2.2.2.1.1 dX2_payDebt_14 ?_
      refine j_iload1 (pc := 17) dX2_payDebt_17 ?_
      refine cd_X2_138 (pc := 18) rfl (S) hA.2.2.2.2.2.1.2.1 dX2_payDebt_18 rfl rfl ?_
      refine j_rn ?_
      refine j_nstore2 (pc := 21) dX2_payDebt_21 (by decide) trivial ?_
      refine j_nload2 (pc := 22) dX2_payDebt_22 ?_
      refine j_ifnonnullN (pc := 23) dX2_payDebt_23 ?_
      refine j_iconst (pc := 26) (v := 3) dX2_payDebt_26 (by decide) ?_
      refine j_iret (pc := 27) dX2_payDebt_27 rfl rfl ?_
      exact ⟨_, rfl, by rw [if_pos c8], by rw [if_pos c8]⟩
    · refine j_iconst (pc := 11) (v := 2) dX2_payDebt_11 (by decide) ?_
      refine j_iret (pc := 12) dX2_payDebt_12 rfl rfl ?_
      exact ⟨_, rfl, by rw [if_neg c8], by rw [if_neg c8]⟩
  | some p =>
    rw [hm] at S
    dsimp only
    have hp := bPl_kd hB hm
    refine Sp.of 1 (by decide) (Nat.le_of_ble_eq_true rfl) rfl ?_
    refine j_aload0 (pc := 0) dX2_payDebt_0 ?_
    refine g_X2_42 (pc := 1) rfl hA.1 hA.2.2.2.2.2.1.1 dX2_payDebt_1 ?_
    refine g_X2_85 (pc := 4) rfl hA.2.2.2.2.2.1.2.1 dX2_payDebt_4 ?_
    refine j_iconst (pc := 7) (v := 1) dX2_payDebt_7 (by decide) ?_
    refine j_icmp_eq (pc := 8) (tgt := 13) dX2_payDebt_8 (by decide) (fun c8 => ?_) (fun c8 => ?_)
    · refine j_aload0 (pc := 13) dX2_payDebt_13 ?_
      refine g_X2_42 (pc := 14) rfl hA.1 hA.2.2.2.2.2.1.1 dX2_payDebt_14 ?_
      refine j_iload1 (pc := 17) dX2_payDebt_17 ?_
      refine cd_X2_138 (pc := 18) rfl (S) hA.2.2.2.2.2.1.2.1 dX2_payDebt_18 rfl rfl ?_
      refine j_rs ?_
      refine j_astore2 (pc := 21) dX2_payDebt_21 (by decide) trivial ?_
      refine j_aload2 (pc := 22) dX2_payDebt_22 ?_
      refine j_ifnonnull (pc := 23) (tgt := 28) dX2_payDebt_23 (by decide) ?_
      refine j_aload2 (pc := 28) dX2_payDebt_28 ?_
      refine g_X2_141 (pc := 29) rfl hp dX2_payDebt_29 ?_
      refine j_if_eq (pc := 32) (tgt := 38) dX2_payDebt_32 (by decide) (fun c32 => ?_) (fun c32 => ?_)
      · refine j_aload2 (pc := 38) dX2_payDebt_38 ?_
        refine g_X2_185 (pc := 39) rfl hp dX2_payDebt_39 ?_
        refine j_lconst (pc := 42) (v := 0) dX2_payDebt_42 (by decide) ?_
        refine j_lcmp_ne (pc := 43) (tgt := 50) dX2_payDebt_43 dX2_payDebt_44 (by decide) (fun c43 => ?_) (fun c43 => ?_)
        · refine j_aload0 (pc := 50) dX2_payDebt_50 ?_
          refine g_X2_42 (pc := 51) rfl hA.1 hA.2.2.2.2.2.1.1 dX2_payDebt_51 ?_
          refine j_dup (pc := 54) dX2_payDebt_54 ?_
          refine g_X2_46 (pc := 55) rfl hA.2.2.2.2.2.1.2.1 dX2_payDebt_55 ?_
          refine j_aload2 (pc := 58) dX2_payDebt_58 ?_
          refine g_X2_185 (pc := 59) rfl hp dX2_payDebt_59 ?_
          refine j_aload0 (pc := 62) dX2_payDebt_62 ?_
          refine g_X2_19 (pc := 63) rfl hA.1 dX2_payDebt_63 ?_
          refine j_ladd (pc := 66) dX2_payDebt_66 ?_
          refine j_ladd (pc := 67) dX2_payDebt_67 ?_
          refine p_X2_46 (pc := 68) rfl hA.2.2.2.2.2.1.2.1 dX2_payDebt_68 ?_
          show J cx mX2_payDebt _ (lt1 h A p) _ _ _ _ _ _
          refine j_aload0 (pc := 71) dX2_payDebt_71 ?_
          refine g_X2_42 (pc := 72) rfl hA.1 hA.2.2.2.2.2.1.1 dX2_payDebt_72 ?_
          refine j_dup (pc := 75) dX2_payDebt_75 ?_
          refine g_X2_188 (pc := 76) rfl hA.2.2.2.2.2.1.2.1 dX2_payDebt_76 ?_
          refine j_aload0 (pc := 79) dX2_payDebt_79 ?_
          refine g_X2_19 (pc := 80) rfl hA.1 dX2_payDebt_80 ?_
          refine j_ladd (pc := 83) dX2_payDebt_83 ?_
          refine p_X2_188 (pc := 84) rfl hA.2.2.2.2.2.1.2.1 dX2_payDebt_84 ?_
          show J cx mX2_payDebt _ (lt2 (lt1 h A p) A) _ _ _ _ _ _
          refine j_aload2 (pc := 87) dX2_payDebt_87 ?_
          refine j_dup (pc := 88) dX2_payDebt_88 ?_
          refine g_X2_182 (pc := 89) rfl hp dX2_payDebt_89 ?_
          refine j_aload2 (pc := 92) dX2_payDebt_92 ?_
          refine g_X2_185 (pc := 93) rfl hp dX2_payDebt_93 ?_
          refine j_ladd (pc := 96) dX2_payDebt_96 ?_
          refine p_X2_182 (pc := 97) rfl hp dX2_payDebt_97 ?_
          refine j_aload2 (pc := 100) dX2_payDebt_100 ?_
          refine j_lconst (pc := 101) (v := 0) dX2_payDebt_101 (by decide) ?_
          refine p_X2_185 (pc := 102) rfl hp dX2_payDebt_102 ?_
          show J cx mX2_payDebt _ (lt3 (lt2 (lt1 h A p) A) p) _ _ _ _ _ _
          refine j_iconst (pc := 105) (v := 0) dX2_payDebt_105 (by decide) ?_
          refine j_iret (pc := 106) dX2_payDebt_106 rfl rfl ?_
          exact ⟨_, rfl, by rw [if_pos c8, if_pos c32, if_neg c43], by rw [if_pos c8, if_pos c32, if_neg c43]⟩
        · refine j_bipush (pc := 47) (v := 8) dX2_payDebt_47 (by decide) ?_
          refine j_iret (pc := 49) dX2_payDebt_49 rfl rfl ?_
          exact ⟨_, rfl, by rw [if_pos c8, if_pos c32, if_pos c43], by rw [if_pos c8, if_pos c32, if_pos c43]⟩
      · refine j_bipush (pc := 35) (v := 10) dX2_payDebt_35 (by decide) ?_
        refine j_iret (pc := 37) dX2_payDebt_37 rfl rfl ?_
        exact ⟨_, rfl, by rw [if_pos c8, if_neg c32], by rw [if_pos c8, if_neg c32]⟩
    · refine j_iconst (pc := 11) (v := 2) dX2_payDebt_11 (by decide) ?_
      refine j_iret (pc := 12) dX2_payDebt_12 rfl rfl ?_
      exact ⟨_, rfl, by rw [if_neg c8], by rw [if_neg c8]⟩
theorem t_whyNoWish {s k : Int32} (hA : RSh h.1 A) : DI cx mX2_whyNoWish 3 h [.ref A, .int s, .int k] (rWhy h A s k) h := by
  have hB := hA.2.2.2.2.2.1.2
  have S := t_placeAt (cx := cx) (h := h) (B := A + 5) (s := s) hB
  unfold rWhy
  cases hm : bPl h (A + 5) s with
  | none =>
    rw [hm] at S
    dsimp only
    refine Sp.of 1 (by decide) (Nat.le_of_ble_eq_true rfl) rfl ?_
    refine j_aload0 (pc := 0) dX2_whyNoWish_0 ?_
    refine g_X2_42 (pc := 1) rfl hA.1 hA.2.2.2.2.2.1.1 dX2_whyNoWish_1 ?_
    refine g_X2_85 (pc := 4) rfl hA.2.2.2.2.2.1.2.1 dX2_whyNoWish_4 ?_
    refine j_iconst (pc := 7) (v := 1) dX2_whyNoWish_7 (by decide) ?_
    refine j_icmp_eq (pc := 8) (tgt := 13) dX2_whyNoWish_8 (by decide) (fun c8 => ?_) (fun c8 => ?_)
    · refine j_aload0 (pc := 13) dX2_whyNoWish_13 ?_
      refine g_X2_9 (pc := 14) rfl hA.1 dX2_whyNoWish_14 ?_
      refine j_iload2 (pc := 17) dX2_whyNoWish_17 ?_
      refine j_icmp_eq (pc := 18) (tgt := 23) dX2_whyNoWish_18 (by decide) (fun c18 => ?_) (fun c18 => ?_)
      · refine j_aload0 (pc := 23) dX2_whyNoWish_23 ?_
        refine g_X2_42 (pc := 24) rfl hA.1 hA.2.2.2.2.2.1.1 dX2_whyNoWish_24 ?_
        refine j_iload1 (pc := 27) dX2_whyNoWish_27 ?_
        refine cd_X2_138 (pc := 28) rfl (S) hA.2.2.2.2.2.1.2.1 dX2_whyNoWish_28 rfl rfl ?_
        refine j_rn ?_
        refine j_nstore3 (pc := 31) dX2_whyNoWish_31 (by decide) trivial ?_
        refine j_nload3 (pc := 32) dX2_whyNoWish_32 ?_
        refine j_ifnonnullN (pc := 33) dX2_whyNoWish_33 ?_
        refine j_iconst (pc := 36) (v := 3) dX2_whyNoWish_36 (by decide) ?_
        refine j_iret (pc := 37) dX2_whyNoWish_37 rfl rfl ?_
        exact ⟨_, rfl, by rw [if_pos c8, if_pos c18], rfl⟩
      · refine j_iconst (pc := 21) (v := 4) dX2_whyNoWish_21 (by decide) ?_
        refine j_iret (pc := 22) dX2_whyNoWish_22 rfl rfl ?_
        exact ⟨_, rfl, by rw [if_pos c8, if_neg c18], rfl⟩
    · refine j_iconst (pc := 11) (v := 2) dX2_whyNoWish_11 (by decide) ?_
      refine j_iret (pc := 12) dX2_whyNoWish_12 rfl rfl ?_
      exact ⟨_, rfl, by rw [if_neg c8], rfl⟩
  | some p =>
    rw [hm] at S
    dsimp only
    have hp := bPl_kd hB hm
    refine Sp.of 1 (by decide) (Nat.le_of_ble_eq_true rfl) rfl ?_
    refine j_aload0 (pc := 0) dX2_whyNoWish_0 ?_
    refine g_X2_42 (pc := 1) rfl hA.1 hA.2.2.2.2.2.1.1 dX2_whyNoWish_1 ?_
    refine g_X2_85 (pc := 4) rfl hA.2.2.2.2.2.1.2.1 dX2_whyNoWish_4 ?_
    refine j_iconst (pc := 7) (v := 1) dX2_whyNoWish_7 (by decide) ?_
    refine j_icmp_eq (pc := 8) (tgt := 13) dX2_whyNoWish_8 (by decide) (fun c8 => ?_) (fun c8 => ?_)
    · refine j_aload0 (pc := 13) dX2_whyNoWish_13 ?_
      refine g_X2_9 (pc := 14) rfl hA.1 dX2_whyNoWish_14 ?_
      refine j_iload2 (pc := 17) dX2_whyNoWish_17 ?_
      refine j_icmp_eq (pc := 18) (tgt := 23) dX2_whyNoWish_18 (by decide) (fun c18 => ?_) (fun c18 => ?_)
      · refine j_aload0 (pc := 23) dX2_whyNoWish_23 ?_
        refine g_X2_42 (pc := 24) rfl hA.1 hA.2.2.2.2.2.1.1 dX2_whyNoWish_24 ?_
        refine j_iload1 (pc := 27) dX2_whyNoWish_27 ?_
        refine cd_X2_138 (pc := 28) rfl (S) hA.2.2.2.2.2.1.2.1 dX2_whyNoWish_28 rfl rfl ?_
        refine j_rs ?_
        refine j_astore3 (pc := 31) dX2_whyNoWish_31 (by decide) trivial ?_
        refine j_aload3 (pc := 32) dX2_whyNoWish_32 ?_
        refine j_ifnonnull (pc := 33) (tgt := 38) dX2_whyNoWish_33 (by decide) ?_
        refine j_aload3 (pc := 38) dX2_whyNoWish_38 ?_
        refine g_X2_141 (pc := 39) rfl hp dX2_whyNoWish_39 ?_
        refine j_if_eq (pc := 42) (tgt := 48) dX2_whyNoWish_42 (by decide) (fun c42 => ?_) (fun c42 => ?_)
        · refine j_aload3 (pc := 48) dX2_whyNoWish_48 ?_
          refine g_X2_208 (pc := 49) rfl hp dX2_whyNoWish_49 ?_
          refine j_if_eq (pc := 52) (tgt := 60) dX2_whyNoWish_52 (by decide) (fun c52 => ?_) (fun c52 => ?_)
          · refine j_iconst (pc := 60) (v := 0) dX2_whyNoWish_60 (by decide) ?_
            refine j_iret (pc := 61) dX2_whyNoWish_61 rfl rfl ?_
            first | (rw [if_pos c8, if_pos c18, if_pos c42, if_pos c52]; exact ⟨_, rfl, rfl, rfl⟩) | (rw [if_pos c8, if_pos c18, if_pos c42, if_neg c52]; exact ⟨_, rfl, rfl, rfl⟩)
          · refine j_bipush (pc := 55) (v := 8) dX2_whyNoWish_55 (by decide) ?_
            refine j_goto (pc := 57) (tgt := 61) dX2_whyNoWish_57 (by decide) ?_
            refine j_iret (pc := 61) dX2_whyNoWish_61 rfl rfl ?_
            first | (rw [if_pos c8, if_pos c18, if_pos c42, if_pos c52]; exact ⟨_, rfl, rfl, rfl⟩) | (rw [if_pos c8, if_pos c18, if_pos c42, if_neg c52]; exact ⟨_, rfl, rfl, rfl⟩)
        · refine j_bipush (pc := 45) (v := 10) dX2_whyNoWish_45 (by decide) ?_
          refine j_iret (pc := 47) dX2_whyNoWish_47 rfl rfl ?_
          exact ⟨_, rfl, by rw [if_pos c8, if_pos c18, if_neg c42], rfl⟩
      · refine j_iconst (pc := 21) (v := 4) dX2_whyNoWish_21 (by decide) ?_
        refine j_iret (pc := 22) dX2_whyNoWish_22 rfl rfl ?_
        exact ⟨_, rfl, by rw [if_pos c8, if_neg c18], rfl⟩
    · refine j_iconst (pc := 11) (v := 2) dX2_whyNoWish_11 (by decide) ?_
      refine j_iret (pc := 12) dX2_whyNoWish_12 rfl rfl ?_
      exact ⟨_, rfl, by rw [if_neg c8], rfl⟩
theorem t_takeBid {s : Int32} {b : Int64} (hA : RSh h.1 A) : DI cx mX2_takeBid 4 h [.ref A, .int s, .long b] (rBid h A s b).1 (rBid h A s b).2 := by
  have hB := hA.2.2.2.2.2.1.2
  have S := t_placeAt (cx := cx) (h := h) (B := A + 5) (s := s) hB
  have S0 := t_whyNoWish (cx := cx) (h := h) (s := s) (k := 2) hA
  have S1 := t_purse (cx := cx) hA
  unfold rBid
  generalize rWhy h A s 2 = y at S0 ⊢
  cases hm : bPl h (A + 5) s with
  | none =>
    rw [hm] at S
    dsimp only
    refine Sp.of 2 (by decide) (Nat.le_of_ble_eq_true rfl) rfl ?_
    refine j_aload0 (pc := 0) dX2_takeBid_0 ?_
    refine j_iload1 (pc := 1) dX2_takeBid_1 ?_
    refine j_iconst (pc := 2) (v := 2) dX2_takeBid_2 (by decide) ?_
    refine cd_X2_191 (pc := 3) rfl (S0) hA.1 dX2_takeBid_3 rfl rfl ?_
    refine j_istore4 (pc := 6) dX2_takeBid_6 (by decide) trivial ?_
    refine j_iload4 (pc := 8) dX2_takeBid_8 ?_
    refine j_if_eq (pc := 10) (tgt := 16) dX2_takeBid_10 (by decide) (fun c10 => ?_) (fun c10 => ?_)
    · refine j_aload0 (pc := 16) dX2_takeBid_16 ?_
      refine g_X2_42 (pc := 17) rfl hA.1 hA.2.2.2.2.2.1.1 dX2_takeBid_17 ?_
      refine j_iload1 (pc := 20) dX2_takeBid_20 ?_
      refine cd_X2_138 (pc := 21) rfl (S) hA.2.2.2.2.2.1.2.1 dX2_takeBid_21 rfl rfl ?_
      refine j_rn ?_
      refine j_nstore5 (pc := 24) dX2_takeBid_24 (by decide) trivial ?_
      refine j_nload5 (pc := 26) dX2_takeBid_26 ?_
      refine j_ifnonnullN (pc := 28) dX2_takeBid_28 ?_
      refine j_iconst (pc := 31) (v := 3) dX2_takeBid_31 (by decide) ?_
      refine j_iret (pc := 32) dX2_takeBid_32 rfl rfl ?_
      exact ⟨_, rfl, by rw [if_pos c10], by rw [if_pos c10]⟩
    · refine j_iload4 (pc := 13) dX2_takeBid_13 ?_
      refine j_iret (pc := 15) dX2_takeBid_15 rfl rfl ?_
      exact ⟨_, rfl, by rw [if_neg c10], by rw [if_neg c10]⟩
  | some p =>
    rw [hm] at S
    dsimp only
    have hp := bPl_kd hB hm
    refine Sp.of 2 (by decide) (Nat.le_of_ble_eq_true rfl) rfl ?_
    refine j_aload0 (pc := 0) dX2_takeBid_0 ?_
    refine j_iload1 (pc := 1) dX2_takeBid_1 ?_
    refine j_iconst (pc := 2) (v := 2) dX2_takeBid_2 (by decide) ?_
    refine cd_X2_191 (pc := 3) rfl (S0) hA.1 dX2_takeBid_3 rfl rfl ?_
    refine j_istore4 (pc := 6) dX2_takeBid_6 (by decide) trivial ?_
    refine j_iload4 (pc := 8) dX2_takeBid_8 ?_
    refine j_if_eq (pc := 10) (tgt := 16) dX2_takeBid_10 (by decide) (fun c10 => ?_) (fun c10 => ?_)
    · refine j_aload0 (pc := 16) dX2_takeBid_16 ?_
      refine g_X2_42 (pc := 17) rfl hA.1 hA.2.2.2.2.2.1.1 dX2_takeBid_17 ?_
      refine j_iload1 (pc := 20) dX2_takeBid_20 ?_
      refine cd_X2_138 (pc := 21) rfl (S) hA.2.2.2.2.2.1.2.1 dX2_takeBid_21 rfl rfl ?_
      refine j_rs ?_
      refine j_astore5 (pc := 24) dX2_takeBid_24 (by decide) trivial ?_
      refine j_aload5 (pc := 26) dX2_takeBid_26 ?_
      refine j_ifnonnull (pc := 28) (tgt := 33) dX2_takeBid_28 (by decide) ?_
      refine j_lload2 (pc := 33) dX2_takeBid_33 ?_
      refine j_lconst (pc := 34) (v := 0) dX2_takeBid_34 (by decide) ?_
      refine j_aload0 (pc := 35) dX2_takeBid_35 ?_
      refine cd_X2_195 (pc := 36) rfl (S1) hA.1 dX2_takeBid_36 rfl rfl ?_
      refine cd_X2_94 (pc := 39) rfl (t_within) dX2_takeBid_39 rfl rfl ?_
      refine j_bif_ne (pc := 42) (tgt := 48) dX2_takeBid_42 (by decide) (fun c42 => ?_) (fun c42 => ?_)
      · refine j_aload5 (pc := 48) dX2_takeBid_48 ?_
        refine j_lload2 (pc := 50) dX2_takeBid_50 ?_
        refine p_X2_199 (pc := 51) rfl hp dX2_takeBid_51 ?_
        refine j_iconst (pc := 54) (v := 0) dX2_takeBid_54 (by decide) ?_
        refine j_iret (pc := 55) dX2_takeBid_55 rfl rfl ?_
        exact ⟨_, rfl, by rw [if_pos c10, if_pos c42], by rw [if_pos c10, if_pos c42]⟩
      · refine j_bipush (pc := 45) (v := 7) dX2_takeBid_45 (by decide) ?_
        refine j_iret (pc := 47) dX2_takeBid_47 rfl rfl ?_
        exact ⟨_, rfl, by rw [if_pos c10, if_neg (by rw [c42]; decide)], by rw [if_pos c10, if_neg (by rw [c42]; decide)]⟩
    · refine j_iload4 (pc := 13) dX2_takeBid_13 ?_
      refine j_iret (pc := 15) dX2_takeBid_15 rfl rfl ?_
      exact ⟨_, rfl, by rw [if_neg c10], by rw [if_neg c10]⟩
theorem t_ask {s : Int32} (hA : RSh h.1 A) : DI cx mX2_ask 4 h [.ref A, .int s] (rAsk h A s).1 (rAsk h A s).2 := by
  have hB := hA.2.2.2.2.2.1.2
  have S0 := t_whyNoWish (cx := cx) (h := h) (s := s) (k := 3) hA
  have S := t_forgetYes (cx := cx) (h := h) (B := A + 5) hB
  have hA1 : RSh (itr (fyC (A + 5)) 60 h).1 A := by rw [itr_keep (step := fyC (A + 5)) (fun y : Hp => y.1) (fun _ _ => rfl) h 60]; exact hA
  unfold rAsk
  generalize rWhy h A s 3 = y at S0 ⊢
  generalize itr (fyC (A + 5)) 60 h = g at S hA1 ⊢
  refine Sp.of 1 (by decide) (Nat.le_of_ble_eq_true rfl) rfl ?_
  refine j_aload0 (pc := 0) dX2_ask_0 ?_
  refine j_iload1 (pc := 1) dX2_ask_1 ?_
  refine j_iconst (pc := 2) (v := 3) dX2_ask_2 (by decide) ?_
  refine cd_X2_191 (pc := 3) rfl (S0) hA.1 dX2_ask_3 rfl rfl ?_
  refine j_istore2 (pc := 6) dX2_ask_6 (by decide) trivial ?_
  refine j_iload2 (pc := 7) dX2_ask_7 ?_
  refine j_if_eq (pc := 8) (tgt := 13) dX2_ask_8 (by decide) (fun c8 => ?_) (fun c8 => ?_)
  · refine j_aload0 (pc := 13) dX2_ask_13 ?_
    refine g_X2_42 (pc := 14) rfl hA.1 hA.2.2.2.2.2.1.1 dX2_ask_14 ?_
    refine cd_X2_202 (pc := 17) rfl (S) hA.2.2.2.2.2.1.2.1 dX2_ask_17 rfl rfl ?_
    have hA := hA1
    refine j_aload0 (pc := 20) dX2_ask_20 ?_
    refine g_X2_42 (pc := 21) rfl hA.1 hA.2.2.2.2.2.1.1 dX2_ask_21 ?_
    refine j_iload1 (pc := 24) dX2_ask_24 ?_
    refine p_X2_205 (pc := 25) rfl hA.2.2.2.2.2.1.2.1 dX2_ask_25 ?_
    refine j_iconst (pc := 28) (v := 0) dX2_ask_28 (by decide) ?_
    refine j_iret (pc := 29) dX2_ask_29 rfl rfl ?_
    exact ⟨_, rfl, by rw [if_pos c8], by rw [if_pos c8]⟩
  · refine j_iload2 (pc := 11) dX2_ask_11 ?_
    refine j_iret (pc := 12) dX2_ask_12 rfl rfl ?_
    exact ⟨_, rfl, by rw [if_neg c8], by rw [if_neg c8]⟩
theorem t_sayYes {s : Int32} (hA : RSh h.1 A) : DI cx mX2_sayYes 3 h [.ref A, .int s] (rYes h A s).1 (rYes h A s).2 := by
  have hB := hA.2.2.2.2.2.1.2
  have S := t_placeAt (cx := cx) (h := h) (B := A + 5) (s := s) hB
  unfold rYes
  cases hm : bPl h (A + 5) s with
  | none =>
    rw [hm] at S
    dsimp only
    refine Sp.of 1 (by decide) (Nat.le_of_ble_eq_true rfl) rfl ?_
    refine j_aload0 (pc := 0) dX2_sayYes_0 ?_
    refine g_X2_42 (pc := 1) rfl hA.1 hA.2.2.2.2.2.1.1 dX2_sayYes_1 ?_
    refine g_X2_85 (pc := 4) rfl hA.2.2.2.2.2.1.2.1 dX2_sayYes_4 ?_
    refine j_iconst (pc := 7) (v := 1) dX2_sayYes_7 (by decide) ?_
    refine j_icmp_eq (pc := 8) (tgt := 13) dX2_sayYes_8 (by decide) (fun c8 => ?_) (fun c8 => ?_)
    · refine j_aload0 (pc := 13) dX2_sayYes_13 ?_
      refine g_X2_9 (pc := 14) rfl hA.1 dX2_sayYes_14 ?_
      refine j_iconst (pc := 17) (v := 3) dX2_sayYes_17 (by decide) ?_
      refine j_icmp_eq (pc := 18) (tgt := 23) dX2_sayYes_18 (by decide) (fun c18 => ?_) (fun c18 => ?_)
      · refine j_aload0 (pc := 23) dX2_sayYes_23 ?_
        refine g_X2_42 (pc := 24) rfl hA.1 hA.2.2.2.2.2.1.1 dX2_sayYes_24 ?_
        refine j_iload1 (pc := 27) dX2_sayYes_27 ?_
        refine cd_X2_138 (pc := 28) rfl (S) hA.2.2.2.2.2.1.2.1 dX2_sayYes_28 rfl rfl ?_
        refine j_rn ?_
        refine j_nstore2 (pc := 31) dX2_sayYes_31 (by decide) trivial ?_
        refine j_nload2 (pc := 32) dX2_sayYes_32 ?_
        refine j_ifnullN (pc := 33) (tgt := 47) dX2_sayYes_33 (by decide) ?_
        refine j_iconst (pc := 47) (v := 3) dX2_sayYes_47 (by decide) ?_
        refine j_iret (pc := 48) dX2_sayYes_48 rfl rfl ?_
        exact ⟨_, rfl, by rw [if_pos c8, if_pos c18], by rw [if_pos c8, if_pos c18]⟩
      · refine j_iconst (pc := 21) (v := 4) dX2_sayYes_21 (by decide) ?_
        refine j_iret (pc := 22) dX2_sayYes_22 rfl rfl ?_
        exact ⟨_, rfl, by rw [if_pos c8, if_neg c18], by rw [if_pos c8, if_neg c18]⟩
    · refine j_iconst (pc := 11) (v := 2) dX2_sayYes_11 (by decide) ?_
      refine j_iret (pc := 12) dX2_sayYes_12 rfl rfl ?_
      exact ⟨_, rfl, by rw [if_neg c8], by rw [if_neg c8]⟩
  | some p =>
    rw [hm] at S
    dsimp only
    have hp := bPl_kd hB hm
    refine Sp.of 1 (by decide) (Nat.le_of_ble_eq_true rfl) rfl ?_
    refine j_aload0 (pc := 0) dX2_sayYes_0 ?_
    refine g_X2_42 (pc := 1) rfl hA.1 hA.2.2.2.2.2.1.1 dX2_sayYes_1 ?_
    refine g_X2_85 (pc := 4) rfl hA.2.2.2.2.2.1.2.1 dX2_sayYes_4 ?_
    refine j_iconst (pc := 7) (v := 1) dX2_sayYes_7 (by decide) ?_
    refine j_icmp_eq (pc := 8) (tgt := 13) dX2_sayYes_8 (by decide) (fun c8 => ?_) (fun c8 => ?_)
    · refine j_aload0 (pc := 13) dX2_sayYes_13 ?_
      refine g_X2_9 (pc := 14) rfl hA.1 dX2_sayYes_14 ?_
      refine j_iconst (pc := 17) (v := 3) dX2_sayYes_17 (by decide) ?_
      refine j_icmp_eq (pc := 18) (tgt := 23) dX2_sayYes_18 (by decide) (fun c18 => ?_) (fun c18 => ?_)
      · refine j_aload0 (pc := 23) dX2_sayYes_23 ?_
        refine g_X2_42 (pc := 24) rfl hA.1 hA.2.2.2.2.2.1.1 dX2_sayYes_24 ?_
        refine j_iload1 (pc := 27) dX2_sayYes_27 ?_
        refine cd_X2_138 (pc := 28) rfl (S) hA.2.2.2.2.2.1.2.1 dX2_sayYes_28 rfl rfl ?_
        refine j_rs ?_
        refine j_astore2 (pc := 31) dX2_sayYes_31 (by decide) trivial ?_
        refine j_aload2 (pc := 32) dX2_sayYes_32 ?_
        refine j_ifnull (pc := 33) dX2_sayYes_33 ?_
        refine j_aload0 (pc := 36) dX2_sayYes_36 ?_
        refine g_X2_42 (pc := 37) rfl hA.1 hA.2.2.2.2.2.1.1 dX2_sayYes_37 ?_
        refine g_X2_205 (pc := 40) rfl hA.2.2.2.2.2.1.2.1 dX2_sayYes_40 ?_
        refine j_iconst (pc := 43) (v := (-1)) dX2_sayYes_43 (by decide) ?_
        refine j_icmp_ne (pc := 44) (tgt := 49) dX2_sayYes_44 (by decide) (fun c44 => ?_) (fun c44 => ?_)
        · refine j_aload2 (pc := 49) dX2_sayYes_49 ?_
          refine g_X2_141 (pc := 50) rfl hp dX2_sayYes_50 ?_
          refine j_if_eq (pc := 53) (tgt := 59) dX2_sayYes_53 (by decide) (fun c53 => ?_) (fun c53 => ?_)
          · refine j_aload2 (pc := 59) dX2_sayYes_59 ?_
            refine g_X2_208 (pc := 60) rfl hp dX2_sayYes_60 ?_
            refine j_if_ne (pc := 63) (tgt := 73) dX2_sayYes_63 (by decide) (fun c63 => ?_) (fun c63 => ?_)
            · refine j_bipush (pc := 73) (v := 8) dX2_sayYes_73 (by decide) ?_
              refine j_iret (pc := 75) dX2_sayYes_75 rfl rfl ?_
              first | (rw [if_pos c8, if_pos c18, if_neg c44, if_pos c53, if_neg (fun z => z c63), if_neg c70]; exact ⟨_, rfl, rfl, rfl⟩) | (rw [if_pos c8, if_pos c18, if_neg c44, if_pos c53, if_pos c63]; exact ⟨_, rfl, rfl, rfl⟩)
            · refine j_aload2 (pc := 66) dX2_sayYes_66 ?_
              refine g_X2_211 (pc := 67) rfl hp dX2_sayYes_67 ?_
              refine j_if_eq (pc := 70) (tgt := 76) dX2_sayYes_70 (by decide) (fun c70 => ?_) (fun c70 => ?_)
              · refine j_aload2 (pc := 76) dX2_sayYes_76 ?_
                refine j_iconst (pc := 77) (v := 1) dX2_sayYes_77 (by decide) ?_
                refine p_X2_211' (pc := 78) rfl hp (by decide) dX2_sayYes_78 ?_
                refine j_iconst (pc := 81) (v := 0) dX2_sayYes_81 (by decide) ?_
                refine j_iret (pc := 82) dX2_sayYes_82 rfl rfl ?_
                exact ⟨_, rfl, by rw [if_pos c8, if_pos c18, if_neg c44, if_pos c53, if_neg (fun z => z c63), if_pos c70], by rw [if_pos c8, if_pos c18, if_neg c44, if_pos c53, if_neg (fun z => z c63), if_pos c70]⟩
              · refine j_bipush (pc := 73) (v := 8) dX2_sayYes_73 (by decide) ?_
                refine j_iret (pc := 75) dX2_sayYes_75 rfl rfl ?_
                first | (rw [if_pos c8, if_pos c18, if_neg c44, if_pos c53, if_neg (fun z => z c63), if_neg c70]; exact ⟨_, rfl, rfl, rfl⟩) | (rw [if_pos c8, if_pos c18, if_neg c44, if_pos c53, if_pos c63]; exact ⟨_, rfl, rfl, rfl⟩)
          · refine j_bipush (pc := 56) (v := 10) dX2_sayYes_56 (by decide) ?_
            refine j_iret (pc := 58) dX2_sayYes_58 rfl rfl ?_
            exact ⟨_, rfl, by rw [if_pos c8, if_pos c18, if_neg c44, if_neg c53], by rw [if_pos c8, if_pos c18, if_neg c44, if_neg c53]⟩
        · refine j_iconst (pc := 47) (v := 3) dX2_sayYes_47 (by decide) ?_
          refine j_iret (pc := 48) dX2_sayYes_48 rfl rfl ?_
          exact ⟨_, rfl, by rw [if_pos c8, if_pos c18, if_pos c44], by rw [if_pos c8, if_pos c18, if_pos c44]⟩
      · refine j_iconst (pc := 21) (v := 4) dX2_sayYes_21 (by decide) ?_
        refine j_iret (pc := 22) dX2_sayYes_22 rfl rfl ?_
        exact ⟨_, rfl, by rw [if_pos c8, if_neg c18], by rw [if_pos c8, if_neg c18]⟩
    · refine j_iconst (pc := 11) (v := 2) dX2_sayYes_11 (by decide) ?_
      refine j_iret (pc := 12) dX2_sayYes_12 rfl rfl ?_
      exact ⟨_, rfl, by rw [if_neg c8], by rw [if_neg c8]⟩
theorem t_replacePlace {s w : Int32} (hA : RSh h.1 A) : DI cx mX2_replacePlace 3 h [.ref A, .int s, .int w] (rRep h A s w).1 (rRep h A s w).2 := by
  have hB := hA.2.2.2.2.2.1.2
  have S := t_placeAt (cx := cx) (h := h) (B := A + 5) (s := s) hB
  unfold rRep
  cases hm : bPl h (A + 5) s with
  | none =>
    rw [hm] at S
    dsimp only
    refine Sp.of 1 (by decide) (Nat.le_of_ble_eq_true rfl) rfl ?_
    refine j_aload0 (pc := 0) dX2_replacePlace_0 ?_
    refine g_X2_42 (pc := 1) rfl hA.1 hA.2.2.2.2.2.1.1 dX2_replacePlace_1 ?_
    refine g_X2_85 (pc := 4) rfl hA.2.2.2.2.2.1.2.1 dX2_replacePlace_4 ?_
    refine j_iconst (pc := 7) (v := 1) dX2_replacePlace_7 (by decide) ?_
    refine j_icmp_eq (pc := 8) (tgt := 13) dX2_replacePlace_8 (by decide) (fun c8 => ?_) (fun c8 => ?_)
    · refine j_aload0 (pc := 13) dX2_replacePlace_13 ?_
      refine g_X2_42 (pc := 14) rfl hA.1 hA.2.2.2.2.2.1.1 dX2_replacePlace_14 ?_
      refine j_iload1 (pc := 17) dX2_replacePlace_17 ?_
      refine cd_X2_138 (pc := 18) rfl (S) hA.2.2.2.2.2.1.2.1 dX2_replacePlace_18 rfl rfl ?_
      refine j_rn ?_
      refine j_nstore3 (pc := 21) dX2_replacePlace_21 (by decide) trivial ?_
      refine j_nload3 (pc := 22) dX2_replacePlace_22 ?_
      refine j_ifnonnullN (pc := 23) dX2_replacePlace_23 ?_
      refine j_iconst (pc := 26) (v := 3) dX2_replacePlace_26 (by decide) ?_
      refine j_iret (pc := 27) dX2_replacePlace_27 rfl rfl ?_
      exact ⟨_, rfl, by rw [if_pos c8], by rw [if_pos c8]⟩
    · refine j_iconst (pc := 11) (v := 2) dX2_replacePlace_11 (by decide) ?_
      refine j_iret (pc := 12) dX2_replacePlace_12 rfl rfl ?_
      exact ⟨_, rfl, by rw [if_neg c8], by rw [if_neg c8]⟩
  | some p =>
    rw [hm] at S
    dsimp only
    have hp := bPl_kd hB hm
    refine Sp.of 1 (by decide) (Nat.le_of_ble_eq_true rfl) rfl ?_
    refine j_aload0 (pc := 0) dX2_replacePlace_0 ?_
    refine g_X2_42 (pc := 1) rfl hA.1 hA.2.2.2.2.2.1.1 dX2_replacePlace_1 ?_
    refine g_X2_85 (pc := 4) rfl hA.2.2.2.2.2.1.2.1 dX2_replacePlace_4 ?_
    refine j_iconst (pc := 7) (v := 1) dX2_replacePlace_7 (by decide) ?_
    refine j_icmp_eq (pc := 8) (tgt := 13) dX2_replacePlace_8 (by decide) (fun c8 => ?_) (fun c8 => ?_)
    · refine j_aload0 (pc := 13) dX2_replacePlace_13 ?_
      refine g_X2_42 (pc := 14) rfl hA.1 hA.2.2.2.2.2.1.1 dX2_replacePlace_14 ?_
      refine j_iload1 (pc := 17) dX2_replacePlace_17 ?_
      refine cd_X2_138 (pc := 18) rfl (S) hA.2.2.2.2.2.1.2.1 dX2_replacePlace_18 rfl rfl ?_
      refine j_rs ?_
      refine j_astore3 (pc := 21) dX2_replacePlace_21 (by decide) trivial ?_
      refine j_aload3 (pc := 22) dX2_replacePlace_22 ?_
      refine j_ifnonnull (pc := 23) (tgt := 28) dX2_replacePlace_23 (by decide) ?_
      refine j_aload3 (pc := 28) dX2_replacePlace_28 ?_
      refine g_X2_141 (pc := 29) rfl hp dX2_replacePlace_29 ?_
      refine j_if_ne (pc := 32) (tgt := 38) dX2_replacePlace_32 (by decide) (fun c32 => ?_) (fun c32 => ?_)
      · refine j_iload2 (pc := 38) dX2_replacePlace_38 ?_
        refine j_i2l (pc := 39) dX2_replacePlace_39 ?_
        refine j_ldc2 (pc := 40) dX2_replacePlace_40 wT_kl_X2_170 ?_
        refine j_ldc2 (pc := 43) dX2_replacePlace_43 wT_kl_X2_92 ?_
        refine cd_X2_94 (pc := 46) rfl (t_within) dX2_replacePlace_46 rfl rfl ?_
        refine j_bif_ne (pc := 49) (tgt := 54) dX2_replacePlace_49 (by decide) (fun c49 => ?_) (fun c49 => ?_)
        · refine j_aload3 (pc := 54) dX2_replacePlace_54 ?_
          refine j_iload2 (pc := 55) dX2_replacePlace_55 ?_
          refine p_X2_98 (pc := 56) rfl hp dX2_replacePlace_56 ?_
          refine j_aload3 (pc := 59) dX2_replacePlace_59 ?_
          refine j_iconst (pc := 60) (v := 0) dX2_replacePlace_60 (by decide) ?_
          refine p_X2_141' (pc := 61) rfl hp (by decide) dX2_replacePlace_61 ?_
          refine j_aload3 (pc := 64) dX2_replacePlace_64 ?_
          refine j_lconst (pc := 65) (v := 0) dX2_replacePlace_65 (by decide) ?_
          refine p_X2_246 (pc := 66) rfl hp dX2_replacePlace_66 ?_
          refine j_aload3 (pc := 69) dX2_replacePlace_69 ?_
          refine j_lconst (pc := 70) (v := 0) dX2_replacePlace_70 (by decide) ?_
          refine p_X2_182 (pc := 71) rfl hp dX2_replacePlace_71 ?_
          refine j_aload3 (pc := 74) dX2_replacePlace_74 ?_
          refine j_lconst (pc := 75) (v := 0) dX2_replacePlace_75 (by decide) ?_
          refine p_X2_290 (pc := 76) rfl hp dX2_replacePlace_76 ?_
          refine j_aload3 (pc := 79) dX2_replacePlace_79 ?_
          refine j_lconst (pc := 80) (v := 0) dX2_replacePlace_80 (by decide) ?_
          refine p_X2_293 (pc := 81) rfl hp dX2_replacePlace_81 ?_
          refine j_aload3 (pc := 84) dX2_replacePlace_84 ?_
          refine j_lconst (pc := 85) (v := 0) dX2_replacePlace_85 (by decide) ?_
          refine p_X2_331 (pc := 86) rfl hp dX2_replacePlace_86 ?_
          refine j_iconst (pc := 89) (v := 0) dX2_replacePlace_89 (by decide) ?_
          refine j_iret (pc := 90) dX2_replacePlace_90 rfl rfl ?_
          exact ⟨_, rfl, by rw [if_pos c8, if_neg c32, if_pos c49], by rw [if_pos c8, if_neg c32, if_pos c49]; rfl⟩
        · refine j_iconst (pc := 52) (v := 4) dX2_replacePlace_52 (by decide) ?_
          refine j_iret (pc := 53) dX2_replacePlace_53 rfl rfl ?_
          exact ⟨_, rfl, by rw [if_pos c8, if_neg c32, if_neg (by rw [c49]; decide)], by rw [if_pos c8, if_neg c32, if_neg (by rw [c49]; decide)]⟩
      · refine j_bipush (pc := 35) (v := 8) dX2_replacePlace_35 (by decide) ?_
        refine j_iret (pc := 37) dX2_replacePlace_37 rfl rfl ?_
        exact ⟨_, rfl, by rw [if_pos c8, if_pos c32], by rw [if_pos c8, if_pos c32]⟩
    · refine j_iconst (pc := 11) (v := 2) dX2_replacePlace_11 (by decide) ?_
      refine j_iret (pc := 12) dX2_replacePlace_12 rfl rfl ?_
      exact ⟨_, rfl, by rw [if_neg c8], by rw [if_neg c8]⟩
end

