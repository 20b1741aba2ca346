/-! the class: a book, what is read of it -/
def BSh (s : Sh) (B : Nat) : Prop := s.2.1 B = kObj 0 ∧ s.2.2 B 0 = some (B + 1) ∧ s.2.1 (B + 1) = kRefs 1 60 ∧ ∀ i, i < 60 → s.2.2 (B + 1) i = some (B + 2 + i) ∧ s.2.1 (B + 2 + i) = kObj 1
def bSeat (B : Nat) (s : Int32) : Option Nat := (sN s).map (fun n => B + 2 + n)
def bMem (h : Hp) (B : Nat) (s : Int32) : Option Nat := match sN s with | none => none | some n => if pMem h (B + 2 + n) then some (B + 2 + n) else none
def bPl (h : Hp) (B : Nat) (s : Int32) : Option Nat := if h.i B 1 = 0 then none else bMem h B s
section
variable {cx : Cx} {h : Hp} {B : Nat}
theorem BSh.r {s : Sh} (hB : BSh s B) {i : Nat} (hi : i < 60) : s.2.2 (B + 1) (nI i).toNatClampNeg = some (B + 2 + i) := by rw [nI_clamp (by omega)]; exact (hB.2.2.2 i hi).1
theorem t_seatAt {s : Int32} (hB : BSh h.1 B) : DR cx mX0_seatAt 0 h [.ref B, .int s] (bSeat B s) h := by
  unfold bSeat
  rcases sN_cases s with ⟨hso, hsn⟩ | ⟨n, hn, rfl, hso⟩ <;> rw [hso]
  · refine Sp.of 0 (by decide) (Nat.le_of_ble_eq_true rfl) rfl ?_
    refine j_iload1 (pc := 0) dX0_seatAt_0 ?_
    refine j_if_lt (pc := 1) (tgt := 19) dX0_seatAt_1 (by decide) (fun c1 => ?_) (fun c1 => ?_)
    · refine j_null (pc := 19) dX0_seatAt_19 ?_
      refine j_aretN (pc := 20) dX0_seatAt_20 rfl ?_
      exact ⟨none, rfl, rfl, rfl⟩
    · refine j_iload1 (pc := 4) dX0_seatAt_4 ?_
      refine j_bipush (pc := 5) (v := 60) dX0_seatAt_5 (by decide) ?_
      refine j_icmp_ge (pc := 7) (tgt := 19) dX0_seatAt_7 (by decide) (fun c7 => ?_) (fun c7 => by exact absurd ⟨Int32.not_lt.mp c1, Int32.not_le.mp c7⟩ hsn)
      refine j_null (pc := 19) dX0_seatAt_19 ?_
      refine j_aretN (pc := 20) dX0_seatAt_20 rfl ?_
      exact ⟨none, rfl, rfl, rfl⟩
  · refine Sp.of 0 (by decide) (Nat.le_of_ble_eq_true rfl) rfl ?_
    refine j_iload1 (pc := 0) dX0_seatAt_0 ?_
    refine j_if_lt (pc := 1) (tgt := 19) dX0_seatAt_1 (by decide) (fun c1 => by exact absurd c1 (nI_pos (by omega))) (fun c1 => ?_)
    refine j_iload1 (pc := 4) dX0_seatAt_4 ?_
    refine j_bipush (pc := 5) (v := nI 60) dX0_seatAt_5 (by decide) ?_
    refine j_icmpN_ge (pc := 7) (tgt := 19) (by first | decide | omega) (by first | decide | omega) dX0_seatAt_7 (by decide) (fun c7 => by omega) (fun c7 => ?_)
    refine j_aload0 (pc := 10) dX0_seatAt_10 ?_
    refine g_X0_11 (pc := 11) rfl hB.1 hB.2.1 dX0_seatAt_11 ?_
    refine j_iload1 (pc := 14) dX0_seatAt_14 ?_
    refine j_aald (pc := 15) (by decide) hB.2.2.1 (pk_in n 60 hn rfl) (hB.r hn) dX0_seatAt_15 ?_
    refine j_goto (pc := 16) (tgt := 20) dX0_seatAt_16 (by decide) ?_
    refine j_aret (pc := 20) dX0_seatAt_20 rfl ?_
    exact ⟨some (B + 2 + n), rfl, rfl, rfl⟩
theorem t_memberAt {s : Int32} (hB : BSh h.1 B) : DR cx mX0_memberAt 1 h [.ref B, .int s] (bMem h B s) h := by
  have S := t_seatAt (cx := cx) (h := h) (s := s) hB
  unfold bSeat at S
  unfold bMem
  rcases sN_cases s with ⟨hso, hsn⟩ | ⟨n, hn, rfl, hso⟩ <;> rw [hso] at S ⊢
  · refine Sp.of 1 (by decide) (Nat.le_of_ble_eq_true rfl) rfl ?_
    refine j_aload0 (pc := 0) dX0_memberAt_0 ?_
    refine j_iload1 (pc := 1) dX0_memberAt_1 ?_
    refine cd_X0_51 (pc := 2) rfl (S) hB.1 dX0_memberAt_2 rfl rfl ?_
    refine j_rn ?_
    refine j_nstore2 (pc := 5) dX0_memberAt_5 (by decide) trivial ?_
    refine j_nload2 (pc := 6) dX0_memberAt_6 ?_
    refine j_ifnullN (pc := 7) (tgt := 21) dX0_memberAt_7 (by decide) ?_
    refine j_null (pc := 21) dX0_memberAt_21 ?_
    refine j_aretN (pc := 22) dX0_memberAt_22 rfl ?_
    exact ⟨none, rfl, rfl, rfl⟩
  · have hp := (hB.2.2.2 n hn).2
    refine Sp.of 1 (by decide) (Nat.le_of_ble_eq_true rfl) rfl ?_
    refine j_aload0 (pc := 0) dX0_memberAt_0 ?_
    refine j_iload1 (pc := 1) dX0_memberAt_1 ?_
    refine cd_X0_51 (pc := 2) rfl (S) hB.1 dX0_memberAt_2 rfl rfl ?_
    refine j_rs ?_
    refine j_astore2 (pc := 5) dX0_memberAt_5 (by decide) trivial ?_
    refine j_aload2 (pc := 6) dX0_memberAt_6 ?_
    refine j_ifnull (pc := 7) dX0_memberAt_7 ?_
    refine j_aload2 (pc := 10) dX0_memberAt_10 ?_
    refine cd_X0_55 (pc := 11) rfl (t_isMember hp) hp dX0_memberAt_11 rfl rfl ?_
    refine j_bif_eq (pc := 14) (tgt := 21) dX0_memberAt_14 (by decide) (fun c14 => ?_) (fun c14 => ?_)
    · refine j_null (pc := 21) dX0_memberAt_21 ?_
      first | (refine j_aret dX0_memberAt_22 rfl ?_; exact ⟨some (B + 2 + n), rfl, by simp [c14], rfl⟩) | (refine j_aretN dX0_memberAt_22 rfl ?_; exact ⟨none, rfl, by simp [c14], rfl⟩)
    · refine j_aload2 (pc := 17) dX0_memberAt_17 ?_
      refine j_goto (pc := 18) (tgt := 22) dX0_memberAt_18 (by decide) ?_
      first | (refine j_aret dX0_memberAt_22 rfl ?_; exact ⟨some (B + 2 + n), rfl, by simp [c14], rfl⟩) | (refine j_aretN dX0_memberAt_22 rfl ?_; exact ⟨none, rfl, by simp [c14], rfl⟩)
theorem t_placeAt {s : Int32} (hB : BSh h.1 B) : DR cx mX0_placeAt 2 h [.ref B, .int s] (bPl h B s) h := by
  have S := t_memberAt (cx := cx) (h := h) (s := s) hB
  unfold bPl
  by_cases h0 : h.i B 1 = 0
  · rw [if_pos h0]
    refine Sp.of 0 (by decide) (Nat.le_of_ble_eq_true rfl) rfl ?_
    refine j_aload0 (pc := 0) dX0_placeAt_0 ?_
    refine g_X0_29 (pc := 1) rfl hB.1 dX0_placeAt_1 ?_
    refine j_if_ne (pc := 4) (tgt := 11) dX0_placeAt_4 (by decide) (fun c4 => by exact absurd h0 c4) (fun c4 => ?_)
    refine j_null (pc := 7) dX0_placeAt_7 ?_
    refine j_goto (pc := 8) (tgt := 16) dX0_placeAt_8 (by decide) ?_
    refine j_aretN (pc := 16) dX0_placeAt_16 rfl ?_
    exact ⟨none, rfl, rfl, rfl⟩
  · rw [if_neg h0]
    cases hm : bMem h B s with
    | none =>
      rw [hm] at S
      refine Sp.of 0 (by decide) (Nat.le_of_ble_eq_true rfl) rfl ?_
      refine j_aload0 (pc := 0) dX0_placeAt_0 ?_
      refine g_X0_29 (pc := 1) rfl hB.1 dX0_placeAt_1 ?_
      refine j_if_ne (pc := 4) (tgt := 11) dX0_placeAt_4 (by decide) (fun c4 => ?_) (fun c4 => by exact absurd c4 h0)
      refine j_aload0 (pc := 11) dX0_placeAt_11 ?_
      refine j_iload1 (pc := 12) dX0_placeAt_12 ?_
      refine cd_X0_59 (pc := 13) rfl (S) hB.1 dX0_placeAt_13 rfl rfl ?_
      refine j_rn ?_
      refine j_aretN (pc := 16) dX0_placeAt_16 rfl ?_
      exact ⟨none, rfl, rfl, rfl⟩
    | some q =>
      rw [hm] at S
      refine Sp.of 0 (by decide) (Nat.le_of_ble_eq_true rfl) rfl ?_
      refine j_aload0 (pc := 0) dX0_placeAt_0 ?_
      refine g_X0_29 (pc := 1) rfl hB.1 dX0_placeAt_1 ?_
      refine j_if_ne (pc := 4) (tgt := 11) dX0_placeAt_4 (by decide) (fun c4 => ?_) (fun c4 => by exact absurd c4 h0)
      refine j_aload0 (pc := 11) dX0_placeAt_11 ?_
      refine j_iload1 (pc := 12) dX0_placeAt_12 ?_
      refine cd_X0_59 (pc := 13) rfl (S) hB.1 dX0_placeAt_13 rfl rfl ?_
      refine j_rs ?_
      refine j_aret (pc := 16) dX0_placeAt_16 rfl ?_
      exact ⟨some q, rfl, rfl, rfl⟩
def bLeft (h : Hp) (B : Nat) : Bool := decide (h.i B 2 < h.i B 3) && decide (h.i B 2 < 60)
theorem t_roundIsLeft (hB : BSh h.1 B) : DB cx mX0_roundIsLeft 0 h [.ref B] (bLeft h B) h := by
  refine Sp.of 0 (by decide) (Nat.le_of_ble_eq_true rfl) rfl ?_
  refine j_aload0 (pc := 0) dX0_roundIsLeft_0 ?_
  refine g_X0_32 (pc := 1) rfl hB.1 dX0_roundIsLeft_1 ?_
  refine j_aload0 (pc := 4) dX0_roundIsLeft_4 ?_
  refine g_X0_35 (pc := 5) rfl hB.1 dX0_roundIsLeft_5 ?_
  refine j_icmp_ge (pc := 8) (tgt := 24) dX0_roundIsLeft_8 (by decide) (fun c8 => ?_) (fun c8 => ?_)
  · refine j_iconst (pc := 24) (v := 0) dX0_roundIsLeft_24 (by decide) ?_
    refine j_iret (pc := 25) dX0_roundIsLeft_25 rfl rfl ?_
    exact ⟨_, rfl, by simp_all [bLeft, b2i, ← Int32.not_le], rfl⟩
  · refine j_aload0 (pc := 11) dX0_roundIsLeft_11 ?_
    refine g_X0_32 (pc := 12) rfl hB.1 dX0_roundIsLeft_12 ?_
    refine j_bipush (pc := 15) (v := 60) dX0_roundIsLeft_15 (by decide) ?_
    refine j_icmp_ge (pc := 17) (tgt := 24) dX0_roundIsLeft_17 (by decide) (fun c17 => ?_) (fun c17 => ?_)
    · refine j_iconst (pc := 24) (v := 0) dX0_roundIsLeft_24 (by decide) ?_
      refine j_iret (pc := 25) dX0_roundIsLeft_25 rfl rfl ?_
      exact ⟨_, rfl, by simp_all [bLeft, b2i, ← Int32.not_le], rfl⟩
    · refine j_iconst (pc := 20) (v := 1) dX0_roundIsLeft_20 (by decide) ?_
      refine j_goto (pc := 21) (tgt := 25) dX0_roundIsLeft_21 (by decide) ?_
      refine j_iret (pc := 25) dX0_roundIsLeft_25 rfl rfl ?_
      exact ⟨_, rfl, by simp_all [bLeft, b2i, ← Int32.not_le], rfl⟩
theorem t_countMembers (hB : BSh h.1 B) : DI cx mX0_countMembers 1 h [.ref B] (nI (cnt (fun i => pMem h (B + 2 + i)) 60)) h := by
  refine Sp.ofQ 5 (by decide) (Nat.le_of_ble_eq_true rfl) rfl (fun Q hQ => ?_)
  have L : ∀ N, N = 60 → J cx mX0_countMembers (Rm 1 0 0) h 13 [some (.ref B), some (.int (nI 0)), some (.ref (B + 1)), some (.int (nI N)), some (.int (nI 0)), none] [] 0 0 Q := by
    intro N hN
    refine dn (P := fun n => J cx mX0_countMembers (Rm 1 0 0) h 13 [some (.ref B), some (.int (nI (cnt (fun i => pMem h (B + 2 + i)) n))), some (.ref (B + 1)), some (.int (nI N)), some (.int (nI n)), none] [] 0 0 Q) N ?_ ?_
    · refine j_iload4 (pc := 13) dX0_countMembers_13 ?_
      refine j_iload3 (pc := 15) dX0_countMembers_15 ?_
      refine j_icmpN_ge (pc := 16) (tgt := 47) (by first | decide | omega) (by first | decide | omega) dX0_countMembers_16 (by decide) (fun c16 => ?_) (fun c16 => by omega)
      refine j_iload1 (pc := 47) dX0_countMembers_47 ?_
      refine j_iret (pc := 48) dX0_countMembers_48 rfl rfl ?_
      exact hQ _ _ ⟨_, rfl, by rw [hN], rfl⟩
    · intro n hn ih
      have hn6 : n < 60 := by omega
      have hp := (hB.2.2.2 n hn6).2
      have e : cnt (fun i => pMem h (B + 2 + i)) (n + 1) = cnt (fun i => pMem h (B + 2 + i)) n + (if pMem h (B + 2 + n) then 1 else 0) := rfl
      rw [e] at ih
      refine j_iload4 (pc := 13) dX0_countMembers_13 ?_
      refine j_iload3 (pc := 15) dX0_countMembers_15 ?_
      refine j_icmpN_ge (pc := 16) (tgt := 47) (by first | decide | omega) (by first | decide | omega) dX0_countMembers_16 (by decide) (fun c16 => by omega) (fun c16 => ?_)
      refine j_aload2 (pc := 19) dX0_countMembers_19 ?_
      refine j_iload4 (pc := 20) dX0_countMembers_20 ?_
      refine j_aald (pc := 22) (by decide) hB.2.2.1 (pk_in n 60 hn6 rfl) (hB.r hn6) dX0_countMembers_22 ?_
      refine j_astore5 (pc := 23) dX0_countMembers_23 (by decide) trivial ?_
      refine j_iload1 (pc := 25) dX0_countMembers_25 ?_
      refine j_aload5 (pc := 26) dX0_countMembers_26 ?_
      refine cd_X0_55 (pc := 28) rfl (t_isMember hp) hp dX0_countMembers_28 rfl rfl ?_
      refine j_bif_eq (pc := 31) (tgt := 38) dX0_countMembers_31 (by decide) (fun c31 => ?_) (fun c31 => ?_)
      · refine j_iconst (pc := 38) (v := nI 0) dX0_countMembers_38 (by decide) ?_
        refine j_iaddN (pc := 39) dX0_countMembers_39 ?_
        refine j_istore1 (pc := 40) dX0_countMembers_40 (by decide) trivial ?_
        refine j_iincN4 (pc := 41) dX0_countMembers_41 (by decide) trivial ?_
        refine j_goto (pc := 44) (tgt := 13) dX0_countMembers_44 (by decide) ?_
        simp only [c31, if_true, if_false, Bool.false_eq_true] at ih; exact J.wk ih (by simp [lcw])
      · refine j_iconst (pc := 34) (v := nI 1) dX0_countMembers_34 (by decide) ?_
        refine j_goto (pc := 35) (tgt := 39) dX0_countMembers_35 (by decide) ?_
        refine j_iaddN (pc := 39) dX0_countMembers_39 ?_
        refine j_istore1 (pc := 40) dX0_countMembers_40 (by decide) trivial ?_
        refine j_iincN4 (pc := 41) dX0_countMembers_41 (by decide) trivial ?_
        refine j_goto (pc := 44) (tgt := 13) dX0_countMembers_44 (by decide) ?_
        simp only [c31, if_true, if_false, Bool.false_eq_true] at ih; exact J.wk ih (by simp [lcw])
  refine j_iconst (pc := 0) (v := nI 0) dX0_countMembers_0 (by decide) ?_
  refine j_istore1 (pc := 1) dX0_countMembers_1 (by decide) trivial ?_
  refine j_aload0 (pc := 2) dX0_countMembers_2 ?_
  refine g_X0_11 (pc := 3) rfl hB.1 hB.2.1 dX0_countMembers_3 ?_
  refine j_astore2 (pc := 6) dX0_countMembers_6 (by decide) trivial ?_
  refine j_aload2 (pc := 7) dX0_countMembers_7 ?_
  refine j_alenR (pc := 8) (by decide) hB.2.2.1 dX0_countMembers_8 ?_
  show J cx mX0_countMembers (Rm 1 0 0) h 9 [some (.ref B), some (.int (nI 0)), some (.ref (B + 1)), none, none, none] [.int (nI 60)] 0 0 Q
  refine j_istore3 (pc := 9) dX0_countMembers_9 (by decide) trivial ?_
  refine j_iconst (pc := 10) (v := nI 0) dX0_countMembers_10 (by decide) ?_
  refine j_istore4 (pc := 11) dX0_countMembers_11 (by decide) trivial ?_
  exact L 60 rfl
theorem t_countNeither (hB : BSh h.1 B) : DI cx mX0_countNeither 3 h [.ref B] (nI (cnt (fun i => pNe h (B + 2 + i)) 60)) h := by
  refine Sp.ofQ 5 (by decide) (Nat.le_of_ble_eq_true rfl) rfl (fun Q hQ => ?_)
  have L : ∀ N, N = 60 → J cx mX0_countNeither (Rm 3 0 0) h 13 [some (.ref B), some (.int (nI 0)), some (.ref (B + 1)), some (.int (nI N)), some (.int (nI 0)), none] [] 0 0 Q := by
    intro N hN
    refine dn (P := fun n => J cx mX0_countNeither (Rm 3 0 0) h 13 [some (.ref B), some (.int (nI (cnt (fun i => pNe h (B + 2 + i)) n))), some (.ref (B + 1)), some (.int (nI N)), some (.int (nI n)), none] [] 0 0 Q) N ?_ ?_
    · refine j_iload4 (pc := 13) dX0_countNeither_13 ?_
      refine j_iload3 (pc := 15) dX0_countNeither_15 ?_
      refine j_icmpN_ge (pc := 16) (tgt := 47) (by first | decide | omega) (by first | decide | omega) dX0_countNeither_16 (by decide) (fun c16 => ?_) (fun c16 => by omega)
      refine j_iload1 (pc := 47) dX0_countNeither_47 ?_
      refine j_iret (pc := 48) dX0_countNeither_48 rfl rfl ?_
      exact hQ _ _ ⟨_, rfl, by rw [hN], rfl⟩
    · intro n hn ih
      have hn6 : n < 60 := by omega
      have hp := (hB.2.2.2 n hn6).2
      have e : cnt (fun i => pNe h (B + 2 + i)) (n + 1) = cnt (fun i => pNe h (B + 2 + i)) n + (if pNe h (B + 2 + n) then 1 else 0) := rfl
      rw [e] at ih
      refine j_iload4 (pc := 13) dX0_countNeither_13 ?_
      refine j_iload3 (pc := 15) dX0_countNeither_15 ?_
      refine j_icmpN_ge (pc := 16) (tgt := 47) (by first | decide | omega) (by first | decide | omega) dX0_countNeither_16 (by decide) (fun c16 => by omega) (fun c16 => ?_)
      refine j_aload2 (pc := 19) dX0_countNeither_19 ?_
      refine j_iload4 (pc := 20) dX0_countNeither_20 ?_
      refine j_aald (pc := 22) (by decide) hB.2.2.1 (pk_in n 60 hn6 rfl) (hB.r hn6) dX0_countNeither_22 ?_
      refine j_astore5 (pc := 23) dX0_countNeither_23 (by decide) trivial ?_
      refine j_iload1 (pc := 25) dX0_countNeither_25 ?_
      refine j_aload5 (pc := 26) dX0_countNeither_26 ?_
      refine cd_X0_62 (pc := 28) rfl (t_isNeither hp) hp dX0_countNeither_28 rfl rfl ?_
      refine j_bif_eq (pc := 31) (tgt := 38) dX0_countNeither_31 (by decide) (fun c31 => ?_) (fun c31 => ?_)
      · refine j_iconst (pc := 38) (v := nI 0) dX0_countNeither_38 (by decide) ?_
        refine j_iaddN (pc := 39) dX0_countNeither_39 ?_
        refine j_istore1 (pc := 40) dX0_countNeither_40 (by decide) trivial ?_
        refine j_iincN4 (pc := 41) dX0_countNeither_41 (by decide) trivial ?_
        refine j_goto (pc := 44) (tgt := 13) dX0_countNeither_44 (by decide) ?_
        simp only [c31, if_true, if_false, Bool.false_eq_true] at ih; exact J.wk ih (by simp [lcw])
      · refine j_iconst (pc := 34) (v := nI 1) dX0_countNeither_34 (by decide) ?_
        refine j_goto (pc := 35) (tgt := 39) dX0_countNeither_35 (by decide) ?_
        refine j_iaddN (pc := 39) dX0_countNeither_39 ?_
        refine j_istore1 (pc := 40) dX0_countNeither_40 (by decide) trivial ?_
        refine j_iincN4 (pc := 41) dX0_countNeither_41 (by decide) trivial ?_
        refine j_goto (pc := 44) (tgt := 13) dX0_countNeither_44 (by decide) ?_
        simp only [c31, if_true, if_false, Bool.false_eq_true] at ih; exact J.wk ih (by simp [lcw])
  refine j_iconst (pc := 0) (v := nI 0) dX0_countNeither_0 (by decide) ?_
  refine j_istore1 (pc := 1) dX0_countNeither_1 (by decide) trivial ?_
  refine j_aload0 (pc := 2) dX0_countNeither_2 ?_
  refine g_X0_11 (pc := 3) rfl hB.1 hB.2.1 dX0_countNeither_3 ?_
  refine j_astore2 (pc := 6) dX0_countNeither_6 (by decide) trivial ?_
  refine j_aload2 (pc := 7) dX0_countNeither_7 ?_
  refine j_alenR (pc := 8) (by decide) hB.2.2.1 dX0_countNeither_8 ?_
  show J cx mX0_countNeither (Rm 3 0 0) h 9 [some (.ref B), some (.int (nI 0)), some (.ref (B + 1)), none, none, none] [.int (nI 60)] 0 0 Q
  refine j_istore3 (pc := 9) dX0_countNeither_9 (by decide) trivial ?_
  refine j_iconst (pc := 10) (v := nI 0) dX0_countNeither_10 (by decide) ?_
  refine j_istore4 (pc := 11) dX0_countNeither_11 (by decide) trivial ?_
  exact L 60 rfl
theorem t_countYes (hB : BSh h.1 B) : DI cx mX0_countYes 3 h [.ref B] (nI (cnt (fun i => (pNe h (B + 2 + i) && decide (¬ h.i (B + 2 + i) 17 = 0))) 60)) h := by
  refine Sp.ofQ 5 (by decide) (Nat.le_of_ble_eq_true rfl) rfl (fun Q hQ => ?_)
  have L : ∀ N, N = 60 → J cx mX0_countYes (Rm 3 0 0) h 13 [some (.ref B), some (.int (nI 0)), some (.ref (B + 1)), some (.int (nI N)), some (.int (nI 0)), none] [] 0 0 Q := by
    intro N hN
    refine dn (P := fun n => J cx mX0_countYes (Rm 3 0 0) h 13 [some (.ref B), some (.int (nI (cnt (fun i => (pNe h (B + 2 + i) && decide (¬ h.i (B + 2 + i) 17 = 0))) n))), some (.ref (B + 1)), some (.int (nI N)), some (.int (nI n)), none] [] 0 0 Q) N ?_ ?_
    · refine j_iload4 (pc := 13) dX0_countYes_13 ?_
      refine j_iload3 (pc := 15) dX0_countYes_15 ?_
      refine j_icmpN_ge (pc := 16) (tgt := 55) (by first | decide | omega) (by first | decide | omega) dX0_countYes_16 (by decide) (fun c16 => ?_) (fun c16 => by omega)
      refine j_iload1 (pc := 55) dX0_countYes_55 ?_
      refine j_iret (pc := 56) dX0_countYes_56 rfl rfl ?_
      exact hQ _ _ ⟨_, rfl, by rw [hN], rfl⟩
    · intro n hn ih
      have hn6 : n < 60 := by omega
      have hp := (hB.2.2.2 n hn6).2
      have e : cnt (fun i => (pNe h (B + 2 + i) && decide (¬ h.i (B + 2 + i) 17 = 0))) (n + 1) = cnt (fun i => (pNe h (B + 2 + i) && decide (¬ h.i (B + 2 + i) 17 = 0))) n + (if (pNe h (B + 2 + n) && decide (¬ h.i (B + 2 + n) 17 = 0)) then 1 else 0) := rfl
      rw [e] at ih
      refine j_iload4 (pc := 13) dX0_countYes_13 ?_
      refine j_iload3 (pc := 15) dX0_countYes_15 ?_
      refine j_icmpN_ge (pc := 16) (tgt := 55) (by first | decide | omega) (by first | decide | omega) dX0_countYes_16 (by decide) (fun c16 => by omega) (fun c16 => ?_)
      refine j_aload2 (pc := 19) dX0_countYes_19 ?_
      refine j_iload4 (pc := 20) dX0_countYes_20 ?_
      refine j_aald (pc := 22) (by decide) hB.2.2.1 (pk_in n 60 hn6 rfl) (hB.r hn6) dX0_countYes_22 ?_
      refine j_astore5 (pc := 23) dX0_countYes_23 (by decide) trivial ?_
      refine j_iload1 (pc := 25) dX0_countYes_25 ?_
      refine j_aload5 (pc := 26) dX0_countYes_26 ?_
      refine cd_X0_62 (pc := 28) rfl (t_isNeither hp) hp dX0_countYes_28 rfl rfl ?_
      refine j_bif_eq (pc := 31) (tgt := 46) dX0_countYes_31 (by decide) (fun c31 => ?_) (fun c31 => ?_)
      · refine j_iconst (pc := 46) (v := nI 0) dX0_countYes_46 (by decide) ?_
        refine j_iaddN (pc := 47) dX0_countYes_47 ?_
        refine j_istore1 (pc := 48) dX0_countYes_48 (by decide) trivial ?_
        refine j_iincN4 (pc := 49) dX0_countYes_49 (by decide) trivial ?_
        refine j_goto (pc := 52) (tgt := 13) dX0_countYes_52 (by decide) ?_
        first | (simp only [c31, decide_eq_false (show ¬ ¬ h.i (B + 2 + n) 17 = 0 from fun z => z c39), Bool.true_and, if_false, Bool.false_eq_true] at ih; exact J.wk ih (by simp [lcw])) | (simp only [c31, decide_eq_true (show ¬ h.i (B + 2 + n) 17 = 0 from c39), Bool.true_and, if_true] at ih; exact J.wk ih (by simp [lcw])) | (simp only [c31, Bool.false_and, if_false, Bool.false_eq_true] at ih; exact J.wk ih (by simp [lcw]))
      · refine j_aload5 (pc := 34) dX0_countYes_34 ?_
        refine g_X0_65 (pc := 36) rfl hp dX0_countYes_36 ?_
        refine j_if_eq (pc := 39) (tgt := 46) dX0_countYes_39 (by decide) (fun c39 => ?_) (fun c39 => ?_)
        · refine j_iconst (pc := 46) (v := nI 0) dX0_countYes_46 (by decide) ?_
          refine j_iaddN (pc := 47) dX0_countYes_47 ?_
          refine j_istore1 (pc := 48) dX0_countYes_48 (by decide) trivial ?_
          refine j_iincN4 (pc := 49) dX0_countYes_49 (by decide) trivial ?_
          refine j_goto (pc := 52) (tgt := 13) dX0_countYes_52 (by decide) ?_
          first | (simp only [c31, decide_eq_false (show ¬ ¬ h.i (B + 2 + n) 17 = 0 from fun z => z c39), Bool.true_and, if_false, Bool.false_eq_true] at ih; exact J.wk ih (by simp [lcw])) | (simp only [c31, decide_eq_true (show ¬ h.i (B + 2 + n) 17 = 0 from c39), Bool.true_and, if_true] at ih; exact J.wk ih (by simp [lcw])) | (simp only [c31, Bool.false_and, if_false, Bool.false_eq_true] at ih; exact J.wk ih (by simp [lcw]))
        · refine j_iconst (pc := 42) (v := nI 1) dX0_countYes_42 (by decide) ?_
          refine j_goto (pc := 43) (tgt := 47) dX0_countYes_43 (by decide) ?_
          refine j_iaddN (pc := 47) dX0_countYes_47 ?_
          refine j_istore1 (pc := 48) dX0_countYes_48 (by decide) trivial ?_
          refine j_iincN4 (pc := 49) dX0_countYes_49 (by decide) trivial ?_
          refine j_goto (pc := 52) (tgt := 13) dX0_countYes_52 (by decide) ?_
          first | (simp only [c31, decide_eq_false (show ¬ ¬ h.i (B + 2 + n) 17 = 0 from fun z => z c39), Bool.true_and, if_false, Bool.false_eq_true] at ih; exact J.wk ih (by simp [lcw])) | (simp only [c31, decide_eq_true (show ¬ h.i (B + 2 + n) 17 = 0 from c39), Bool.true_and, if_true] at ih; exact J.wk ih (by simp [lcw])) | (simp only [c31, Bool.false_and, if_false, Bool.false_eq_true] at ih; exact J.wk ih (by simp [lcw]))
  refine j_iconst (pc := 0) (v := nI 0) dX0_countYes_0 (by decide) ?_
  refine j_istore1 (pc := 1) dX0_countYes_1 (by decide) trivial ?_
  refine j_aload0 (pc := 2) dX0_countYes_2 ?_
  refine g_X0_11 (pc := 3) rfl hB.1 hB.2.1 dX0_countYes_3 ?_
  refine j_astore2 (pc := 6) dX0_countYes_6 (by decide) trivial ?_
  refine j_aload2 (pc := 7) dX0_countYes_7 ?_
  refine j_alenR (pc := 8) (by decide) hB.2.2.1 dX0_countYes_8 ?_
  show J cx mX0_countYes (Rm 3 0 0) h 9 [some (.ref B), some (.int (nI 0)), some (.ref (B + 1)), none, none, none] [.int (nI 60)] 0 0 Q
  refine j_istore3 (pc := 9) dX0_countYes_9 (by decide) trivial ?_
  refine j_iconst (pc := 10) (v := nI 0) dX0_countYes_10 (by decide) ?_
  refine j_istore4 (pc := 11) dX0_countYes_11 (by decide) trivial ?_
  exact L 60 rfl
theorem t_countAble (hB : BSh h.1 B) : DI cx mX0_countAble 4 h [.ref B] (nI (cnt (fun i => pAb h (B + 2 + i)) 60)) h := by
  refine Sp.ofQ 5 (by decide) (Nat.le_of_ble_eq_true rfl) rfl (fun Q hQ => ?_)
  have L : ∀ N, N = 60 → J cx mX0_countAble (Rm 4 0 0) h 13 [some (.ref B), some (.int (nI 0)), some (.ref (B + 1)), some (.int (nI N)), some (.int (nI 0)), none] [] 0 0 Q := by
    intro N hN
    refine dn (P := fun n => J cx mX0_countAble (Rm 4 0 0) h 13 [some (.ref B), some (.int (nI (cnt (fun i => pAb h (B + 2 + i)) n))), some (.ref (B + 1)), some (.int (nI N)), some (.int (nI n)), none] [] 0 0 Q) N ?_ ?_
    · refine j_iload4 (pc := 13) dX0_countAble_13 ?_
      refine j_iload3 (pc := 15) dX0_countAble_15 ?_
      refine j_icmpN_ge (pc := 16) (tgt := 47) (by first | decide | omega) (by first | decide | omega) dX0_countAble_16 (by decide) (fun c16 => ?_) (fun c16 => by omega)
      refine j_iload1 (pc := 47) dX0_countAble_47 ?_
      refine j_iret (pc := 48) dX0_countAble_48 rfl rfl ?_
      exact hQ _ _ ⟨_, rfl, by rw [hN], rfl⟩
    · intro n hn ih
      have hn6 : n < 60 := by omega
      have hp := (hB.2.2.2 n hn6).2
      have e : cnt (fun i => pAb h (B + 2 + i)) (n + 1) = cnt (fun i => pAb h (B + 2 + i)) n + (if pAb h (B + 2 + n) then 1 else 0) := rfl
      rw [e] at ih
      refine j_iload4 (pc := 13) dX0_countAble_13 ?_
      refine j_iload3 (pc := 15) dX0_countAble_15 ?_
      refine j_icmpN_ge (pc := 16) (tgt := 47) (by first | decide | omega) (by first | decide | omega) dX0_countAble_16 (by decide) (fun c16 => by omega) (fun c16 => ?_)
      refine j_aload2 (pc := 19) dX0_countAble_19 ?_
      refine j_iload4 (pc := 20) dX0_countAble_20 ?_
      refine j_aald (pc := 22) (by decide) hB.2.2.1 (pk_in n 60 hn6 rfl) (hB.r hn6) dX0_countAble_22 ?_
      refine j_astore5 (pc := 23) dX0_countAble_23 (by decide) trivial ?_
      refine j_iload1 (pc := 25) dX0_countAble_25 ?_
      refine j_aload5 (pc := 26) dX0_countAble_26 ?_
      refine cd_X0_69 (pc := 28) rfl (t_isAble hp) hp dX0_countAble_28 rfl rfl ?_
      refine j_bif_eq (pc := 31) (tgt := 38) dX0_countAble_31 (by decide) (fun c31 => ?_) (fun c31 => ?_)
      · refine j_iconst (pc := 38) (v := nI 0) dX0_countAble_38 (by decide) ?_
        refine j_iaddN (pc := 39) dX0_countAble_39 ?_
        refine j_istore1 (pc := 40) dX0_countAble_40 (by decide) trivial ?_
        refine j_iincN4 (pc := 41) dX0_countAble_41 (by decide) trivial ?_
        refine j_goto (pc := 44) (tgt := 13) dX0_countAble_44 (by decide) ?_
        simp only [c31, if_true, if_false, Bool.false_eq_true] at ih; exact J.wk ih (by simp [lcw])
      · refine j_iconst (pc := 34) (v := nI 1) dX0_countAble_34 (by decide) ?_
        refine j_goto (pc := 35) (tgt := 39) dX0_countAble_35 (by decide) ?_
        refine j_iaddN (pc := 39) dX0_countAble_39 ?_
        refine j_istore1 (pc := 40) dX0_countAble_40 (by decide) trivial ?_
        refine j_iincN4 (pc := 41) dX0_countAble_41 (by decide) trivial ?_
        refine j_goto (pc := 44) (tgt := 13) dX0_countAble_44 (by decide) ?_
        simp only [c31, if_true, if_false, Bool.false_eq_true] at ih; exact J.wk ih (by simp [lcw])
  refine j_iconst (pc := 0) (v := nI 0) dX0_countAble_0 (by decide) ?_
  refine j_istore1 (pc := 1) dX0_countAble_1 (by decide) trivial ?_
  refine j_aload0 (pc := 2) dX0_countAble_2 ?_
  refine g_X0_11 (pc := 3) rfl hB.1 hB.2.1 dX0_countAble_3 ?_
  refine j_astore2 (pc := 6) dX0_countAble_6 (by decide) trivial ?_
  refine j_aload2 (pc := 7) dX0_countAble_7 ?_
  refine j_alenR (pc := 8) (by decide) hB.2.2.1 dX0_countAble_8 ?_
  show J cx mX0_countAble (Rm 4 0 0) h 9 [some (.ref B), some (.int (nI 0)), some (.ref (B + 1)), none, none, none] [.int (nI 60)] 0 0 Q
  refine j_istore3 (pc := 9) dX0_countAble_9 (by decide) trivial ?_
  refine j_iconst (pc := 10) (v := nI 0) dX0_countAble_10 (by decide) ?_
  refine j_istore4 (pc := 11) dX0_countAble_11 (by decide) trivial ?_
  exact L 60 rfl
end

