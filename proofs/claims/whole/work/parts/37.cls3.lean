/-! the class: a book, more of it -/
def bLet (h : Hp) (B : Nat) (s : Int32) : Int32 := match sN s with | none => 0 | some n => h.i (B + 2 + n) 1
def bCell (h : Hp) (B : Nat) (s : Int32) : Int32 := match sN s with | none => -1 | some n => if nI n < h.i B 4 then h.i (B + 2 + n) 13 else -1
def bVal (h : Hp) (B : Nat) (s w : Int32) : Int64 := match sN s with
  | none => -1
  | some n => if w = 0 then (h.i (B + 2 + n) 0).toInt64 else if w = 11 then (h.i (B + 2 + n) 2).toInt64 else match bPl h B s with | none => -1 | some _ => pVal h (B + 2 + n) w
def abP (h : Hp) (B : Nat) (num : Int64) (i : Nat) : Bool := pAb h (B + 2 + i) && decide (lN (cnt (fun j => pAb h (B + 2 + j)) i) = num)
def fyC (B i : Nat) (h : Hp) : Hp := h.setI (B + 2 + i) 17 0
def rrC (B i : Nat) (h : Hp) : Hp := pBack h (B + 2 + i)
def frC (B i : Nat) (h : Hp) : Hp := ((pEmp h (B + 2 + i)).setL (B + 2 + i) 16 0).setI (B + 2 + i) 17 0
def dsC (B i : Nat) (h : Hp) : Hp := if pMem h (B + 2 + i) && (match sN (h.i (B + 2 + i) 2) with | none => false | some q => decide (h.i (B + 2 + q) 0 = 4)) then h else h.setI (B + 2 + i) 2 (-1)
theorem hif_sh (b : Bool) (h h2 : Hp) (e : h2.1 = h.1) : (if b = true then h else h2).1 = h.1 := by cases b <;> simp [e]
theorem dsC_sh {B i : Nat} (h : Hp) : (dsC B i h).1 = h.1 := hif_sh _ h _ rfl
section
variable {cx : Cx} {h : Hp} {B : Nat}
theorem t_letterOn {s : Int32} (hB : BSh h.1 B) : DI cx mX0_letterOn 1 h [.ref B, .int s] (bLet h B s) h := by
  have S := t_seatAt (cx := cx) (h := h) (s := s) hB
  unfold bSeat at S
  unfold bLet
  rcases sN_cases s with ⟨hso, hsn⟩ | ⟨n, hn, rfl, hso⟩ <;> rw [hso] at S ⊢
  · refine Sp.of 1 (by decide) (Nat.le_of_ble_eq_true rfl) rfl ?_
    refine j_aload0 (pc := 0) dX0_letterOn_0 ?_
    refine j_iload1 (pc := 1) dX0_letterOn_1 ?_
    refine cd_X0_51 (pc := 2) rfl (S) hB.1 dX0_letterOn_2 rfl rfl ?_
    refine j_rn ?_
    refine j_nstore2 (pc := 5) dX0_letterOn_5 (by decide) trivial ?_
    refine j_nload2 (pc := 6) dX0_letterOn_6 ?_
    refine j_ifnonnullN (pc := 7) dX0_letterOn_7 ?_
    refine j_iconst (pc := 10) (v := 0) dX0_letterOn_10 (by decide) ?_
    refine j_goto (pc := 11) (tgt := 18) dX0_letterOn_11 (by decide) ?_
    refine j_iret (pc := 18) dX0_letterOn_18 rfl rfl ?_
    exact ⟨_, rfl, rfl, rfl⟩
  · have hp := (hB.2.2.2 n hn).2
    refine Sp.of 1 (by decide) (Nat.le_of_ble_eq_true rfl) rfl ?_
    refine j_aload0 (pc := 0) dX0_letterOn_0 ?_
    refine j_iload1 (pc := 1) dX0_letterOn_1 ?_
    refine cd_X0_51 (pc := 2) rfl (S) hB.1 dX0_letterOn_2 rfl rfl ?_
    refine j_rs ?_
    refine j_astore2 (pc := 5) dX0_letterOn_5 (by decide) trivial ?_
    refine j_aload2 (pc := 6) dX0_letterOn_6 ?_
    refine j_ifnonnull (pc := 7) (tgt := 14) dX0_letterOn_7 (by decide) ?_
    refine j_aload2 (pc := 14) dX0_letterOn_14 ?_
    refine g_X0_72 (pc := 15) rfl hp dX0_letterOn_15 ?_
    refine j_iret (pc := 18) dX0_letterOn_18 rfl rfl ?_
    exact ⟨_, rfl, rfl, rfl⟩
theorem t_cellOf {s : Int32} (hB : BSh h.1 B) : DI cx mX0_cellOf 1 h [.ref B, .int s] (bCell h B s) h := by
  have S := t_seatAt (cx := cx) (h := h) (s := s) hB
  unfold bSeat at S
  unfold bCell
  rcases sN_cases s with ⟨hso, hsn⟩ | ⟨n, hn, rfl, hso⟩ <;> rw [hso] at S ⊢
  · refine Sp.of 1 (by decide) (Nat.le_of_ble_eq_true rfl) rfl ?_
    refine j_aload0 (pc := 0) dX0_cellOf_0 ?_
    refine j_iload1 (pc := 1) dX0_cellOf_1 ?_
    refine cd_X0_51 (pc := 2) rfl (S) hB.1 dX0_cellOf_2 rfl rfl ?_
    refine j_rn ?_
    refine j_nstore2 (pc := 5) dX0_cellOf_5 (by decide) trivial ?_
    refine j_nload2 (pc := 6) dX0_cellOf_6 ?_
    refine j_ifnullN (pc := 7) (tgt := 18) dX0_cellOf_7 (by decide) ?_
    refine j_iconst (pc := 18) (v := (-1)) dX0_cellOf_18 (by decide) ?_
    refine j_goto (pc := 19) (tgt := 26) dX0_cellOf_19 (by decide) ?_
    refine j_iret (pc := 26) dX0_cellOf_26 rfl rfl ?_
    exact ⟨_, rfl, rfl, rfl⟩
  · have hp := (hB.2.2.2 n hn).2
    refine Sp.of 1 (by decide) (Nat.le_of_ble_eq_true rfl) rfl ?_
    refine j_aload0 (pc := 0) dX0_cellOf_0 ?_
    refine j_iload1 (pc := 1) dX0_cellOf_1 ?_
    refine cd_X0_51 (pc := 2) rfl (S) hB.1 dX0_cellOf_2 rfl rfl ?_
    refine j_rs ?_
    refine j_astore2 (pc := 5) dX0_cellOf_5 (by decide) trivial ?_
    refine j_aload2 (pc := 6) dX0_cellOf_6 ?_
    refine j_ifnull (pc := 7) dX0_cellOf_7 ?_
    refine j_iload1 (pc := 10) dX0_cellOf_10 ?_
    refine j_aload0 (pc := 11) dX0_cellOf_11 ?_
    refine g_X0_18 (pc := 12) rfl hB.1 dX0_cellOf_12 ?_
    refine j_icmp_lt (pc := 15) (tgt := 22) dX0_cellOf_15 (by decide) (fun c15 => ?_) (fun c15 => ?_)
    · refine j_aload2 (pc := 22) dX0_cellOf_22 ?_
      refine g_X0_75 (pc := 23) rfl hp dX0_cellOf_23 ?_
      refine j_iret (pc := 26) dX0_cellOf_26 rfl rfl ?_
      first | exact ⟨_, rfl, (if_pos c15).symm, rfl⟩ | exact ⟨_, rfl, (if_neg c15).symm, rfl⟩
    · refine j_iconst (pc := 18) (v := (-1)) dX0_cellOf_18 (by decide) ?_
      refine j_goto (pc := 19) (tgt := 26) dX0_cellOf_19 (by decide) ?_
      refine j_iret (pc := 26) dX0_cellOf_26 rfl rfl ?_
      first | exact ⟨_, rfl, (if_pos c15).symm, rfl⟩ | exact ⟨_, rfl, (if_neg c15).symm, rfl⟩
theorem t_bValueOf {s w : Int32} (hB : BSh h.1 B) : DL cx mX0_valueOf 3 h [.ref B, .int s, .int w] (bVal h B s w) h := by
  have S := t_seatAt (cx := cx) (h := h) (s := s) hB
  have S2 := t_placeAt (cx := cx) (h := h) (s := s) hB
  unfold bSeat at S
  unfold bVal
  rcases sN_cases s with ⟨hso, hsn⟩ | ⟨n, hn, rfl, hso⟩ <;> rw [hso] at S ⊢
  · refine Sp.of 1 (by decide) (Nat.le_of_ble_eq_true rfl) rfl ?_
    refine j_aload0 (pc := 0) dX0_valueOf_0 ?_
    refine j_iload1 (pc := 1) dX0_valueOf_1 ?_
    refine cd_X0_51 (pc := 2) rfl (S) hB.1 dX0_valueOf_2 rfl rfl ?_
    refine j_rn ?_
    refine j_nstore3 (pc := 5) dX0_valueOf_5 (by decide) trivial ?_
    refine j_nload3 (pc := 6) dX0_valueOf_6 ?_
    refine j_ifnonnullN (pc := 7) dX0_valueOf_7 ?_
    refine j_ldc2 (pc := 10) dX0_valueOf_10 wT_kl_X0_78 ?_
    refine j_lret (pc := 13) dX0_valueOf_13 rfl ?_
    exact ⟨_, rfl, rfl, rfl⟩
  · have hp := (hB.2.2.2 n hn).2
    dsimp only
    cases hpl : bPl h B (nI n) with
    | none =>
      rw [hpl] at S2
      refine Sp.of 1 (by decide) (Nat.le_of_ble_eq_true rfl) rfl ?_
      refine j_aload0 (pc := 0) dX0_valueOf_0 ?_
      refine j_iload1 (pc := 1) dX0_valueOf_1 ?_
      refine cd_X0_51 (pc := 2) rfl (S) hB.1 dX0_valueOf_2 rfl rfl ?_
      refine j_rs ?_
      refine j_astore3 (pc := 5) dX0_valueOf_5 (by decide) trivial ?_
      refine j_aload3 (pc := 6) dX0_valueOf_6 ?_
      refine j_ifnonnull (pc := 7) (tgt := 14) dX0_valueOf_7 (by decide) ?_
      refine j_iload2 (pc := 14) dX0_valueOf_14 ?_
      refine j_if_ne (pc := 15) (tgt := 24) dX0_valueOf_15 (by decide) (fun c15 => ?_) (fun c15 => ?_)
      · refine j_iload2 (pc := 24) dX0_valueOf_24 ?_
        refine j_bipush (pc := 25) (v := 11) dX0_valueOf_25 (by decide) ?_
        refine j_icmp_ne (pc := 27) (tgt := 36) dX0_valueOf_27 (by decide) (fun c27 => ?_) (fun c27 => ?_)
        · refine j_aload0 (pc := 36) dX0_valueOf_36 ?_
          refine j_iload1 (pc := 37) dX0_valueOf_37 ?_
          refine cd_X0_86 (pc := 38) rfl (S2) hB.1 dX0_valueOf_38 rfl rfl ?_
          refine j_rn ?_
          refine j_ifnonnullN (pc := 41) dX0_valueOf_41 ?_
          refine j_ldc2 (pc := 44) dX0_valueOf_44 wT_kl_X0_78 ?_
          refine j_goto (pc := 47) (tgt := 55) dX0_valueOf_47 (by decide) ?_
          refine j_lret (pc := 55) dX0_valueOf_55 rfl ?_
          exact ⟨_, rfl, by rw [if_neg c15, if_neg c27], rfl⟩
        · refine j_aload3 (pc := 30) dX0_valueOf_30 ?_
          refine g_X0_83 (pc := 31) rfl hp dX0_valueOf_31 ?_
          refine j_i2l (pc := 34) dX0_valueOf_34 ?_
          refine j_lret (pc := 35) dX0_valueOf_35 rfl ?_
          exact ⟨_, rfl, by rw [if_neg c15, if_pos c27], rfl⟩
      · refine j_aload3 (pc := 18) dX0_valueOf_18 ?_
        refine g_X0_80 (pc := 19) rfl hp dX0_valueOf_19 ?_
        refine j_i2l (pc := 22) dX0_valueOf_22 ?_
        refine j_lret (pc := 23) dX0_valueOf_23 rfl ?_
        exact ⟨_, rfl, (if_pos c15).symm, rfl⟩
    | some q =>
      rw [hpl] at S2
      refine Sp.of 1 (by decide) (Nat.le_of_ble_eq_true rfl) rfl ?_
      refine j_aload0 (pc := 0) dX0_valueOf_0 ?_
      refine j_iload1 (pc := 1) dX0_valueOf_1 ?_
      refine cd_X0_51 (pc := 2) rfl (S) hB.1 dX0_valueOf_2 rfl rfl ?_
      refine j_rs ?_
      refine j_astore3 (pc := 5) dX0_valueOf_5 (by decide) trivial ?_
      refine j_aload3 (pc := 6) dX0_valueOf_6 ?_
      refine j_ifnonnull (pc := 7) (tgt := 14) dX0_valueOf_7 (by decide) ?_
      refine j_iload2 (pc := 14) dX0_valueOf_14 ?_
      refine j_if_ne (pc := 15) (tgt := 24) dX0_valueOf_15 (by decide) (fun c15 => ?_) (fun c15 => ?_)
      · refine j_iload2 (pc := 24) dX0_valueOf_24 ?_
        refine j_bipush (pc := 25) (v := 11) dX0_valueOf_25 (by decide) ?_
        refine j_icmp_ne (pc := 27) (tgt := 36) dX0_valueOf_27 (by decide) (fun c27 => ?_) (fun c27 => ?_)
        · refine j_aload0 (pc := 36) dX0_valueOf_36 ?_
          refine j_iload1 (pc := 37) dX0_valueOf_37 ?_
          refine cd_X0_86 (pc := 38) rfl (S2) hB.1 dX0_valueOf_38 rfl rfl ?_
          refine j_rs ?_
          refine j_ifnonnull (pc := 41) (tgt := 50) dX0_valueOf_41 (by decide) ?_
          refine j_aload3 (pc := 50) dX0_valueOf_50 ?_
          refine j_iload2 (pc := 51) dX0_valueOf_51 ?_
          refine cd_X0_89 (pc := 52) rfl (t_valueOf hp) hp dX0_valueOf_52 rfl rfl ?_
          refine j_lret (pc := 55) dX0_valueOf_55 rfl ?_
          exact ⟨_, rfl, by rw [if_neg c15, if_neg c27], rfl⟩
        · refine j_aload3 (pc := 30) dX0_valueOf_30 ?_
          refine g_X0_83 (pc := 31) rfl hp dX0_valueOf_31 ?_
          refine j_i2l (pc := 34) dX0_valueOf_34 ?_
          refine j_lret (pc := 35) dX0_valueOf_35 rfl ?_
          exact ⟨_, rfl, by rw [if_neg c15, if_pos c27], rfl⟩
      · refine j_aload3 (pc := 18) dX0_valueOf_18 ?_
        refine g_X0_80 (pc := 19) rfl hp dX0_valueOf_19 ?_
        refine j_i2l (pc := 22) dX0_valueOf_22 ?_
        refine j_lret (pc := 23) dX0_valueOf_23 rfl ?_
        exact ⟨_, rfl, (if_pos c15).symm, rfl⟩
theorem t_ableNumber {num : Int64} (hB : BSh h.1 B) : DI cx mX0_ableNumber 4 h [.ref B, .long num] (woI (fnd (abP h B num) 60)) h := by
  refine Sp.ofQ 3 (by decide) (Nat.le_of_ble_eq_true rfl) rfl (fun Q hQ => ?_)
  have L : ∀ N, N = 60 → J cx mX0_ableNumber (Rm 4 0 0) h 5 [some (.ref B), some (.long num), none, some (.long (lN 0)), none, some (.int (nI 0))] [] 0 0 Q := by
    intro N hN
    refine dnI (I := fun n => fnd (abP h B num) n = none) (P := fun n => J cx mX0_ableNumber (Rm 4 0 0) h 5 [some (.ref B), some (.long num), none, some (.long (lN (cnt (fun j => pAb h (B + 2 + j)) n))), none, some (.int (nI n))] [] 0 0 Q) N rfl ?_ ?_
    · intro hf
      refine j_iload5 (pc := 5) dX0_ableNumber_5 ?_
      refine j_bipush (pc := 7) (v := nI 60) dX0_ableNumber_7 (by decide) ?_
      refine j_icmpN_ge (pc := 9) (tgt := 44) (by first | decide | omega) (by first | decide | omega) dX0_ableNumber_9 (by decide) (fun c9 => ?_) (fun c9 => by omega)
      refine j_iconst (pc := 44) (v := (-1)) dX0_ableNumber_44 (by decide) ?_
      refine j_iret (pc := 45) dX0_ableNumber_45 rfl rfl ?_
      exact hQ _ _ ⟨_, rfl, by rw [← hN, hf]; rfl, rfl⟩
    · intro n hn hf ih
      have hn6 : n < 60 := by omega
      have hp := (hB.2.2.2 n hn6).2
      have e : cnt (fun j => pAb h (B + 2 + j)) (n + 1) = cnt (fun j => pAb h (B + 2 + j)) n + (if pAb h (B + 2 + n) then 1 else 0) := rfl
      rw [e, ← lN_add] at ih
      have hno : abP h B num n = false → fnd (abP h B num) (n + 1) = none := fun z => by unfold fnd; rw [hf]; dsimp only; rw [z]; rfl
      refine j_iload5 (pc := 5) dX0_ableNumber_5 ?_
      refine j_bipush (pc := 7) (v := nI 60) dX0_ableNumber_7 (by decide) ?_
      refine j_icmpN_ge (pc := 9) (tgt := 44) (by first | decide | omega) (by first | decide | omega) dX0_ableNumber_9 (by decide) (fun c9 => by omega) (fun c9 => ?_)
      refine j_aload0 (pc := 12) dX0_ableNumber_12 ?_
      refine g_X0_11 (pc := 13) rfl hB.1 hB.2.1 dX0_ableNumber_13 ?_
      refine j_iload5 (pc := 16) dX0_ableNumber_16 ?_
      refine j_aald (pc := 18) (by decide) hB.2.2.1 (pk_in n 60 hn6 rfl) (hB.r hn6) dX0_ableNumber_18 ?_
      refine cd_X0_69 (pc := 19) rfl (t_isAble hp) hp dX0_ableNumber_19 rfl rfl ?_
      refine j_bif_eq (pc := 22) (tgt := 38) dX0_ableNumber_22 (by decide) (fun c22 => ?_) (fun c22 => ?_)
      · refine j_iincN5 (pc := 38) dX0_ableNumber_38 (by decide) trivial ?_
        refine j_goto (pc := 41) (tgt := 5) dX0_ableNumber_41 (by decide) ?_
        first | (have ih := ih (hno (by unfold abP; rw [c22, decide_eq_false c27]; rfl)); rw [if_pos c22, lN_o] at ih; exact ih) | (have ih := ih (hno (by unfold abP; rw [c22]; rfl)); rw [if_neg (by rw [c22]; decide), lN_0, Int64.add_zero] at ih; exact ih)
      · refine j_lload3 (pc := 25) dX0_ableNumber_25 ?_
        refine j_lload1 (pc := 26) dX0_ableNumber_26 ?_
        refine j_lcmp_ne (pc := 27) (tgt := 34) dX0_ableNumber_27 dX0_ableNumber_28 (by decide) (fun c27 => ?_) (fun c27 => ?_)
        · refine j_lload3 (pc := 34) dX0_ableNumber_34 ?_
          refine j_lconst (pc := 35) (v := 1) dX0_ableNumber_35 (by decide) ?_
          refine j_ladd (pc := 36) dX0_ableNumber_36 ?_
          refine j_lstore3 (pc := 37) dX0_ableNumber_37 (by decide) trivial ?_
          refine j_iincN5 (pc := 38) dX0_ableNumber_38 (by decide) trivial ?_
          refine j_goto (pc := 41) (tgt := 5) dX0_ableNumber_41 (by decide) ?_
          first | (have ih := ih (hno (by unfold abP; rw [c22, decide_eq_false c27]; rfl)); rw [if_pos c22, lN_o] at ih; exact ih) | (have ih := ih (hno (by unfold abP; rw [c22]; rfl)); rw [if_neg (by rw [c22]; decide), lN_0, Int64.add_zero] at ih; exact ih)
        · refine j_iload5 (pc := 31) dX0_ableNumber_31 ?_
          refine j_iret (pc := 33) dX0_ableNumber_33 rfl rfl ?_
          exact hQ _ _ ⟨_, rfl, by rw [← hN, fnd_at hf (show abP h B num n = true by unfold abP; rw [c22, decide_eq_true c27]; rfl) N hn]; rfl, rfl⟩
  refine j_lconst (pc := 0) (v := 0) dX0_ableNumber_0 (by decide) ?_
  refine j_lstore3 (pc := 1) dX0_ableNumber_1 (by decide) trivial ?_
  refine j_iconst (pc := 2) (v := nI 0) dX0_ableNumber_2 (by decide) ?_
  refine j_istore5 (pc := 3) dX0_ableNumber_3 (by decide) trivial ?_
  exact L 60 rfl
theorem t_forgetYes (hB : BSh h.1 B) : DV cx mX0_forgetYes 0 h [.ref B] (itr (fyC B) 60 h) := by
  refine Sp.ofQ 4 (by decide) (Nat.le_of_ble_eq_true rfl) rfl (fun Q hQ => ?_)
  have L : ∀ N, N = 60 → J cx mX0_forgetYes (Rm 0 0 0) h 10 [some (.ref B), some (.ref (B + 1)), some (.int (nI N)), some (.int (nI 0)), none] [] 0 0 Q := by
    intro N hN
    rw [← hN] at hQ
    refine dn (P := fun n => J cx mX0_forgetYes (Rm 0 0 0) (itr (fyC B) n h) 10 [some (.ref B), some (.ref (B + 1)), some (.int (nI N)), some (.int (nI n)), none] [] 0 0 Q) N ?_ ?_
    · refine j_iload3 (pc := 10) dX0_forgetYes_10 ?_
      refine j_iload2 (pc := 11) dX0_forgetYes_11 ?_
      refine j_icmpN_ge (pc := 12) (tgt := 32) (by first | decide | omega) (by first | decide | omega) dX0_forgetYes_12 (by decide) (fun c12 => ?_) (fun c12 => by omega)
      refine j_vret (pc := 32) dX0_forgetYes_32 rfl ?_
      exact hQ _ _ ⟨rfl, rfl⟩
    · intro n hn ih
      have hn6 : n < 60 := by omega
      have hB2 : BSh (itr (fyC B) n h).1 B := by rw [itr_keep (step := fyC B) (fun y : Hp => y.1) (fun _ _ => rfl) h n]; exact hB
      have ih : J cx mX0_forgetYes (Rm 0 0 0) (fyC B n (itr (fyC B) n h)) 10 [some (.ref B), some (.ref (B + 1)), some (.int (nI N)), some (.int (nI (n + 1))), none] [] 0 0 Q := ih
      generalize itr (fyC B) n h = h2 at hB2 ih
      have hB := hB2
      have hp := (hB.2.2.2 n hn6).2
      refine j_iload3 (pc := 10) dX0_forgetYes_10 ?_
      refine j_iload2 (pc := 11) dX0_forgetYes_11 ?_
      refine j_icmpN_ge (pc := 12) (tgt := 32) (by first | decide | omega) (by first | decide | omega) dX0_forgetYes_12 (by decide) (fun c12 => by omega) (fun c12 => ?_)
      refine j_aload1 (pc := 15) dX0_forgetYes_15 ?_
      refine j_iload3 (pc := 16) dX0_forgetYes_16 ?_
      refine j_aald (pc := 17) (by decide) hB.2.2.1 (pk_in n 60 hn6 rfl) (hB.r hn6) dX0_forgetYes_17 ?_
      refine j_astore4 (pc := 18) dX0_forgetYes_18 (by decide) trivial ?_
      refine j_aload4 (pc := 20) dX0_forgetYes_20 ?_
      refine j_iconst (pc := 22) (v := 0) dX0_forgetYes_22 (by decide) ?_
      refine p_X0_65' (pc := 23) rfl hp (by decide) dX0_forgetYes_23 ?_
      refine j_iincN3 (pc := 26) dX0_forgetYes_26 (by decide) trivial ?_
      refine j_goto (pc := 29) (tgt := 10) dX0_forgetYes_29 (by decide) ?_
      exact J.wk ih (by simp [lcw])
  refine j_aload0 (pc := 0) dX0_forgetYes_0 ?_
  refine g_X0_11 (pc := 1) rfl hB.1 hB.2.1 dX0_forgetYes_1 ?_
  refine j_astore1 (pc := 4) dX0_forgetYes_4 (by decide) trivial ?_
  refine j_aload1 (pc := 5) dX0_forgetYes_5 ?_
  refine j_alenR (pc := 6) (by decide) hB.2.2.1 dX0_forgetYes_6 ?_
  show J cx mX0_forgetYes (Rm 0 0 0) h 7 [some (.ref B), some (.ref (B + 1)), none, none, none] [.int (nI 60)] 0 0 Q
  refine j_istore2 (pc := 7) dX0_forgetYes_7 (by decide) trivial ?_
  refine j_iconst (pc := 8) (v := nI 0) dX0_forgetYes_8 (by decide) ?_
  refine j_istore3 (pc := 9) dX0_forgetYes_9 (by decide) trivial ?_
  exact L 60 rfl
theorem t_replaceRow {m : Int32} (hB : BSh h.1 B) : DV cx mX0_replaceRow 2 h [.ref B, .int m] ((itr (rrC B) 60 h).setI B 4 m) := by
  refine Sp.ofQ 4 (by decide) (Nat.le_of_ble_eq_true rfl) rfl (fun Q hQ => ?_)
  have L : ∀ N, N = 60 → J cx mX0_replaceRow (Rm 2 0 0) h 11 [some (.ref B), some (.int m), some (.ref (B + 1)), some (.int (nI N)), some (.int (nI 0)), none] [] 0 0 Q := by
    intro N hN
    rw [← hN] at hQ
    have hBn : ∀ n, BSh (itr (rrC B) n h).1 B := fun n => by rw [itr_keep (step := rrC B) (fun y : Hp => y.1) (fun _ _ => rfl) h n]; exact hB
    refine dn (P := fun n => J cx mX0_replaceRow (Rm 2 0 0) (itr (rrC B) n h) 11 [some (.ref B), some (.int m), some (.ref (B + 1)), some (.int (nI N)), some (.int (nI n)), none] [] 0 0 Q) N ?_ ?_
    · have hB := hBn N
      generalize itr (rrC B) N h = h2 at hB hQ
      refine j_iload4 (pc := 11) dX0_replaceRow_11 ?_
      refine j_iload3 (pc := 13) dX0_replaceRow_13 ?_
      refine j_icmpN_ge (pc := 14) (tgt := 34) (by first | decide | omega) (by first | decide | omega) dX0_replaceRow_14 (by decide) (fun c14 => ?_) (fun c14 => by omega)
      refine j_aload0 (pc := 34) dX0_replaceRow_34 ?_
      refine j_iload1 (pc := 35) dX0_replaceRow_35 ?_
      refine p_X0_18 (pc := 36) rfl hB.1 dX0_replaceRow_36 ?_
      refine j_vret (pc := 39) dX0_replaceRow_39 rfl ?_
      exact hQ _ _ ⟨rfl, rfl⟩
    · intro n hn ih
      have hn6 : n < 60 := by omega
      have hB2 := hBn n
      have ih : J cx mX0_replaceRow (Rm 2 0 0) (rrC B n (itr (rrC B) n h)) 11 [some (.ref B), some (.int m), some (.ref (B + 1)), some (.int (nI N)), some (.int (nI (n + 1))), none] [] 0 0 Q := ih
      generalize itr (rrC B) n h = h2 at hB2 ih
      have hB := hB2
      have hp := (hB.2.2.2 n hn6).2
      refine j_iload4 (pc := 11) dX0_replaceRow_11 ?_
      refine j_iload3 (pc := 13) dX0_replaceRow_13 ?_
      refine j_icmpN_ge (pc := 14) (tgt := 34) (by first | decide | omega) (by first | decide | omega) dX0_replaceRow_14 (by decide) (fun c14 => by omega) (fun c14 => ?_)
      refine j_aload2 (pc := 17) dX0_replaceRow_17 ?_
      refine j_iload4 (pc := 18) dX0_replaceRow_18 ?_
      refine j_aald (pc := 20) (by decide) hB.2.2.1 (pk_in n 60 hn6 rfl) (hB.r hn6) dX0_replaceRow_20 ?_
      refine j_astore5 (pc := 21) dX0_replaceRow_21 (by decide) trivial ?_
      refine j_aload5 (pc := 23) dX0_replaceRow_23 ?_
      refine cd_X0_93 (pc := 25) rfl (t_takeCellBack hp) hp dX0_replaceRow_25 rfl rfl ?_
      refine j_iincN4 (pc := 28) dX0_replaceRow_28 (by decide) trivial ?_
      refine j_goto (pc := 31) (tgt := 11) dX0_replaceRow_31 (by decide) ?_
      exact J.wk ih (by simp [lcw])
  refine j_aload0 (pc := 0) dX0_replaceRow_0 ?_
  refine g_X0_11 (pc := 1) rfl hB.1 hB.2.1 dX0_replaceRow_1 ?_
  refine j_astore2 (pc := 4) dX0_replaceRow_4 (by decide) trivial ?_
  refine j_aload2 (pc := 5) dX0_replaceRow_5 ?_
  refine j_alenR (pc := 6) (by decide) hB.2.2.1 dX0_replaceRow_6 ?_
  show J cx mX0_replaceRow (Rm 2 0 0) h 7 [some (.ref B), some (.int m), some (.ref (B + 1)), none, none, none] [.int (nI 60)] 0 0 Q
  refine j_istore3 (pc := 7) dX0_replaceRow_7 (by decide) trivial ?_
  refine j_iconst (pc := 8) (v := nI 0) dX0_replaceRow_8 (by decide) ?_
  refine j_istore4 (pc := 9) dX0_replaceRow_9 (by decide) trivial ?_
  exact L 60 rfl
theorem t_forgetRound (hB : BSh h.1 B) : DV cx mX0_forgetRound 1 h [.ref B] (((itr (frC B) 60 h).setI B 4 (-1)).setI B 5 (-1)) := by
  refine Sp.ofQ 4 (by decide) (Nat.le_of_ble_eq_true rfl) rfl (fun Q hQ => ?_)
  have L : ∀ N, N = 60 → J cx mX0_forgetRound (Rm 1 0 0) h 10 [some (.ref B), some (.ref (B + 1)), some (.int (nI N)), some (.int (nI 0)), none] [] 0 0 Q := by
    intro N hN
    rw [← hN] at hQ
    have hBn : ∀ n, BSh (itr (frC B) n h).1 B := fun n => by rw [itr_keep (step := frC B) (fun y : Hp => y.1) (fun _ _ => rfl) h n]; exact hB
    refine dn (P := fun n => J cx mX0_forgetRound (Rm 1 0 0) (itr (frC B) n h) 10 [some (.ref B), some (.ref (B + 1)), some (.int (nI N)), some (.int (nI n)), none] [] 0 0 Q) N ?_ ?_
    · have hB := hBn N
      generalize itr (frC B) N h = h2 at hB hQ
      refine j_iload3 (pc := 10) dX0_forgetRound_10 ?_
      refine j_iload2 (pc := 11) dX0_forgetRound_11 ?_
      refine j_icmpN_ge (pc := 12) (tgt := 43) (by first | decide | omega) (by first | decide | omega) dX0_forgetRound_12 (by decide) (fun c12 => ?_) (fun c12 => by omega)
      refine j_aload0 (pc := 43) dX0_forgetRound_43 ?_
      refine j_iconst (pc := 44) (v := (-1)) dX0_forgetRound_44 (by decide) ?_
      refine p_X0_18 (pc := 45) rfl hB.1 dX0_forgetRound_45 ?_
      refine j_aload0 (pc := 48) dX0_forgetRound_48 ?_
      refine j_iconst (pc := 49) (v := (-1)) dX0_forgetRound_49 (by decide) ?_
      refine p_X0_22 (pc := 50) rfl hB.1 dX0_forgetRound_50 ?_
      refine j_vret (pc := 53) dX0_forgetRound_53 rfl ?_
      exact hQ _ _ ⟨rfl, rfl⟩
    · intro n hn ih
      have hn6 : n < 60 := by omega
      have hB2 := hBn n
      have ih : J cx mX0_forgetRound (Rm 1 0 0) (frC B n (itr (frC B) n h)) 10 [some (.ref B), some (.ref (B + 1)), some (.int (nI N)), some (.int (nI (n + 1))), none] [] 0 0 Q := ih
      generalize itr (frC B) n h = h2 at hB2 ih
      have hB := hB2
      have hp := (hB.2.2.2 n hn6).2
      refine j_iload3 (pc := 10) dX0_forgetRound_10 ?_
      refine j_iload2 (pc := 11) dX0_forgetRound_11 ?_
      refine j_icmpN_ge (pc := 12) (tgt := 43) (by first | decide | omega) (by first | decide | omega) dX0_forgetRound_12 (by decide) (fun c12 => by omega) (fun c12 => ?_)
      refine j_aload1 (pc := 15) dX0_forgetRound_15 ?_
      refine j_iload3 (pc := 16) dX0_forgetRound_16 ?_
      refine j_aald (pc := 17) (by decide) hB.2.2.1 (pk_in n 60 hn6 rfl) (hB.r hn6) dX0_forgetRound_17 ?_
      refine j_astore4 (pc := 18) dX0_forgetRound_18 (by decide) trivial ?_
      refine j_aload4 (pc := 20) dX0_forgetRound_20 ?_
      refine cd_X0_96 (pc := 22) rfl (t_emptyCell hp) hp dX0_forgetRound_22 rfl rfl ?_
      refine j_aload4 (pc := 25) dX0_forgetRound_25 ?_
      refine j_lconst (pc := 27) (v := 0) dX0_forgetRound_27 (by decide) ?_
      refine p_X0_99 (pc := 28) rfl hp dX0_forgetRound_28 ?_
      refine j_aload4 (pc := 31) dX0_forgetRound_31 ?_
      refine j_iconst (pc := 33) (v := 0) dX0_forgetRound_33 (by decide) ?_
      refine p_X0_65' (pc := 34) rfl hp (by decide) dX0_forgetRound_34 ?_
      refine j_iincN3 (pc := 37) dX0_forgetRound_37 (by decide) trivial ?_
      refine j_goto (pc := 40) (tgt := 10) dX0_forgetRound_40 (by decide) ?_
      exact J.wk ih (by simp [lcw])
  refine j_aload0 (pc := 0) dX0_forgetRound_0 ?_
  refine g_X0_11 (pc := 1) rfl hB.1 hB.2.1 dX0_forgetRound_1 ?_
  refine j_astore1 (pc := 4) dX0_forgetRound_4 (by decide) trivial ?_
  refine j_aload1 (pc := 5) dX0_forgetRound_5 ?_
  refine j_alenR (pc := 6) (by decide) hB.2.2.1 dX0_forgetRound_6 ?_
  show J cx mX0_forgetRound (Rm 1 0 0) h 7 [some (.ref B), some (.ref (B + 1)), none, none, none] [.int (nI 60)] 0 0 Q
  refine j_istore2 (pc := 7) dX0_forgetRound_7 (by decide) trivial ?_
  refine j_iconst (pc := 8) (v := nI 0) dX0_forgetRound_8 (by decide) ?_
  refine j_istore3 (pc := 9) dX0_forgetRound_9 (by decide) trivial ?_
  exact L 60 rfl
end

