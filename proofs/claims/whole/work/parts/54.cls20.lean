/-! the class: a ring being made -/
def rSeat (h : Hp) (A : Nat) (s w x : Int32) : Int32 × Hp := if h.i (A + 5) 1 = 0 then (match sN s with | none => (3, h) | some n => if wn w.toInt64 0 4 = true then (0, (h.setI (A + 5 + 2 + n) 0 w).setI (A + 5 + 2 + n) 1 (if w = 1 then x else 0)) else (4, h)) else (2, h)
def rAns (h : Hp) (A : Nat) (u s : Int32) : Int32 × Hp := if h.i (A + 5) 1 = 0 then (match sN u with | none => (3, h) | some q => if h.i (A + 5 + 2 + q) 0 = 0 then (3, h) else if h.i (A + 5 + 2 + q) 0 = 4 then (match bMem h (A + 5) s with | none => (3, h) | some p => if s = u then (3, h) else if h.i p 2 = u then (8, h) else (0, h.setI p 2 u)) else (4, h)) else (2, h)
def bgS (B n : Nat) (h : Hp) : Hp := h.setI (B + 2 + n) 5 (b2i (pMem h (B + 2 + n)))
def cMem (h : Hp) (B : Nat) : Nat := cnt (fun i => pMem h (B + 2 + i)) 60
def rBeg (h : Hp) (A : Nat) : Int32 × Hp := if h.i (A + 5) 1 = 0 then (if nI (cMem h (A + 5)) = 0 then (3, h) else (0, ((itr (bgS (A + 5)) 60 (itr (dsC (A + 5)) 60 h)).setI (A + 5) 3 (nI (cMem h (A + 5)))).setI (A + 5) 1 1)) else (2, h)
section
variable {cx : Cx} {h : Hp} {A : Nat}
theorem bMem_kd {B p : Nat} {s : Int32} (hB : BSh h.1 B) (hm : bMem h B s = some p) : h.kd p = kObj 1 := by
  unfold bMem at hm
  rcases sN_cases s with ⟨hso, hsn⟩ | ⟨n, hn, rfl, hso⟩ <;> rw [hso] at hm
  · cases hm
  · dsimp only at hm
    split at hm
    · cases hm
      exact (hB.2.2.2 n hn).2
    · cases hm
theorem bPl_kd {B p : Nat} {s : Int32} (hB : BSh h.1 B) (hm : bPl h B s = some p) : h.kd p = kObj 1 := by
  unfold bPl at hm
  split at hm
  · cases hm
  · exact bMem_kd hB hm
theorem t_seatOther {s w x : Int32} (hA : RSh h.1 A) : DI cx mX2_seatOther 1 h [.ref A, .int s, .int w, .int x] (rSeat h A s w x).1 (rSeat h A s w x).2 := by
  have hB := hA.2.2.2.2.2.1.2
  have S := t_seatAt (cx := cx) (h := h) (B := A + 5) (s := s) hB
  unfold bSeat at S
  unfold rSeat
  rcases sN_cases s with ⟨hso, hsn⟩ | ⟨n, hn, rfl, hso⟩ <;> rw [hso] at S ⊢ <;> dsimp only
  · refine Sp.of 1 (by decide) (Nat.le_of_ble_eq_true rfl) rfl ?_
    refine j_aload0 (pc := 0) dX2_seatOther_0 ?_
    refine g_X2_42 (pc := 1) rfl hA.1 hA.2.2.2.2.2.1.1 dX2_seatOther_1 ?_
    refine g_X2_85 (pc := 4) rfl hA.2.2.2.2.2.1.2.1 dX2_seatOther_4 ?_
    refine j_if_eq (pc := 7) (tgt := 12) dX2_seatOther_7 (by decide) (fun c7 => ?_) (fun c7 => ?_)
    · refine j_aload0 (pc := 12) dX2_seatOther_12 ?_
      refine g_X2_42 (pc := 13) rfl hA.1 hA.2.2.2.2.2.1.1 dX2_seatOther_13 ?_
      refine j_iload1 (pc := 16) dX2_seatOther_16 ?_
      refine cd_X2_88 (pc := 17) rfl (S) hA.2.2.2.2.2.1.2.1 dX2_seatOther_17 rfl rfl ?_
      refine j_rn ?_
      refine j_nstore4 (pc := 20) dX2_seatOther_20 (by decide) trivial ?_
      refine j_nload4 (pc := 22) dX2_seatOther_22 ?_
      refine j_ifnonnullN (pc := 24) dX2_seatOther_24 ?_
      refine j_iconst (pc := 27) (v := 3) dX2_seatOther_27 (by decide) ?_
      refine j_iret (pc := 28) dX2_seatOther_28 rfl rfl ?_
      exact ⟨_, rfl, by rw [if_pos c7], by rw [if_pos c7]⟩
    · refine j_iconst (pc := 10) (v := 2) dX2_seatOther_10 (by decide) ?_
      refine j_iret (pc := 11) dX2_seatOther_11 rfl rfl ?_
      exact ⟨_, rfl, by rw [if_neg c7], by rw [if_neg c7]⟩
  · have hp := (hB.2.2.2 n hn).2
    refine Sp.of 1 (by decide) (Nat.le_of_ble_eq_true rfl) rfl ?_
    refine j_aload0 (pc := 0) dX2_seatOther_0 ?_
    refine g_X2_42 (pc := 1) rfl hA.1 hA.2.2.2.2.2.1.1 dX2_seatOther_1 ?_
    refine g_X2_85 (pc := 4) rfl hA.2.2.2.2.2.1.2.1 dX2_seatOther_4 ?_
    refine j_if_eq (pc := 7) (tgt := 12) dX2_seatOther_7 (by decide) (fun c7 => ?_) (fun c7 => ?_)
    · refine j_aload0 (pc := 12) dX2_seatOther_12 ?_
      refine g_X2_42 (pc := 13) rfl hA.1 hA.2.2.2.2.2.1.1 dX2_seatOther_13 ?_
      refine j_iload1 (pc := 16) dX2_seatOther_16 ?_
      refine cd_X2_88 (pc := 17) rfl (S) hA.2.2.2.2.2.1.2.1 dX2_seatOther_17 rfl rfl ?_
      refine j_rs ?_
      refine j_astore4 (pc := 20) dX2_seatOther_20 (by decide) trivial ?_
      refine j_aload4 (pc := 22) dX2_seatOther_22 ?_
      refine j_ifnonnull (pc := 24) (tgt := 29) dX2_seatOther_24 (by decide) ?_
      refine j_iload2 (pc := 29) dX2_seatOther_29 ?_
      refine j_i2l (pc := 30) dX2_seatOther_30 ?_
      refine j_lconst (pc := 31) (v := 0) dX2_seatOther_31 (by decide) ?_
      refine j_ldc2 (pc := 32) dX2_seatOther_32 wT_kl_X2_92 ?_
      refine cd_X2_94 (pc := 35) rfl (t_within) dX2_seatOther_35 rfl rfl ?_
      refine j_bif_ne (pc := 38) (tgt := 43) dX2_seatOther_38 (by decide) (fun c38 => ?_) (fun c38 => ?_)
      · refine j_aload4 (pc := 43) dX2_seatOther_43 ?_
        refine j_iload2 (pc := 45) dX2_seatOther_45 ?_
        refine p_X2_98 (pc := 46) rfl hp dX2_seatOther_46 ?_
        refine j_aload4 (pc := 49) dX2_seatOther_49 ?_
        refine j_iload2 (pc := 51) dX2_seatOther_51 ?_
        refine j_iconst (pc := 52) (v := 1) dX2_seatOther_52 (by decide) ?_
        refine j_icmp_ne (pc := 53) (tgt := 60) dX2_seatOther_53 (by decide) (fun c53 => ?_) (fun c53 => ?_)
        · refine j_iconst (pc := 60) (v := 0) dX2_seatOther_60 (by decide) ?_
          refine p_X2_103 (pc := 61) rfl hp dX2_seatOther_61 ?_
          refine j_iconst (pc := 64) (v := 0) dX2_seatOther_64 (by decide) ?_
          refine j_iret (pc := 65) dX2_seatOther_65 rfl rfl ?_
          first | (rw [if_pos c7, if_pos c38, if_pos c53]; exact ⟨_, rfl, rfl, rfl⟩) | (rw [if_pos c7, if_pos c38, if_neg c53]; exact ⟨_, rfl, rfl, rfl⟩)
        · refine j_iload3 (pc := 56) dX2_seatOther_56 ?_
          refine j_goto (pc := 57) (tgt := 61) dX2_seatOther_57 (by decide) ?_
          refine p_X2_103 (pc := 61) rfl hp dX2_seatOther_61 ?_
          refine j_iconst (pc := 64) (v := 0) dX2_seatOther_64 (by decide) ?_
          refine j_iret (pc := 65) dX2_seatOther_65 rfl rfl ?_
          first | (rw [if_pos c7, if_pos c38, if_pos c53]; exact ⟨_, rfl, rfl, rfl⟩) | (rw [if_pos c7, if_pos c38, if_neg c53]; exact ⟨_, rfl, rfl, rfl⟩)
      · refine j_iconst (pc := 41) (v := 4) dX2_seatOther_41 (by decide) ?_
        refine j_iret (pc := 42) dX2_seatOther_42 rfl rfl ?_
        exact ⟨_, rfl, by rw [if_pos c7, if_neg (by rw [c38]; decide)], by rw [if_pos c7, if_neg (by rw [c38]; decide)]⟩
    · refine j_iconst (pc := 10) (v := 2) dX2_seatOther_10 (by decide) ?_
      refine j_iret (pc := 11) dX2_seatOther_11 rfl rfl ?_
      exact ⟨_, rfl, by rw [if_neg c7], by rw [if_neg c7]⟩
theorem t_answerFor {u s : Int32} (hA : RSh h.1 A) : DI cx mX2_answerFor 2 h [.ref A, .int u, .int s] (rAns h A u s).1 (rAns h A u s).2 := by
  have hB := hA.2.2.2.2.2.1.2
  have S := t_seatAt (cx := cx) (h := h) (B := A + 5) (s := u) hB
  have S2 := t_memberAt (cx := cx) (h := h) (B := A + 5) (s := s) hB
  unfold bSeat at S
  unfold rAns
  rcases sN_cases u with ⟨hso, hsn⟩ | ⟨q, hq, hqe, hso⟩ <;> rw [hso] at S ⊢ <;> dsimp only
  · refine Sp.of 2 (by decide) (Nat.le_of_ble_eq_true rfl) rfl ?_
    refine j_aload0 (pc := 0) dX2_answerFor_0 ?_
    refine g_X2_42 (pc := 1) rfl hA.1 hA.2.2.2.2.2.1.1 dX2_answerFor_1 ?_
    refine g_X2_85 (pc := 4) rfl hA.2.2.2.2.2.1.2.1 dX2_answerFor_4 ?_
    refine j_if_eq (pc := 7) (tgt := 12) dX2_answerFor_7 (by decide) (fun c7 => ?_) (fun c7 => ?_)
    · refine j_aload0 (pc := 12) dX2_answerFor_12 ?_
      refine g_X2_42 (pc := 13) rfl hA.1 hA.2.2.2.2.2.1.1 dX2_answerFor_13 ?_
      refine j_iload1 (pc := 16) dX2_answerFor_16 ?_
      refine cd_X2_88 (pc := 17) rfl (S) hA.2.2.2.2.2.1.2.1 dX2_answerFor_17 rfl rfl ?_
      refine j_rn ?_
      refine j_nstore3 (pc := 20) dX2_answerFor_20 (by decide) trivial ?_
      refine j_nload3 (pc := 21) dX2_answerFor_21 ?_
      refine j_ifnullN (pc := 22) (tgt := 32) dX2_answerFor_22 (by decide) ?_
      refine j_iconst (pc := 32) (v := 3) dX2_answerFor_32 (by decide) ?_
      refine j_iret (pc := 33) dX2_answerFor_33 rfl rfl ?_
      exact ⟨_, rfl, by rw [if_pos c7], by rw [if_pos c7]⟩
    · refine j_iconst (pc := 10) (v := 2) dX2_answerFor_10 (by decide) ?_
      refine j_iret (pc := 11) dX2_answerFor_11 rfl rfl ?_
      exact ⟨_, rfl, by rw [if_neg c7], by rw [if_neg c7]⟩
  · have hp := (hB.2.2.2 q hq).2
    cases hm : bMem h (A + 5) s with
    | none =>
      rw [hm] at S2
      dsimp only
      refine Sp.of 2 (by decide) (Nat.le_of_ble_eq_true rfl) rfl ?_
      refine j_aload0 (pc := 0) dX2_answerFor_0 ?_
      refine g_X2_42 (pc := 1) rfl hA.1 hA.2.2.2.2.2.1.1 dX2_answerFor_1 ?_
      refine g_X2_85 (pc := 4) rfl hA.2.2.2.2.2.1.2.1 dX2_answerFor_4 ?_
      refine j_if_eq (pc := 7) (tgt := 12) dX2_answerFor_7 (by decide) (fun c7 => ?_) (fun c7 => ?_)
      · refine j_aload0 (pc := 12) dX2_answerFor_12 ?_
        refine g_X2_42 (pc := 13) rfl hA.1 hA.2.2.2.2.2.1.1 dX2_answerFor_13 ?_
        refine j_iload1 (pc := 16) dX2_answerFor_16 ?_
        refine cd_X2_88 (pc := 17) rfl (S) hA.2.2.2.2.2.1.2.1 dX2_answerFor_17 rfl rfl ?_
        refine j_rs ?_
        refine j_astore3 (pc := 20) dX2_answerFor_20 (by decide) trivial ?_
        refine j_aload3 (pc := 21) dX2_answerFor_21 ?_
        refine j_ifnull (pc := 22) dX2_answerFor_22 ?_
        refine j_aload3 (pc := 25) dX2_answerFor_25 ?_
        refine g_X2_98 (pc := 26) rfl hp dX2_answerFor_26 ?_
        refine j_if_ne (pc := 29) (tgt := 34) dX2_answerFor_29 (by decide) (fun c29 => ?_) (fun c29 => ?_)
        · refine j_aload3 (pc := 34) dX2_answerFor_34 ?_
          refine g_X2_98 (pc := 35) rfl hp dX2_answerFor_35 ?_
          refine j_iconst (pc := 38) (v := 4) dX2_answerFor_38 (by decide) ?_
          refine j_icmp_eq (pc := 39) (tgt := 44) dX2_answerFor_39 (by decide) (fun c39 => ?_) (fun c39 => ?_)
          · refine j_aload0 (pc := 44) dX2_answerFor_44 ?_
            refine g_X2_42 (pc := 45) rfl hA.1 hA.2.2.2.2.2.1.1 dX2_answerFor_45 ?_
            refine j_iload2 (pc := 48) dX2_answerFor_48 ?_
            refine cd_X2_106 (pc := 49) rfl (S2) hA.2.2.2.2.2.1.2.1 dX2_answerFor_49 rfl rfl ?_
            refine j_rn ?_
            refine j_nstore4 (pc := 52) dX2_answerFor_52 (by decide) trivial ?_
            refine j_nload4 (pc := 54) dX2_answerFor_54 ?_
            refine j_ifnullN (pc := 56) (tgt := 64) dX2_answerFor_56 (by decide) ?_
            refine j_iconst (pc := 64) (v := 3) dX2_answerFor_64 (by decide) ?_
            refine j_iret (pc := 65) dX2_answerFor_65 rfl rfl ?_
            exact ⟨_, rfl, by rw [if_pos c7, if_neg c29, if_pos c39], by rw [if_pos c7, if_neg c29, if_pos c39]⟩
          · refine j_iconst (pc := 42) (v := 4) dX2_answerFor_42 (by decide) ?_
            refine j_iret (pc := 43) dX2_answerFor_43 rfl rfl ?_
            exact ⟨_, rfl, by rw [if_pos c7, if_neg c29, if_neg c39], by rw [if_pos c7, if_neg c29, if_neg c39]⟩
        · refine j_iconst (pc := 32) (v := 3) dX2_answerFor_32 (by decide) ?_
          refine j_iret (pc := 33) dX2_answerFor_33 rfl rfl ?_
          exact ⟨_, rfl, by rw [if_pos c7, if_pos c29], by rw [if_pos c7, if_pos c29]⟩
      · refine j_iconst (pc := 10) (v := 2) dX2_answerFor_10 (by decide) ?_
        refine j_iret (pc := 11) dX2_answerFor_11 rfl rfl ?_
        exact ⟨_, rfl, by rw [if_neg c7], by rw [if_neg c7]⟩
    | some p2 =>
      rw [hm] at S2
      dsimp only
      have hp2 := bMem_kd hB hm
      refine Sp.of 2 (by decide) (Nat.le_of_ble_eq_true rfl) rfl ?_
      refine j_aload0 (pc := 0) dX2_answerFor_0 ?_
      refine g_X2_42 (pc := 1) rfl hA.1 hA.2.2.2.2.2.1.1 dX2_answerFor_1 ?_
      refine g_X2_85 (pc := 4) rfl hA.2.2.2.2.2.1.2.1 dX2_answerFor_4 ?_
      refine j_if_eq (pc := 7) (tgt := 12) dX2_answerFor_7 (by decide) (fun c7 => ?_) (fun c7 => ?_)
      · refine j_aload0 (pc := 12) dX2_answerFor_12 ?_
        refine g_X2_42 (pc := 13) rfl hA.1 hA.2.2.2.2.2.1.1 dX2_answerFor_13 ?_
        refine j_iload1 (pc := 16) dX2_answerFor_16 ?_
        refine cd_X2_88 (pc := 17) rfl (S) hA.2.2.2.2.2.1.2.1 dX2_answerFor_17 rfl rfl ?_
        refine j_rs ?_
        refine j_astore3 (pc := 20) dX2_answerFor_20 (by decide) trivial ?_
        refine j_aload3 (pc := 21) dX2_answerFor_21 ?_
        refine j_ifnull (pc := 22) dX2_answerFor_22 ?_
        refine j_aload3 (pc := 25) dX2_answerFor_25 ?_
        refine g_X2_98 (pc := 26) rfl hp dX2_answerFor_26 ?_
        refine j_if_ne (pc := 29) (tgt := 34) dX2_answerFor_29 (by decide) (fun c29 => ?_) (fun c29 => ?_)
        · refine j_aload3 (pc := 34) dX2_answerFor_34 ?_
          refine g_X2_98 (pc := 35) rfl hp dX2_answerFor_35 ?_
          refine j_iconst (pc := 38) (v := 4) dX2_answerFor_38 (by decide) ?_
          refine j_icmp_eq (pc := 39) (tgt := 44) dX2_answerFor_39 (by decide) (fun c39 => ?_) (fun c39 => ?_)
          · refine j_aload0 (pc := 44) dX2_answerFor_44 ?_
            refine g_X2_42 (pc := 45) rfl hA.1 hA.2.2.2.2.2.1.1 dX2_answerFor_45 ?_
            refine j_iload2 (pc := 48) dX2_answerFor_48 ?_
            refine cd_X2_106 (pc := 49) rfl (S2) hA.2.2.2.2.2.1.2.1 dX2_answerFor_49 rfl rfl ?_
            refine j_rs ?_
            refine j_astore4 (pc := 52) dX2_answerFor_52 (by decide) trivial ?_
            refine j_aload4 (pc := 54) dX2_answerFor_54 ?_
            refine j_ifnull (pc := 56) dX2_answerFor_56 ?_
            refine j_iload2 (pc := 59) dX2_answerFor_59 ?_
            refine j_iload1 (pc := 60) dX2_answerFor_60 ?_
            refine j_icmp_ne (pc := 61) (tgt := 66) dX2_answerFor_61 (by decide) (fun c61 => ?_) (fun c61 => ?_)
            · refine j_aload4 (pc := 66) dX2_answerFor_66 ?_
              refine g_X2_109 (pc := 68) rfl hp2 dX2_answerFor_68 ?_
              refine j_iload1 (pc := 71) dX2_answerFor_71 ?_
              refine j_icmp_ne (pc := 72) (tgt := 78) dX2_answerFor_72 (by decide) (fun c72 => ?_) (fun c72 => ?_)
              · refine j_aload4 (pc := 78) dX2_answerFor_78 ?_
                refine j_iload1 (pc := 80) dX2_answerFor_80 ?_
                refine p_X2_109 (pc := 81) rfl hp2 dX2_answerFor_81 ?_
                refine j_iconst (pc := 84) (v := 0) dX2_answerFor_84 (by decide) ?_
                refine j_iret (pc := 85) dX2_answerFor_85 rfl rfl ?_
                exact ⟨_, rfl, by rw [if_pos c7, if_neg c29, if_pos c39, if_neg c61, if_neg c72], by rw [if_pos c7, if_neg c29, if_pos c39, if_neg c61, if_neg c72]⟩
              · refine j_bipush (pc := 75) (v := 8) dX2_answerFor_75 (by decide) ?_
                refine j_iret (pc := 77) dX2_answerFor_77 rfl rfl ?_
                exact ⟨_, rfl, by rw [if_pos c7, if_neg c29, if_pos c39, if_neg c61, if_pos c72], by rw [if_pos c7, if_neg c29, if_pos c39, if_neg c61, if_pos c72]⟩
            · refine j_iconst (pc := 64) (v := 3) dX2_answerFor_64 (by decide) ?_
              refine j_iret (pc := 65) dX2_answerFor_65 rfl rfl ?_
              exact ⟨_, rfl, by rw [if_pos c7, if_neg c29, if_pos c39, if_pos c61], by rw [if_pos c7, if_neg c29, if_pos c39, if_pos c61]⟩
          · refine j_iconst (pc := 42) (v := 4) dX2_answerFor_42 (by decide) ?_
            refine j_iret (pc := 43) dX2_answerFor_43 rfl rfl ?_
            exact ⟨_, rfl, by rw [if_pos c7, if_neg c29, if_neg c39], by rw [if_pos c7, if_neg c29, if_neg c39]⟩
        · refine j_iconst (pc := 32) (v := 3) dX2_answerFor_32 (by decide) ?_
          refine j_iret (pc := 33) dX2_answerFor_33 rfl rfl ?_
          exact ⟨_, rfl, by rw [if_pos c7, if_pos c29], by rw [if_pos c7, if_pos c29]⟩
      · refine j_iconst (pc := 10) (v := 2) dX2_answerFor_10 (by decide) ?_
        refine j_iret (pc := 11) dX2_answerFor_11 rfl rfl ?_
        exact ⟨_, rfl, by rw [if_neg c7], by rw [if_neg c7]⟩
theorem t_begin (hA : RSh h.1 A) : DI cx mX2_begin 2 h [.ref A] (rBeg h A).1 (rBeg h A).2 := by
  have hB := hA.2.2.2.2.2.1.2
  have S : DI cx mX0_countMembers 1 h [.ref (A + 5)] (nI (cMem h (A + 5))) h := t_countMembers (cx := cx) (h := h) (B := A + 5) hB
  have S2 := t_dropEmptySureties (cx := cx) (h := h) (B := A + 5) hB
  have hA1 : RSh (itr (dsC (A + 5)) 60 h).1 A := by rw [itr_keep (step := dsC (A + 5)) (fun y : Hp => y.1) (fun _ y => dsC_sh y) h 60]; exact hA
  unfold rBeg
  generalize nI (cMem h (A + 5)) = m at S ⊢
  refine Sp.ofQ 5 (by decide) (Nat.le_of_ble_eq_true rfl) rfl (fun Q hQ => ?_)
  generalize itr (dsC (A + 5)) 60 h = g at S2 hA1 hQ
  have L : h.i (A + 5) 1 = 0 → ¬ m = 0 → ∀ N, N = 60 → J cx mX2_begin (Rm 2 0 0) g 47 [some (.ref A), some (.int m), some (.ref (A + 5 + 1)), some (.int (nI N)), some (.int (nI 0)), none] [] 0 0 Q := by
    intro c7 c21 N hN
    rw [if_pos c7, if_neg c21, ← hN] at hQ
    have hBn : ∀ n, RSh (itr (bgS (A + 5)) n g).1 A := fun n => by rw [itr_keep (step := bgS (A + 5)) (fun y : Hp => y.1) (fun _ _ => rfl) g n]; exact hA1
    refine dn (P := fun n => J cx mX2_begin (Rm 2 0 0) (itr (bgS (A + 5)) n g) 47 [some (.ref A), some (.int m), some (.ref (A + 5 + 1)), some (.int (nI N)), some (.int (nI n)), none] [] 0 0 Q) N ?_ ?_
    · have hA := hBn N
      generalize itr (bgS (A + 5)) N g = g2 at hA hQ
      refine j_iload4 (pc := 47) dX2_begin_47 ?_
      refine j_iload3 (pc := 49) dX2_begin_49 ?_
      refine j_icmpN_ge (pc := 50) (tgt := 75) (by first | decide | omega) (by first | decide | omega) dX2_begin_50 (by decide) (fun c50 => ?_) (fun c50 => by omega)
      refine j_aload0 (pc := 75) dX2_begin_75 ?_
      refine g_X2_42 (pc := 76) rfl hA.1 hA.2.2.2.2.2.1.1 dX2_begin_76 ?_
      refine j_iload1 (pc := 79) dX2_begin_79 ?_
      refine p_X2_82 (pc := 80) rfl hA.2.2.2.2.2.1.2.1 dX2_begin_80 ?_
      refine j_aload0 (pc := 83) dX2_begin_83 ?_
      refine g_X2_42 (pc := 84) rfl hA.1 hA.2.2.2.2.2.1.1 dX2_begin_84 ?_
      refine j_iconst (pc := 87) (v := 1) dX2_begin_87 (by decide) ?_
      refine p_X2_85 (pc := 88) rfl hA.2.2.2.2.2.1.2.1 dX2_begin_88 ?_
      refine j_iconst (pc := 91) (v := 0) dX2_begin_91 (by decide) ?_
      refine j_iret (pc := 92) dX2_begin_92 rfl rfl ?_
      exact hQ _ _ ⟨_, rfl, rfl, rfl⟩
    · intro n hn ih
      have hn6 : n < 60 := by omega
      have hA := hBn n
      have ih : J cx mX2_begin (Rm 2 0 0) (bgS (A + 5) n (itr (bgS (A + 5)) n g)) 47 [some (.ref A), some (.int m), some (.ref (A + 5 + 1)), some (.int (nI N)), some (.int (nI (n + 1))), none] [] 0 0 Q := ih
      generalize itr (bgS (A + 5)) n g = g2 at hA ih
      have hB := hA.2.2.2.2.2.1.2
      have hp := (hB.2.2.2 n hn6).2
      refine j_iload4 (pc := 47) dX2_begin_47 ?_
      refine j_iload3 (pc := 49) dX2_begin_49 ?_
      refine j_icmpN_ge (pc := 50) (tgt := 75) (by first | decide | omega) (by first | decide | omega) dX2_begin_50 (by decide) (fun c50 => by omega) (fun c50 => ?_)
      refine j_aload2 (pc := 53) dX2_begin_53 ?_
      refine j_iload4 (pc := 54) dX2_begin_54 ?_
      refine j_aald (pc := 56) (by decide) hA.2.2.2.2.2.1.2.2.2.1 (pk_in n 60 hn6 rfl) (hB.r hn6) dX2_begin_56 ?_
      refine j_astore5 (pc := 57) dX2_begin_57 (by decide) trivial ?_
      refine j_aload5 (pc := 59) dX2_begin_59 ?_
      refine j_aload5 (pc := 61) dX2_begin_61 ?_
      refine cd_X2_130 (pc := 63) rfl (t_isMember hp) hp dX2_begin_63 rfl rfl ?_
      refine p_X2_134 (pc := 66) rfl hp dX2_begin_66 ?_
      refine j_iincN4 (pc := 69) dX2_begin_69 (by decide) trivial ?_
      refine j_goto (pc := 72) (tgt := 47) dX2_begin_72 (by decide) ?_
      exact J.wk ih (by simp [lcw])
  refine j_aload0 (pc := 0) dX2_begin_0 ?_
  refine g_X2_42 (pc := 1) rfl hA.1 hA.2.2.2.2.2.1.1 dX2_begin_1 ?_
  refine g_X2_85 (pc := 4) rfl hA.2.2.2.2.2.1.2.1 dX2_begin_4 ?_
  refine j_if_eq (pc := 7) (tgt := 12) dX2_begin_7 (by decide) (fun c7 => ?_) (fun c7 => ?_)
  · refine j_aload0 (pc := 12) dX2_begin_12 ?_
    refine g_X2_42 (pc := 13) rfl hA.1 hA.2.2.2.2.2.1.1 dX2_begin_13 ?_
    refine cd_X2_119 (pc := 16) rfl (S) hA.2.2.2.2.2.1.2.1 dX2_begin_16 rfl rfl ?_
    refine j_istore1 (pc := 19) dX2_begin_19 (by decide) trivial ?_
    refine j_iload1 (pc := 20) dX2_begin_20 ?_
    refine j_if_ne (pc := 21) (tgt := 26) dX2_begin_21 (by decide) (fun c21 => ?_) (fun c21 => ?_)
    · refine j_aload0 (pc := 26) dX2_begin_26 ?_
      refine g_X2_42 (pc := 27) rfl hA.1 hA.2.2.2.2.2.1.1 dX2_begin_27 ?_
      refine cd_X2_123 (pc := 30) rfl (S2) hA.2.2.2.2.2.1.2.1 dX2_begin_30 rfl rfl ?_
      have hA := hA1
      refine j_aload0 (pc := 33) dX2_begin_33 ?_
      refine g_X2_42 (pc := 34) rfl hA.1 hA.2.2.2.2.2.1.1 dX2_begin_34 ?_
      refine g_X2_126 (pc := 37) rfl hA.2.2.2.2.2.1.2.1 hA.2.2.2.2.2.1.2.2.1 dX2_begin_37 ?_
      refine j_astore2 (pc := 40) dX2_begin_40 (by decide) trivial ?_
      refine j_aload2 (pc := 41) dX2_begin_41 ?_
      refine j_alenR (pc := 42) (by decide) hA.2.2.2.2.2.1.2.2.2.1 dX2_begin_42 ?_
      show J cx mX2_begin (Rm 2 0 0) g 43 [some (.ref A), some (.int m), some (.ref (A + 5 + 1)), none, none, none] [.int (nI 60)] 0 0 Q
      refine j_istore3 (pc := 43) dX2_begin_43 (by decide) trivial ?_
      refine j_iconst (pc := 44) (v := nI 0) dX2_begin_44 (by decide) ?_
      refine j_istore4 (pc := 45) dX2_begin_45 (by decide) trivial ?_
      exact L c7 c21 60 rfl
    · refine j_iconst (pc := 24) (v := 3) dX2_begin_24 (by decide) ?_
      refine j_iret (pc := 25) dX2_begin_25 rfl rfl ?_
      exact hQ _ _ ⟨_, rfl, by rw [if_pos c7, if_pos c21], by rw [if_pos c7, if_pos c21]⟩
  · refine j_iconst (pc := 10) (v := 2) dX2_begin_10 (by decide) ?_
    refine j_iret (pc := 11) dX2_begin_11 rfl rfl ?_
    exact hQ _ _ ⟨_, rfl, by rw [if_neg c7], by rw [if_neg c7]⟩
end

