/-! the class: who needs it most -/
def cYes (h : Hp) (B : Nat) : Nat := cnt (fun i => (pNe h (B + 2 + i) && decide (¬ h.i (B + 2 + i) 17 = 0))) 60
def cNei (h : Hp) (B : Nat) : Nat := cnt (fun i => pNe h (B + 2 + i)) 60
def ndP (h : Hp) (A : Nat) : Bool := match sN (h.i (A + 5) 5) with | none => false | some q => pAb h (A + 5 + 2 + q) && decide (nI (cNei h (A + 5)) < 2 * nI (cYes h (A + 5)))
def rNeed (h : Hp) (A : Nat) : Int32 := if ndP h A = true then h.i (A + 5) 5 else woI (fnd (abP h (A + 5) 0) 60)
section
variable {cx : Cx} {h : Hp} {A : Nat}
theorem t_neediest (hA : RSh h.1 A) : DI cx mX2_neediest 5 h [.ref A] (rNeed h A) h := by
  have hB := hA.2.2.2.2.2.1.2
  have S := t_seatAt (cx := cx) (h := h) (B := A + 5) (s := h.i (A + 5) 5) hB
  have S2 := t_ableNumber (cx := cx) (h := h) (B := A + 5) (num := 0) hB
  have S3 := t_countYes (cx := cx) (h := h) (B := A + 5) hB
  have S4 := t_countNeither (cx := cx) (h := h) (B := A + 5) hB
  unfold bSeat at S
  unfold rNeed
  rcases sN_cases (h.i (A + 5) 5) with ⟨hso, hsn⟩ | ⟨q, hq, hqe, hso⟩
  · rw [hso] at S
    have e : ¬ ndP h A = true := by unfold ndP; rw [hso]; exact Bool.false_ne_true
    rw [if_neg e]
    refine Sp.of 2 (by decide) (Nat.le_of_ble_eq_true rfl) rfl ?_
    refine j_aload0 (pc := 0) dX2_neediest_0 ?_
    refine g_X2_42 (pc := 1) rfl hA.1 hA.2.2.2.2.2.1.1 dX2_neediest_1 ?_
    refine j_aload0 (pc := 4) dX2_neediest_4 ?_
    refine g_X2_42 (pc := 5) rfl hA.1 hA.2.2.2.2.2.1.1 dX2_neediest_5 ?_
    refine g_X2_205 (pc := 8) rfl hA.2.2.2.2.2.1.2.1 dX2_neediest_8 ?_
    refine cd_X2_88 (pc := 11) rfl (S) hA.2.2.2.2.2.1.2.1 dX2_neediest_11 rfl rfl ?_
    refine j_rn ?_
    refine j_nstore1 (pc := 14) dX2_neediest_14 (by decide) trivial ?_
    refine j_nload1 (pc := 15) dX2_neediest_15 ?_
    refine j_ifnullN (pc := 16) (tgt := 49) dX2_neediest_16 (by decide) ?_
    refine j_iconst (pc := 49) (v := 0) dX2_neediest_49 (by decide) ?_
    refine j_istore2 (pc := 50) dX2_neediest_50 (by decide) trivial ?_
    refine j_iload2 (pc := 51) dX2_neediest_51 ?_
    refine j_if_eq (pc := 52) (tgt := 65) dX2_neediest_52 (by decide) (fun c52 => ?_) (fun c52 => by exact absurd rfl c52)
    refine j_aload0 (pc := 65) dX2_neediest_65 ?_
    refine g_X2_42 (pc := 66) rfl hA.1 hA.2.2.2.2.2.1.1 dX2_neediest_66 ?_
    refine j_lconst (pc := 69) (v := 0) dX2_neediest_69 (by decide) ?_
    refine cd_X2_264 (pc := 70) rfl (S2) hA.2.2.2.2.2.1.2.1 dX2_neediest_70 rfl rfl ?_
    refine j_iret (pc := 73) dX2_neediest_73 rfl rfl ?_
    exact ⟨_, rfl, rfl, rfl⟩
  · rw [hso] at S
    have hp := (hB.2.2.2 q hq).2
    have e1 : pAb h (A + 5 + 2 + q) = true → nI (cNei h (A + 5)) < 2 * nI (cYes h (A + 5)) → ndP h A = true := fun a b => by unfold ndP; rw [hso]; dsimp only; rw [a, decide_eq_true b]; rfl
    have e2 : pAb h (A + 5 + 2 + q) = false → ¬ ndP h A = true := fun a => by unfold ndP; rw [hso]; dsimp only; rw [a, Bool.false_and]; exact Bool.false_ne_true
    have e3 : 2 * nI (cYes h (A + 5)) ≤ nI (cNei h (A + 5)) → ¬ ndP h A = true := fun b => by unfold ndP; rw [hso]; dsimp only; rw [decide_eq_false (Int32.not_lt.mpr b), Bool.and_false]; decide
    refine Sp.of 2 (by decide) (Nat.le_of_ble_eq_true rfl) rfl ?_
    refine j_aload0 (pc := 0) dX2_neediest_0 ?_
    refine g_X2_42 (pc := 1) rfl hA.1 hA.2.2.2.2.2.1.1 dX2_neediest_1 ?_
    refine j_aload0 (pc := 4) dX2_neediest_4 ?_
    refine g_X2_42 (pc := 5) rfl hA.1 hA.2.2.2.2.2.1.1 dX2_neediest_5 ?_
    refine g_X2_205 (pc := 8) rfl hA.2.2.2.2.2.1.2.1 dX2_neediest_8 ?_
    refine cd_X2_88 (pc := 11) rfl (S) hA.2.2.2.2.2.1.2.1 dX2_neediest_11 rfl rfl ?_
    refine j_rs ?_
    refine j_astore1 (pc := 14) dX2_neediest_14 (by decide) trivial ?_
    refine j_aload1 (pc := 15) dX2_neediest_15 ?_
    refine j_ifnull (pc := 16) dX2_neediest_16 ?_
    refine j_aload1 (pc := 19) dX2_neediest_19 ?_
    refine cd_X2_261 (pc := 20) rfl (t_isAble hp) hp dX2_neediest_20 rfl rfl ?_
    refine j_bif_eq (pc := 23) (tgt := 49) dX2_neediest_23 (by decide) (fun c23 => ?_) (fun c23 => ?_)
    · refine j_iconst (pc := 49) (v := 0) dX2_neediest_49 (by decide) ?_
      refine j_istore2 (pc := 50) dX2_neediest_50 (by decide) trivial ?_
      refine j_iload2 (pc := 51) dX2_neediest_51 ?_
      refine j_if_eq (pc := 52) (tgt := 65) dX2_neediest_52 (by decide) (fun c52 => ?_) (fun c52 => ?_)
      · refine j_aload0 (pc := 65) dX2_neediest_65 ?_
        refine g_X2_42 (pc := 66) rfl hA.1 hA.2.2.2.2.2.1.1 dX2_neediest_66 ?_
        refine j_lconst (pc := 69) (v := 0) dX2_neediest_69 (by decide) ?_
        refine cd_X2_264 (pc := 70) rfl (S2) hA.2.2.2.2.2.1.2.1 dX2_neediest_70 rfl rfl ?_
        refine j_iret (pc := 73) dX2_neediest_73 rfl rfl ?_
        first | (rw [if_pos (e1 c23 (Int32.not_le.mp c42))]; exact ⟨_, rfl, rfl, rfl⟩) | (rw [if_pos (e1 c23 c42)]; exact ⟨_, rfl, rfl, rfl⟩) | (rw [if_neg (e2 c23)]; exact ⟨_, rfl, rfl, rfl⟩) | (rw [if_neg (e3 c42)]; exact ⟨_, rfl, rfl, rfl⟩) | exact absurd rfl c52 | exact absurd c52 (by decide)
      · refine j_aload0 (pc := 55) dX2_neediest_55 ?_
        refine g_X2_42 (pc := 56) rfl hA.1 hA.2.2.2.2.2.1.1 dX2_neediest_56 ?_
        refine g_X2_205 (pc := 59) rfl hA.2.2.2.2.2.1.2.1 dX2_neediest_59 ?_
        refine j_goto (pc := 62) (tgt := 73) dX2_neediest_62 (by decide) ?_
        refine j_iret (pc := 73) dX2_neediest_73 rfl rfl ?_
        first | (rw [if_pos (e1 c23 (Int32.not_le.mp c42))]; exact ⟨_, rfl, rfl, rfl⟩) | (rw [if_pos (e1 c23 c42)]; exact ⟨_, rfl, rfl, rfl⟩) | (rw [if_neg (e2 c23)]; exact ⟨_, rfl, rfl, rfl⟩) | (rw [if_neg (e3 c42)]; exact ⟨_, rfl, rfl, rfl⟩) | exact absurd rfl c52 | exact absurd c52 (by decide)
    · refine j_iconst (pc := 26) (v := 2) dX2_neediest_26 (by decide) ?_
      refine j_aload0 (pc := 27) dX2_neediest_27 ?_
      refine g_X2_42 (pc := 28) rfl hA.1 hA.2.2.2.2.2.1.1 dX2_neediest_28 ?_
      refine cd_X2_273 (pc := 31) rfl (S3) hA.2.2.2.2.2.1.2.1 dX2_neediest_31 rfl rfl ?_
      refine j_imul (pc := 34) dX2_neediest_34 ?_
      refine j_aload0 (pc := 35) dX2_neediest_35 ?_
      refine g_X2_42 (pc := 36) rfl hA.1 hA.2.2.2.2.2.1.1 dX2_neediest_36 ?_
      refine cd_X2_276 (pc := 39) rfl (S4) hA.2.2.2.2.2.1.2.1 dX2_neediest_39 rfl rfl ?_
      refine j_icmp_le (pc := 42) (tgt := 49) dX2_neediest_42 (by decide) (fun c42 => ?_) (fun c42 => ?_)
      · refine j_iconst (pc := 49) (v := 0) dX2_neediest_49 (by decide) ?_
        refine j_istore2 (pc := 50) dX2_neediest_50 (by decide) trivial ?_
        refine j_iload2 (pc := 51) dX2_neediest_51 ?_
        refine j_if_eq (pc := 52) (tgt := 65) dX2_neediest_52 (by decide) (fun c52 => ?_) (fun c52 => ?_)
        · refine j_aload0 (pc := 65) dX2_neediest_65 ?_
          refine g_X2_42 (pc := 66) rfl hA.1 hA.2.2.2.2.2.1.1 dX2_neediest_66 ?_
          refine j_lconst (pc := 69) (v := 0) dX2_neediest_69 (by decide) ?_
          refine cd_X2_264 (pc := 70) rfl (S2) hA.2.2.2.2.2.1.2.1 dX2_neediest_70 rfl rfl ?_
          refine j_iret (pc := 73) dX2_neediest_73 rfl rfl ?_
          first | (rw [if_pos (e1 c23 (Int32.not_le.mp c42))]; exact ⟨_, rfl, rfl, rfl⟩) | (rw [if_pos (e1 c23 c42)]; exact ⟨_, rfl, rfl, rfl⟩) | (rw [if_neg (e2 c23)]; exact ⟨_, rfl, rfl, rfl⟩) | (rw [if_neg (e3 c42)]; exact ⟨_, rfl, rfl, rfl⟩) | exact absurd rfl c52 | exact absurd c52 (by decide)
        · refine j_aload0 (pc := 55) dX2_neediest_55 ?_
          refine g_X2_42 (pc := 56) rfl hA.1 hA.2.2.2.2.2.1.1 dX2_neediest_56 ?_
          refine g_X2_205 (pc := 59) rfl hA.2.2.2.2.2.1.2.1 dX2_neediest_59 ?_
          refine j_goto (pc := 62) (tgt := 73) dX2_neediest_62 (by decide) ?_
          refine j_iret (pc := 73) dX2_neediest_73 rfl rfl ?_
          first | (rw [if_pos (e1 c23 (Int32.not_le.mp c42))]; exact ⟨_, rfl, rfl, rfl⟩) | (rw [if_pos (e1 c23 c42)]; exact ⟨_, rfl, rfl, rfl⟩) | (rw [if_neg (e2 c23)]; exact ⟨_, rfl, rfl, rfl⟩) | (rw [if_neg (e3 c42)]; exact ⟨_, rfl, rfl, rfl⟩) | exact absurd rfl c52 | exact absurd c52 (by decide)
      · refine j_iconst (pc := 45) (v := 1) dX2_neediest_45 (by decide) ?_
        refine j_goto (pc := 46) (tgt := 50) dX2_neediest_46 (by decide) ?_
        refine j_istore2 (pc := 50) dX2_neediest_50 (by decide) trivial ?_
        refine j_iload2 (pc := 51) dX2_neediest_51 ?_
        refine j_if_eq (pc := 52) (tgt := 65) dX2_neediest_52 (by decide) (fun c52 => ?_) (fun c52 => ?_)
        · refine j_aload0 (pc := 65) dX2_neediest_65 ?_
          refine g_X2_42 (pc := 66) rfl hA.1 hA.2.2.2.2.2.1.1 dX2_neediest_66 ?_
          refine j_lconst (pc := 69) (v := 0) dX2_neediest_69 (by decide) ?_
          refine cd_X2_264 (pc := 70) rfl (S2) hA.2.2.2.2.2.1.2.1 dX2_neediest_70 rfl rfl ?_
          refine j_iret (pc := 73) dX2_neediest_73 rfl rfl ?_
          first | (rw [if_pos (e1 c23 (Int32.not_le.mp c42))]; exact ⟨_, rfl, rfl, rfl⟩) | (rw [if_pos (e1 c23 c42)]; exact ⟨_, rfl, rfl, rfl⟩) | (rw [if_neg (e2 c23)]; exact ⟨_, rfl, rfl, rfl⟩) | (rw [if_neg (e3 c42)]; exact ⟨_, rfl, rfl, rfl⟩) | exact absurd rfl c52 | exact absurd c52 (by decide)
        · refine j_aload0 (pc := 55) dX2_neediest_55 ?_
          refine g_X2_42 (pc := 56) rfl hA.1 hA.2.2.2.2.2.1.1 dX2_neediest_56 ?_
          refine g_X2_205 (pc := 59) rfl hA.2.2.2.2.2.1.2.1 dX2_neediest_59 ?_
          refine j_goto (pc := 62) (tgt := 73) dX2_neediest_62 (by decide) ?_
          refine j_iret (pc := 73) dX2_neediest_73 rfl rfl ?_
          first | (rw [if_pos (e1 c23 (Int32.not_le.mp c42))]; exact ⟨_, rfl, rfl, rfl⟩) | (rw [if_pos (e1 c23 c42)]; exact ⟨_, rfl, rfl, rfl⟩) | (rw [if_neg (e2 c23)]; exact ⟨_, rfl, rfl, rfl⟩) | (rw [if_neg (e3 c42)]; exact ⟨_, rfl, rfl, rfl⟩) | exact absurd rfl c52 | exact absurd c52 (by decide)
end

