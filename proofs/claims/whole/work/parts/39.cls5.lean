/-! the class: a book, the sureties that are no longer clean dropped -/
section
variable {cx : Cx} {h : Hp} {B : Nat}
theorem t_dropEmptySureties (hB : BSh h.1 B) : DV cx mX0_dropEmptySureties 1 h [.ref B] (itr (dsC B) 60 h) := by
  refine Sp.ofQ 5 (by decide) (Nat.le_of_ble_eq_true rfl) rfl (fun Q hQ => ?_)
  have L : ∀ N, N = 60 → J cx mX0_dropEmptySureties (Rm 1 0 0) h 10 [some (.ref B), some (.ref (B + 1)), some (.int (nI N)), some (.int (nI 0)), none, none] [] 0 0 Q := by
    intro N hN
    rw [← hN] at hQ
    have hBn : ∀ n, BSh (itr (dsC B) n h).1 B := fun n => by rw [itr_keep (step := dsC B) (fun y : Hp => y.1) (fun _ y => dsC_sh y) h n]; exact hB
    refine dn (P := fun n => J cx mX0_dropEmptySureties (Rm 1 0 0) (itr (dsC B) n h) 10 [some (.ref B), some (.ref (B + 1)), some (.int (nI N)), some (.int (nI n)), none, none] [] 0 0 Q) N ?_ ?_
    · have hB := hBn N
      generalize itr (dsC B) N h = h2 at hB hQ
      refine j_iload3 (pc := 10) dX0_dropEmptySureties_10 ?_
      refine j_iload2 (pc := 11) dX0_dropEmptySureties_11 ?_
      refine j_icmpN_ge (pc := 12) (tgt := 65) (by first | decide | omega) (by first | decide | omega) dX0_dropEmptySureties_12 (by decide) (fun c12 => ?_) (fun c12 => by omega)
      refine j_vret (pc := 65) dX0_dropEmptySureties_65 rfl ?_
      exact hQ _ _ ⟨rfl, rfl⟩
    · intro n hn ih
      have hn6 : n < 60 := by omega
      have hB2 := hBn n
      have ih : J cx mX0_dropEmptySureties (Rm 1 0 0) (dsC B n (itr (dsC B) n h)) 10 [some (.ref B), some (.ref (B + 1)), some (.int (nI N)), some (.int (nI (n + 1))), none, none] [] 0 0 Q := ih
      generalize itr (dsC B) n h = h2 at hB2 ih
      have hB := hB2
      have hp := (hB.2.2.2 n hn6).2
      have S := t_seatAt (cx := cx) (h := h2) (s := h2.i (B + 2 + n) 2) hB
      unfold bSeat at S
      rcases sN_cases (h2.i (B + 2 + n) 2) with ⟨hso, hsn⟩ | ⟨q, hq, hqe, hso⟩
      · rw [hso] at S
        have e : dsC B n h2 = h2.setI (B + 2 + n) 2 (-1) := by unfold dsC; rw [hso]; simp
        rw [e] at ih
        refine j_iload3 (pc := 10) dX0_dropEmptySureties_10 ?_
        refine j_iload2 (pc := 11) dX0_dropEmptySureties_11 ?_
        refine j_icmpN_ge (pc := 12) (tgt := 65) (by first | decide | omega) (by first | decide | omega) dX0_dropEmptySureties_12 (by decide) (fun c12 => by omega) (fun c12 => ?_)
        refine j_aload1 (pc := 15) dX0_dropEmptySureties_15 ?_
        refine j_iload3 (pc := 16) dX0_dropEmptySureties_16 ?_
        refine j_aald (pc := 17) (by decide) hB.2.2.1 (pk_in n 60 hn6 rfl) (hB.r hn6) dX0_dropEmptySureties_17 ?_
        refine j_astore4 (pc := 18) dX0_dropEmptySureties_18 (by decide) trivial ?_
        refine j_aload0 (pc := 20) dX0_dropEmptySureties_20 ?_
        refine j_aload4 (pc := 21) dX0_dropEmptySureties_21 ?_
        refine g_X0_83 (pc := 23) rfl hp dX0_dropEmptySureties_23 ?_
        refine cd_X0_51 (pc := 26) rfl (S) hB.1 dX0_dropEmptySureties_26 rfl rfl ?_
        refine j_rn ?_
        refine j_nstore5 (pc := 29) dX0_dropEmptySureties_29 (by decide) trivial ?_
        refine j_aload4 (pc := 31) dX0_dropEmptySureties_31 ?_
        refine cd_X0_55 (pc := 33) rfl (t_isMember hp) hp dX0_dropEmptySureties_33 rfl rfl ?_
        refine j_bif_eq (pc := 36) (tgt := 53) dX0_dropEmptySureties_36 (by decide) (fun c36 => ?_) (fun c36 => ?_)
        · refine j_aload4 (pc := 53) dX0_dropEmptySureties_53 ?_
          refine j_iconst (pc := 55) (v := (-1)) dX0_dropEmptySureties_55 (by decide) ?_
          refine p_X0_83 (pc := 56) rfl hp dX0_dropEmptySureties_56 ?_
          refine j_iincN3 (pc := 59) dX0_dropEmptySureties_59 (by decide) trivial ?_
          refine j_goto (pc := 62) (tgt := 10) dX0_dropEmptySureties_62 (by decide) ?_
          exact J.wk ih (by simp [lcw])
        · refine j_nload5 (pc := 39) dX0_dropEmptySureties_39 ?_
          refine j_ifnullN (pc := 41) (tgt := 53) dX0_dropEmptySureties_41 (by decide) ?_
          refine j_aload4 (pc := 53) dX0_dropEmptySureties_53 ?_
          refine j_iconst (pc := 55) (v := (-1)) dX0_dropEmptySureties_55 (by decide) ?_
          refine p_X0_83 (pc := 56) rfl hp dX0_dropEmptySureties_56 ?_
          refine j_iincN3 (pc := 59) dX0_dropEmptySureties_59 (by decide) trivial ?_
          refine j_goto (pc := 62) (tgt := 10) dX0_dropEmptySureties_62 (by decide) ?_
          exact J.wk ih (by simp [lcw])
      · rw [hso] at S
        have hp2 := (hB.2.2.2 q hq).2
        have e1 : pMem h2 (B + 2 + n) = true → h2.i (B + 2 + q) 0 = 4 → dsC B n h2 = h2 := by intro a b; unfold dsC; rw [hso]; simp [a, b]
        have e2 : pMem h2 (B + 2 + n) = false → dsC B n h2 = h2.setI (B + 2 + n) 2 (-1) := by intro a; unfold dsC; rw [hso]; simp [a]
        have e3 : ¬ h2.i (B + 2 + q) 0 = 4 → dsC B n h2 = h2.setI (B + 2 + n) 2 (-1) := by intro a; unfold dsC; rw [hso]; simp [a]
        refine j_iload3 (pc := 10) dX0_dropEmptySureties_10 ?_
        refine j_iload2 (pc := 11) dX0_dropEmptySureties_11 ?_
        refine j_icmpN_ge (pc := 12) (tgt := 65) (by first | decide | omega) (by first | decide | omega) dX0_dropEmptySureties_12 (by decide) (fun c12 => by omega) (fun c12 => ?_)
        refine j_aload1 (pc := 15) dX0_dropEmptySureties_15 ?_
        refine j_iload3 (pc := 16) dX0_dropEmptySureties_16 ?_
        refine j_aald (pc := 17) (by decide) hB.2.2.1 (pk_in n 60 hn6 rfl) (hB.r hn6) dX0_dropEmptySureties_17 ?_
        refine j_astore4 (pc := 18) dX0_dropEmptySureties_18 (by decide) trivial ?_
        refine j_aload0 (pc := 20) dX0_dropEmptySureties_20 ?_
        refine j_aload4 (pc := 21) dX0_dropEmptySureties_21 ?_
        refine g_X0_83 (pc := 23) rfl hp dX0_dropEmptySureties_23 ?_
        refine cd_X0_51 (pc := 26) rfl (S) hB.1 dX0_dropEmptySureties_26 rfl rfl ?_
        refine j_rs ?_
        refine j_astore5 (pc := 29) dX0_dropEmptySureties_29 (by decide) trivial ?_
        refine j_aload4 (pc := 31) dX0_dropEmptySureties_31 ?_
        refine cd_X0_55 (pc := 33) rfl (t_isMember hp) hp dX0_dropEmptySureties_33 rfl rfl ?_
        refine j_bif_eq (pc := 36) (tgt := 53) dX0_dropEmptySureties_36 (by decide) (fun c36 => ?_) (fun c36 => ?_)
        · refine j_aload4 (pc := 53) dX0_dropEmptySureties_53 ?_
          refine j_iconst (pc := 55) (v := (-1)) dX0_dropEmptySureties_55 (by decide) ?_
          refine p_X0_83 (pc := 56) rfl hp dX0_dropEmptySureties_56 ?_
          refine j_iincN3 (pc := 59) dX0_dropEmptySureties_59 (by decide) trivial ?_
          refine j_goto (pc := 62) (tgt := 10) dX0_dropEmptySureties_62 (by decide) ?_
          first | (rw [e1 c36 c50] at ih; exact J.wk ih (by simp [lcw])) | (rw [e2 c36] at ih; exact J.wk ih (by simp [lcw])) | (rw [e3 c50] at ih; exact J.wk ih (by simp [lcw]))
        · refine j_aload5 (pc := 39) dX0_dropEmptySureties_39 ?_
          refine j_ifnull (pc := 41) dX0_dropEmptySureties_41 ?_
          refine j_aload5 (pc := 44) dX0_dropEmptySureties_44 ?_
          refine g_X0_80 (pc := 46) rfl hp2 dX0_dropEmptySureties_46 ?_
          refine j_iconst (pc := 49) (v := 4) dX0_dropEmptySureties_49 (by decide) ?_
          refine j_icmp_eq (pc := 50) (tgt := 59) dX0_dropEmptySureties_50 (by decide) (fun c50 => ?_) (fun c50 => ?_)
          · refine j_iincN3 (pc := 59) dX0_dropEmptySureties_59 (by decide) trivial ?_
            refine j_goto (pc := 62) (tgt := 10) dX0_dropEmptySureties_62 (by decide) ?_
            first | (rw [e1 c36 c50] at ih; exact J.wk ih (by simp [lcw])) | (rw [e2 c36] at ih; exact J.wk ih (by simp [lcw])) | (rw [e3 c50] at ih; exact J.wk ih (by simp [lcw]))
          · refine j_aload4 (pc := 53) dX0_dropEmptySureties_53 ?_
            refine j_iconst (pc := 55) (v := (-1)) dX0_dropEmptySureties_55 (by decide) ?_
            refine p_X0_83 (pc := 56) rfl hp dX0_dropEmptySureties_56 ?_
            refine j_iincN3 (pc := 59) dX0_dropEmptySureties_59 (by decide) trivial ?_
            refine j_goto (pc := 62) (tgt := 10) dX0_dropEmptySureties_62 (by decide) ?_
            first | (rw [e1 c36 c50] at ih; exact J.wk ih (by simp [lcw])) | (rw [e2 c36] at ih; exact J.wk ih (by simp [lcw])) | (rw [e3 c50] at ih; exact J.wk ih (by simp [lcw]))
  refine j_aload0 (pc := 0) dX0_dropEmptySureties_0 ?_
  refine g_X0_11 (pc := 1) rfl hB.1 hB.2.1 dX0_dropEmptySureties_1 ?_
  refine j_astore1 (pc := 4) dX0_dropEmptySureties_4 (by decide) trivial ?_
  refine j_aload1 (pc := 5) dX0_dropEmptySureties_5 ?_
  refine j_alenR (pc := 6) (by decide) hB.2.2.1 dX0_dropEmptySureties_6 ?_
  show J cx mX0_dropEmptySureties (Rm 1 0 0) h 7 [some (.ref B), some (.ref (B + 1)), none, none, none, none] [.int (nI 60)] 0 0 Q
  refine j_istore2 (pc := 7) dX0_dropEmptySureties_7 (by decide) trivial ?_
  refine j_iconst (pc := 8) (v := nI 0) dX0_dropEmptySureties_8 (by decide) ?_
  refine j_istore3 (pc := 9) dX0_dropEmptySureties_9 (by decide) trivial ?_
  exact L 60 rfl
end

