/-! the class: who is first in the order -/
def foP (h : Hp) (A i : Nat) : Bool := match sN (h.i (A + 1) i) with | none => false | some q => pAb h (A + 5 + 2 + q)
def rFirst (h : Hp) (A T : Nat) : Int32 := match fnd (foP h A) T with | some i => h.i (A + 1) i | none => woI (fnd (abP h (A + 5) 0) 60)
section
variable {cx : Cx} {h : Hp} {A : Nat}
theorem t_firstInOrder {T : Nat} (hA : RSh h.1 A) (hT : h.i A 4 = nI T) (hT6 : T ≤ 60) : DI cx mX2_firstInOrder 5 h [.ref A] (rFirst h A T) h := by
  have hB := hA.2.2.2.2.2.1.2
  refine Sp.ofQ 2 (by decide) (Nat.le_of_ble_eq_true rfl) rfl (fun Q hQ => ?_)
  have L : J cx mX2_firstInOrder (Rm 5 0 0) h 2 [some (.ref A), some (.int (nI 0)), none] [] 0 0 Q := by
    refine dnI (I := fun n => fnd (foP h A) n = none) (P := fun n => J cx mX2_firstInOrder (Rm 5 0 0) h 2 [some (.ref A), some (.int (nI n)), none] [] 0 0 Q) T rfl ?_ ?_
    · intro hf
      have S := t_ableNumber (cx := cx) (h := h) (B := A + 5) (num := 0) hB
      refine j_iload1 (pc := 2) dX2_firstInOrder_2 ?_
      refine j_aload0 (pc := 3) dX2_firstInOrder_3 ?_
      refine g_X2_62 (pc := 4) rfl hA.1 dX2_firstInOrder_4 ?_
      rw [hT]
      refine j_icmpN_ge (pc := 7) (tgt := 54) (by first | decide | omega) (by first | decide | omega) dX2_firstInOrder_7 (by decide) (fun c7 => ?_) (fun c7 => by omega)
      refine j_aload0 (pc := 54) dX2_firstInOrder_54 ?_
      refine g_X2_42 (pc := 55) rfl hA.1 hA.2.2.2.2.2.1.1 dX2_firstInOrder_55 ?_
      refine j_lconst (pc := 58) (v := 0) dX2_firstInOrder_58 (by decide) ?_
      refine cd_X2_264 (pc := 59) rfl (S) hA.2.2.2.2.2.1.2.1 dX2_firstInOrder_59 rfl rfl ?_
      refine j_iret (pc := 62) dX2_firstInOrder_62 rfl rfl ?_
      exact hQ _ _ ⟨_, rfl, by unfold rFirst; rw [hf], rfl⟩
    · intro n hn hf ih
      have hin : vp_in (nI n) 60 := pk_in n 60 (by omega) rfl
      have hno : foP h A n = false → fnd (foP h A) (n + 1) = none := fun z => by unfold fnd; rw [hf]; dsimp only; rw [z]; rfl
      have S := t_seatAt (cx := cx) (h := h) (B := A + 5) (s := h.i (A + 1) n) hB
      unfold bSeat at S
      rcases sN_cases (h.i (A + 1) n) with ⟨hso, hsn⟩ | ⟨q, hq, hqe, hso⟩
      · rw [hso] at S
        have ih := ih (hno (by unfold foP; rw [hso]))
        refine j_iload1 (pc := 2) dX2_firstInOrder_2 ?_
        refine j_aload0 (pc := 3) dX2_firstInOrder_3 ?_
        refine g_X2_62 (pc := 4) rfl hA.1 dX2_firstInOrder_4 ?_
        rw [hT]
        refine j_icmpN_ge (pc := 7) (tgt := 54) (by first | decide | omega) (by first | decide | omega) dX2_firstInOrder_7 (by decide) (fun c7 => by omega) (fun c7 => ?_)
        refine j_iload1 (pc := 10) dX2_firstInOrder_10 ?_
        refine j_bipush (pc := 11) (v := nI 60) dX2_firstInOrder_11 (by decide) ?_
        refine j_icmpN_ge (pc := 13) (tgt := 54) (by first | decide | omega) (by first | decide | omega) dX2_firstInOrder_13 (by decide) (fun c13 => by omega) (fun c13 => ?_)
        refine j_aload0 (pc := 16) dX2_firstInOrder_16 ?_
        refine g_X2_42 (pc := 17) rfl hA.1 hA.2.2.2.2.2.1.1 dX2_firstInOrder_17 ?_
        refine j_aload0 (pc := 20) dX2_firstInOrder_20 ?_
        refine g_X2_22 (pc := 21) rfl hA.1 hA.2.1.1 dX2_firstInOrder_21 ?_
        refine j_iload1 (pc := 24) dX2_firstInOrder_24 ?_
        refine j_iald (pc := 25) hA.2.1.2 hin dX2_firstInOrder_25 ?_
        rw [nI_clamp (show n < 2 ^ 31 by omega)]
        refine cd_X2_88 (pc := 26) rfl (S) hA.2.2.2.2.2.1.2.1 dX2_firstInOrder_26 rfl rfl ?_
        refine j_rn ?_
        refine j_nstore2 (pc := 29) dX2_firstInOrder_29 (by decide) trivial ?_
        refine j_nload2 (pc := 30) dX2_firstInOrder_30 ?_
        refine j_ifnullN (pc := 31) (tgt := 48) dX2_firstInOrder_31 (by decide) ?_
        refine j_iincN1 (pc := 48) dX2_firstInOrder_48 (by decide) trivial ?_
        refine j_goto (pc := 51) (tgt := 2) dX2_firstInOrder_51 (by decide) ?_
        exact J.wk ih (by simp [lcw])
      · rw [hso] at S
        have hp := (hB.2.2.2 q hq).2
        have e : foP h A n = pAb h (A + 5 + 2 + q) := by unfold foP; rw [hso]
        refine j_iload1 (pc := 2) dX2_firstInOrder_2 ?_
        refine j_aload0 (pc := 3) dX2_firstInOrder_3 ?_
        refine g_X2_62 (pc := 4) rfl hA.1 dX2_firstInOrder_4 ?_
        rw [hT]
        refine j_icmpN_ge (pc := 7) (tgt := 54) (by first | decide | omega) (by first | decide | omega) dX2_firstInOrder_7 (by decide) (fun c7 => by omega) (fun c7 => ?_)
        refine j_iload1 (pc := 10) dX2_firstInOrder_10 ?_
        refine j_bipush (pc := 11) (v := nI 60) dX2_firstInOrder_11 (by decide) ?_
        refine j_icmpN_ge (pc := 13) (tgt := 54) (by first | decide | omega) (by first | decide | omega) dX2_firstInOrder_13 (by decide) (fun c13 => by omega) (fun c13 => ?_)
        refine j_aload0 (pc := 16) dX2_firstInOrder_16 ?_
        refine g_X2_42 (pc := 17) rfl hA.1 hA.2.2.2.2.2.1.1 dX2_firstInOrder_17 ?_
        refine j_aload0 (pc := 20) dX2_firstInOrder_20 ?_
        refine g_X2_22 (pc := 21) rfl hA.1 hA.2.1.1 dX2_firstInOrder_21 ?_
        refine j_iload1 (pc := 24) dX2_firstInOrder_24 ?_
        refine j_iald (pc := 25) hA.2.1.2 hin dX2_firstInOrder_25 ?_
        rw [nI_clamp (show n < 2 ^ 31 by omega)]
        refine cd_X2_88 (pc := 26) rfl (S) hA.2.2.2.2.2.1.2.1 dX2_firstInOrder_26 rfl rfl ?_
        refine j_rs ?_
        refine j_astore2 (pc := 29) dX2_firstInOrder_29 (by decide) trivial ?_
        refine j_aload2 (pc := 30) dX2_firstInOrder_30 ?_
        refine j_ifnull (pc := 31) dX2_firstInOrder_31 ?_
        refine j_aload2 (pc := 34) dX2_firstInOrder_34 ?_
        refine cd_X2_261 (pc := 35) rfl (t_isAble hp) hp dX2_firstInOrder_35 rfl rfl ?_
        refine j_bif_eq (pc := 38) (tgt := 48) dX2_firstInOrder_38 (by decide) (fun c38 => ?_) (fun c38 => ?_)
        · refine j_iincN1 (pc := 48) dX2_firstInOrder_48 (by decide) trivial ?_
          refine j_goto (pc := 51) (tgt := 2) dX2_firstInOrder_51 (by decide) ?_
          exact J.wk (ih (hno (e.trans c38))) (by simp [lcw])
        · refine j_aload0 (pc := 41) dX2_firstInOrder_41 ?_
          refine g_X2_22 (pc := 42) rfl hA.1 hA.2.1.1 dX2_firstInOrder_42 ?_
          refine j_iload1 (pc := 45) dX2_firstInOrder_45 ?_
          refine j_iald (pc := 46) hA.2.1.2 hin dX2_firstInOrder_46 ?_
          rw [nI_clamp (show n < 2 ^ 31 by omega)]
          refine j_iret (pc := 47) dX2_firstInOrder_47 rfl rfl ?_
          exact hQ _ _ ⟨_, rfl, by unfold rFirst; rw [fnd_at hf (e.trans c38) T hn], rfl⟩
  refine j_iconst (pc := 0) (v := nI 0) dX2_firstInOrder_0 (by decide) ?_
  refine j_istore1 (pc := 1) dX2_firstInOrder_1 (by decide) trivial ?_
  exact L
end

