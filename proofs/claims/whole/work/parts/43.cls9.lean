/-! the class: a ring, its shape; what is read of it -/
def RSh (s : Sh) (A : Nat) : Prop := s.2.1 A = kObj 2 ∧ (s.2.2 A 3 = some (A + 1) ∧ s.2.1 (A + 1) = kInts 60) ∧ (s.2.2 A 5 = some (A + 2) ∧ s.2.1 (A + 2) = kInts 60) ∧ (s.2.2 A 6 = some (A + 3) ∧ s.2.1 (A + 3) = kLongs 240) ∧ (s.2.2 A 7 = some (A + 4) ∧ s.2.1 (A + 4) = kRefs 3 512) ∧ (s.2.2 A 8 = some (A + 5) ∧ BSh s (A + 5)) ∧ (s.2.2 A 9 = some (A + 67) ∧ s.2.1 (A + 67) = kRefs 0 60)
def rTold (h : Hp) (A : Nat) (s : Int32) (T : Nat) : Bool := (fnd (fun i => decide (h.i (A + 1) i = s)) T).isSome
section
variable {cx : Cx} {h : Hp} {A : Nat}
theorem t_purse (hA : RSh h.1 A) : DL cx mX2_purse 0 h [.ref A] (h.l A 1 * (h.i (A + 5) 3).toInt64) h := by
  refine Sp.of 0 (by decide) (Nat.le_of_ble_eq_true rfl) rfl ?_
  refine j_aload0 (pc := 0) dX2_purse_0 ?_
  refine g_X2_15 (pc := 1) rfl hA.1 dX2_purse_1 ?_
  refine j_aload0 (pc := 4) dX2_purse_4 ?_
  refine g_X2_42 (pc := 5) rfl hA.1 hA.2.2.2.2.2.1.1 dX2_purse_5 ?_
  refine g_X2_82 (pc := 8) rfl hA.2.2.2.2.2.1.2.1 dX2_purse_8 ?_
  refine j_i2l (pc := 11) dX2_purse_11 ?_
  refine j_lmul (pc := 12) dX2_purse_12 ?_
  refine j_lret (pc := 13) dX2_purse_13 rfl ?_
  exact ⟨_, rfl, rfl, rfl⟩
theorem t_isTold {s : Int32} {T : Nat} (hA : RSh h.1 A) (hT : h.i A 4 = nI T) (hT6 : T ≤ 60) : DB cx mX2_isTold 0 h [.ref A, .int s] (rTold h A s T) h := by
  refine Sp.ofQ 1 (by decide) (Nat.le_of_ble_eq_true rfl) rfl (fun Q hQ => ?_)
  have L : J cx mX2_isTold (Rm 0 0 0) h 2 [some (.ref A), some (.int s), some (.int (nI 0))] [] 0 0 Q := by
    refine dnI (I := fun n => fnd (fun i => decide (h.i (A + 1) i = s)) n = none) (P := fun n => J cx mX2_isTold (Rm 0 0 0) h 2 [some (.ref A), some (.int s), some (.int (nI n))] [] 0 0 Q) T rfl ?_ ?_
    · intro hf
      refine j_iload2 (pc := 2) dX2_isTold_2 ?_
      refine j_aload0 (pc := 3) dX2_isTold_3 ?_
      refine g_X2_62 (pc := 4) rfl hA.1 dX2_isTold_4 ?_
      rw [hT]
      refine j_icmpN_ge (pc := 7) (tgt := 34) (by first | decide | omega) (by first | decide | omega) dX2_isTold_7 (by decide) (fun c7 => ?_) (fun c7 => by omega)
      refine j_iconst (pc := 34) (v := 0) dX2_isTold_34 (by decide) ?_
      refine j_iret (pc := 35) dX2_isTold_35 rfl rfl ?_
      exact hQ _ _ ⟨_, rfl, by unfold rTold; rw [hf]; rfl, rfl⟩
    · intro n hn hf ih
      refine j_iload2 (pc := 2) dX2_isTold_2 ?_
      refine j_aload0 (pc := 3) dX2_isTold_3 ?_
      refine g_X2_62 (pc := 4) rfl hA.1 dX2_isTold_4 ?_
      rw [hT]
      refine j_icmpN_ge (pc := 7) (tgt := 34) (by first | decide | omega) (by first | decide | omega) dX2_isTold_7 (by decide) (fun c7 => by omega) (fun c7 => ?_)
      refine j_iload2 (pc := 10) dX2_isTold_10 ?_
      refine j_bipush (pc := 11) (v := nI 60) dX2_isTold_11 (by decide) ?_
      refine j_icmpN_ge (pc := 13) (tgt := 34) (by first | decide | omega) (by first | decide | omega) dX2_isTold_13 (by decide) (fun c13 => by omega) (fun c13 => ?_)
      refine j_aload0 (pc := 16) dX2_isTold_16 ?_
      refine g_X2_22 (pc := 17) rfl hA.1 hA.2.1.1 dX2_isTold_17 ?_
      refine j_iload2 (pc := 20) dX2_isTold_20 ?_
      refine j_iald (pc := 21) hA.2.1.2 (pk_in n 60 (by omega) rfl) dX2_isTold_21 ?_
      rw [nI_clamp (show n < 2 ^ 31 by omega)]
      refine j_iload1 (pc := 22) dX2_isTold_22 ?_
      refine j_icmp_ne (pc := 23) (tgt := 28) dX2_isTold_23 (by decide) (fun c23 => ?_) (fun c23 => ?_)
      · refine j_iincN2 (pc := 28) dX2_isTold_28 (by decide) trivial ?_
        refine j_goto (pc := 31) (tgt := 2) dX2_isTold_31 (by decide) ?_
        exact ih (by unfold fnd; rw [hf]; dsimp only; rw [decide_eq_false c23]; rfl)
      · refine j_iconst (pc := 26) (v := 1) dX2_isTold_26 (by decide) ?_
        refine j_iret (pc := 27) dX2_isTold_27 rfl rfl ?_
        exact hQ _ _ ⟨_, rfl, by unfold rTold; rw [fnd_at hf (decide_eq_true c23) T hn]; rfl, rfl⟩
  refine j_iconst (pc := 0) (v := nI 0) dX2_isTold_0 (by decide) ?_
  refine j_istore2 (pc := 1) dX2_isTold_1 (by decide) trivial ?_
  exact L
end

