/-! the class: fairness, rounds undone, what is told, what is counted -/
def faP (h : Hp) (A i : Nat) : Bool := decide (¬ h.i (A + 5 + 2 + i) 5 = 0) && (decide (¬ h.i (A + 5 + 2 + i) 3 = 0) && decide (¬ h.l (A + 5 + 2 + i) 10 = h.l A 1 * (h.i (A + 5) 3).toInt64))
def rFair (h : Hp) (A : Nat) : Int32 := if h.i A 0 = 0 ∧ ¬ h.i (A + 5) 1 = 0 ∧ h.i (A + 5) 7 ≤ 0 then (match fnd (faP h A) 60 with | some _ => 0 | none => 1) else -1
def rAh (h : Hp) (A r : Nat) (k : Int32) : Option Nat := if h.i A 10 ≤ k ∧ ¬ k < 0 ∧ k < nI r then h.r (A + 67) k.toNatClampNeg else none
def rUndo (h : Hp) (A r : Nat) : Int32 × Hp := match rAh h A r (nI r - 1) with | none => (-1, h) | some b => ((cpBk (A + 5) b h).i (A + 5) 2, cpBk (A + 5) b h)
def foW (h : Hp) (A X k w : Nat) : Bool := decide (¬ h.l X (k * 3 + w) = h.l (A + 3) (k * 4 + w))
def foK (h : Hp) (A X k : Nat) : Bool := (fnd (foW h A X k) 3).isSome
def rCnt (h : Hp) (A : Nat) (w : Int32) : Int64 :=
  if w = 0 then (h.i A 0).toInt64 else if w = 1 then h.l A 1 else if w = 2 then h.l A 2 else if w = 3 then h.l (A + 5) 8 else if w = 4 then (h.i (A + 5) 1).toInt64 else if w = 5 then (h.i (A + 5) 2).toInt64 else if w = 6 then (h.i (A + 5) 3).toInt64 else if w = 7 then (h.i (A + 5) 4).toInt64 else if w = 8 then (h.i (A + 5) 7).toInt64 else if w = 9 then (h.i (A + 5) 5).toInt64
  else if w = 10 then (nI (cYes h (A + 5))).toInt64 else if w = 11 then (h.i (A + 5) 6).toInt64 else if w = 12 then (h.i (A + 5) 2 - h.i A 10).toInt64 else if w = 13 then h.l (A + 5) 9 else -1
section
variable {cx : Cx} {h : Hp} {A : Nat}
theorem t_fairness (hA : RSh h.1 A) : DI cx mX2_fairness 1 h [.ref A] (rFair h A) h := by
  have hB := hA.2.2.2.2.2.1.2
  have S := t_purse (cx := cx) hA
  refine Sp.ofQ 4 (by decide) (Nat.le_of_ble_eq_true rfl) rfl (fun Q hQ => ?_)
  unfold rFair at hQ
  have L : (h.i A 0 = 0 ∧ ¬ h.i (A + 5) 1 = 0 ∧ h.i (A + 5) 7 ≤ 0) → ∀ N, N = 60 → J cx mX2_fairness (Rm 1 0 0) h 42 [some (.ref A), some (.ref (A + 5 + 1)), some (.int (nI N)), some (.int (nI 0)), none] [] 0 0 Q := by
    intro h1 N hN
    rw [if_pos h1, ← hN] at hQ
    refine dnI (I := fun n => fnd (faP h A) n = none) (P := fun n => J cx mX2_fairness (Rm 1 0 0) h 42 [some (.ref A), some (.ref (A + 5 + 1)), some (.int (nI N)), some (.int (nI n)), none] [] 0 0 Q) N rfl ?_ ?_
    · intro hf
      rw [hf] at hQ
      refine j_iload3 (pc := 42) dX2_fairness_42 ?_
      refine j_iload2 (pc := 43) dX2_fairness_43 ?_
      refine j_icmpN_ge (pc := 44) (tgt := 89) (by first | decide | omega) (by first | decide | omega) dX2_fairness_44 (by decide) (fun c44 => ?_) (fun c44 => by omega)
      refine j_iconst (pc := 89) (v := 1) dX2_fairness_89 (by decide) ?_
      refine j_iret (pc := 90) dX2_fairness_90 rfl rfl ?_
      exact hQ _ _ ⟨_, rfl, rfl, rfl⟩
    · intro n hn hf ih
      have hn6 : n < 60 := by omega
      have hp := (hB.2.2.2 n hn6).2
      have hno : faP h A n = false → fnd (faP h A) (n + 1) = none := fun z => by unfold fnd; rw [hf]; dsimp only; rw [z]; rfl
      have e0 : h.i (A + 5 + 2 + n) 5 = 0 → faP h A n = false := fun a => by unfold faP; rw [decide_eq_false (fun z => z a)]; rfl
      have e1 : h.i (A + 5 + 2 + n) 3 = 0 → faP h A n = false := fun a => by unfold faP; rw [decide_eq_false (p := ¬ h.i (A + 5 + 2 + n) 3 = 0) (fun z => z a), Bool.false_and, Bool.and_false]
      have e2 : h.l (A + 5 + 2 + n) 10 = h.l A 1 * (h.i (A + 5) 3).toInt64 → faP h A n = false := fun a => by unfold faP; rw [decide_eq_false (p := ¬ h.l (A + 5 + 2 + n) 10 = h.l A 1 * (h.i (A + 5) 3).toInt64) (fun z => z a), Bool.and_false, Bool.and_false]
      have e3 : ¬ h.i (A + 5 + 2 + n) 5 = 0 → ¬ h.i (A + 5 + 2 + n) 3 = 0 → ¬ h.l (A + 5 + 2 + n) 10 = h.l A 1 * (h.i (A + 5) 3).toInt64 → faP h A n = true := fun a b c => by unfold faP; rw [decide_eq_true a, decide_eq_true b, decide_eq_true c]; rfl
      refine j_iload3 (pc := 42) dX2_fairness_42 ?_
      refine j_iload2 (pc := 43) dX2_fairness_43 ?_
      refine j_icmpN_ge (pc := 44) (tgt := 89) (by first | decide | omega) (by first | decide | omega) dX2_fairness_44 (by decide) (fun c44 => by omega) (fun c44 => ?_)
      refine j_aload1 (pc := 47) dX2_fairness_47 ?_
      refine j_iload3 (pc := 48) dX2_fairness_48 ?_
      refine j_aald (pc := 49) (by decide) hA.2.2.2.2.2.1.2.2.2.1 (pk_in n 60 hn6 rfl) (hB.r hn6) dX2_fairness_49 ?_
      refine j_astore4 (pc := 50) dX2_fairness_50 (by decide) trivial ?_
      refine j_aload4 (pc := 52) dX2_fairness_52 ?_
      refine g_X2_134 (pc := 54) rfl hp dX2_fairness_54 ?_
      refine j_if_eq (pc := 57) (tgt := 83) dX2_fairness_57 (by decide) (fun c57 => ?_) (fun c57 => ?_)
      · refine j_iincN3 (pc := 83) dX2_fairness_83 (by decide) trivial ?_
        refine j_goto (pc := 86) (tgt := 42) dX2_fairness_86 (by decide) ?_
        first | exact J.wk (ih (hno (e0 c57))) (by simp [lcw]) | exact J.wk (ih (hno (e1 c65))) (by simp [lcw]) | exact J.wk (ih (hno (e2 c77))) (by simp [lcw])
      · refine j_aload4 (pc := 60) dX2_fairness_60 ?_
        refine g_X2_208 (pc := 62) rfl hp dX2_fairness_62 ?_
        refine j_if_eq (pc := 65) (tgt := 83) dX2_fairness_65 (by decide) (fun c65 => ?_) (fun c65 => ?_)
        · refine j_iincN3 (pc := 83) dX2_fairness_83 (by decide) trivial ?_
          refine j_goto (pc := 86) (tgt := 42) dX2_fairness_86 (by decide) ?_
          first | exact J.wk (ih (hno (e0 c57))) (by simp [lcw]) | exact J.wk (ih (hno (e1 c65))) (by simp [lcw]) | exact J.wk (ih (hno (e2 c77))) (by simp [lcw])
        · refine j_aload4 (pc := 68) dX2_fairness_68 ?_
          refine g_X2_290 (pc := 70) rfl hp dX2_fairness_70 ?_
          refine j_aload0 (pc := 73) dX2_fairness_73 ?_
          refine cd_X2_195 (pc := 74) rfl (S) hA.1 dX2_fairness_74 rfl rfl ?_
          refine j_lcmp_eq (pc := 77) (tgt := 83) dX2_fairness_77 dX2_fairness_78 (by decide) (fun c77 => ?_) (fun c77 => ?_)
          · refine j_iincN3 (pc := 83) dX2_fairness_83 (by decide) trivial ?_
            refine j_goto (pc := 86) (tgt := 42) dX2_fairness_86 (by decide) ?_
            first | exact J.wk (ih (hno (e0 c57))) (by simp [lcw]) | exact J.wk (ih (hno (e1 c65))) (by simp [lcw]) | exact J.wk (ih (hno (e2 c77))) (by simp [lcw])
          · refine j_iconst (pc := 81) (v := 0) dX2_fairness_81 (by decide) ?_
            refine j_iret (pc := 82) dX2_fairness_82 rfl rfl ?_
            exact hQ _ _ ⟨_, rfl, by rw [fnd_at hf (e3 c57 c65 c77) N hn], rfl⟩
  refine j_aload0 (pc := 0) dX2_fairness_0 ?_
  refine g_X2_9 (pc := 1) rfl hA.1 dX2_fairness_1 ?_
  refine j_if_ne (pc := 4) (tgt := 27) dX2_fairness_4 (by decide) (fun c4 => ?_) (fun c4 => ?_)
  · refine j_iconst (pc := 27) (v := (-1)) dX2_fairness_27 (by decide) ?_
    refine j_iret (pc := 28) dX2_fairness_28 rfl rfl ?_
    exact hQ _ _ ⟨_, rfl, (if_neg (show ¬ (h.i A 0 = 0 ∧ ¬ h.i (A + 5) 1 = 0 ∧ h.i (A + 5) 7 ≤ 0) by first | exact fun z => c4 z.1 | exact fun z => z.2.1 c14 | exact fun z => c24 z.2.2)).symm, rfl⟩
  · refine j_aload0 (pc := 7) dX2_fairness_7 ?_
    refine g_X2_42 (pc := 8) rfl hA.1 hA.2.2.2.2.2.1.1 dX2_fairness_8 ?_
    refine g_X2_85 (pc := 11) rfl hA.2.2.2.2.2.1.2.1 dX2_fairness_11 ?_
    refine j_if_eq (pc := 14) (tgt := 27) dX2_fairness_14 (by decide) (fun c14 => ?_) (fun c14 => ?_)
    · refine j_iconst (pc := 27) (v := (-1)) dX2_fairness_27 (by decide) ?_
      refine j_iret (pc := 28) dX2_fairness_28 rfl rfl ?_
      exact hQ _ _ ⟨_, rfl, (if_neg (show ¬ (h.i A 0 = 0 ∧ ¬ h.i (A + 5) 1 = 0 ∧ h.i (A + 5) 7 ≤ 0) by first | exact fun z => c4 z.1 | exact fun z => z.2.1 c14 | exact fun z => c24 z.2.2)).symm, rfl⟩
    · refine j_aload0 (pc := 17) dX2_fairness_17 ?_
      refine g_X2_42 (pc := 18) rfl hA.1 hA.2.2.2.2.2.1.1 dX2_fairness_18 ?_
      refine g_X2_65 (pc := 21) rfl hA.2.2.2.2.2.1.2.1 dX2_fairness_21 ?_
      refine j_if_le (pc := 24) (tgt := 29) dX2_fairness_24 (by decide) (fun c24 => ?_) (fun c24 => ?_)
      · refine j_aload0 (pc := 29) dX2_fairness_29 ?_
        refine g_X2_42 (pc := 30) rfl hA.1 hA.2.2.2.2.2.1.1 dX2_fairness_30 ?_
        refine g_X2_126 (pc := 33) rfl hA.2.2.2.2.2.1.2.1 hA.2.2.2.2.2.1.2.2.1 dX2_fairness_33 ?_
        refine j_astore1 (pc := 36) dX2_fairness_36 (by decide) trivial ?_
        refine j_aload1 (pc := 37) dX2_fairness_37 ?_
        refine j_alenR (pc := 38) (by decide) hA.2.2.2.2.2.1.2.2.2.1 dX2_fairness_38 ?_
        show J cx mX2_fairness (Rm 1 0 0) h 39 [some (.ref A), some (.ref (A + 5 + 1)), none, none, none] [.int (nI 60)] 0 0 Q
        refine j_istore2 (pc := 39) dX2_fairness_39 (by decide) trivial ?_
        refine j_iconst (pc := 40) (v := nI 0) dX2_fairness_40 (by decide) ?_
        refine j_istore3 (pc := 41) dX2_fairness_41 (by decide) trivial ?_
        exact L ⟨c4, c14, c24⟩ 60 rfl
      · refine j_iconst (pc := 27) (v := (-1)) dX2_fairness_27 (by decide) ?_
        refine j_iret (pc := 28) dX2_fairness_28 rfl rfl ?_
        exact hQ _ _ ⟨_, rfl, (if_neg (show ¬ (h.i A 0 = 0 ∧ ¬ h.i (A + 5) 1 = 0 ∧ h.i (A + 5) 7 ≤ 0) by first | exact fun z => c4 z.1 | exact fun z => z.2.1 c14 | exact fun z => c24 z.2.2)).symm, rfl⟩
theorem t_bookAhead {k : Int32} {r : Nat} (hA : RSh h.1 A) (hR : h.i (A + 5) 2 = nI r) (hr : r ≤ 60) : DR cx mX2_bookAhead 0 h [.ref A, .int k] (rAh h A r k) h := by
  unfold rAh
  by_cases hk : h.i A 10 ≤ k ∧ ¬ k < 0 ∧ k < nI r
  · rw [if_pos hk]
    obtain ⟨j, hj, rfl⟩ : ∃ j : Nat, j < r ∧ k = nI j := by
      rcases pk_ix k (n := r) (by omega) with z | z | ⟨j, hj, rfl⟩
      · exact absurd z hk.2.1
      · exact absurd hk.2.2 (Int32.not_lt.mpr z)
      · exact ⟨j, hj, rfl⟩
    have hin : vp_in (nI j) 60 := pk_in j 60 (by omega) rfl
    have hcl : (nI j).toNatClampNeg = j := nI_clamp (by omega)
    rw [hcl]
    cases hm : h.r (A + 67) j with
    | none =>
      refine Sp.of 0 (by decide) (Nat.le_of_ble_eq_true rfl) rfl ?_
      refine j_iload1 (pc := 0) dX2_bookAhead_0 ?_
      refine j_aload0 (pc := 1) dX2_bookAhead_1 ?_
      refine g_X2_79 (pc := 2) rfl hA.1 dX2_bookAhead_2 ?_
      refine j_icmp_lt (pc := 5) (tgt := 38) dX2_bookAhead_5 (by decide) (fun c5 => by exact absurd c5 (Int32.not_lt.mpr hk.1)) (fun c5 => ?_)
      refine j_iload1 (pc := 8) dX2_bookAhead_8 ?_
      refine j_if_lt (pc := 9) (tgt := 38) dX2_bookAhead_9 (by decide) (fun c9 => by exact absurd c9 (nI_pos (by omega))) (fun c9 => ?_)
      refine j_iload1 (pc := 12) dX2_bookAhead_12 ?_
      refine j_aload0 (pc := 13) dX2_bookAhead_13 ?_
      refine g_X2_42 (pc := 14) rfl hA.1 hA.2.2.2.2.2.1.1 dX2_bookAhead_14 ?_
      refine g_X2_76 (pc := 17) rfl hA.2.2.2.2.2.1.2.1 dX2_bookAhead_17 ?_
      rw [hR]
      refine j_icmpN_ge (pc := 20) (tgt := 38) (by first | decide | omega) (by first | decide | omega) dX2_bookAhead_20 (by decide) (fun c20 => by omega) (fun c20 => ?_)
      refine j_iload1 (pc := 23) dX2_bookAhead_23 ?_
      refine j_bipush (pc := 24) (v := nI 60) dX2_bookAhead_24 (by decide) ?_
      refine j_icmpN_ge (pc := 26) (tgt := 38) (by first | decide | omega) (by first | decide | omega) dX2_bookAhead_26 (by decide) (fun c26 => by omega) (fun c26 => ?_)
      refine j_aload0 (pc := 29) dX2_bookAhead_29 ?_
      refine g_X2_49 (pc := 30) rfl hA.1 hA.2.2.2.2.2.2.1 dX2_bookAhead_30 ?_
      refine j_iload1 (pc := 33) dX2_bookAhead_33 ?_
      refine j_aaldN (pc := 34) (by decide) hA.2.2.2.2.2.2.2 hin (by rw [hcl]; exact hm) dX2_bookAhead_34 ?_
      refine j_goto (pc := 35) (tgt := 39) dX2_bookAhead_35 (by decide) ?_
      refine j_aretN (pc := 39) dX2_bookAhead_39 rfl ?_
      exact ⟨none, rfl, rfl, rfl⟩
    | some b =>
      refine Sp.of 0 (by decide) (Nat.le_of_ble_eq_true rfl) rfl ?_
      refine j_iload1 (pc := 0) dX2_bookAhead_0 ?_
      refine j_aload0 (pc := 1) dX2_bookAhead_1 ?_
      refine g_X2_79 (pc := 2) rfl hA.1 dX2_bookAhead_2 ?_
      refine j_icmp_lt (pc := 5) (tgt := 38) dX2_bookAhead_5 (by decide) (fun c5 => by exact absurd c5 (Int32.not_lt.mpr hk.1)) (fun c5 => ?_)
      refine j_iload1 (pc := 8) dX2_bookAhead_8 ?_
      refine j_if_lt (pc := 9) (tgt := 38) dX2_bookAhead_9 (by decide) (fun c9 => by exact absurd c9 (nI_pos (by omega))) (fun c9 => ?_)
      refine j_iload1 (pc := 12) dX2_bookAhead_12 ?_
      refine j_aload0 (pc := 13) dX2_bookAhead_13 ?_
      refine g_X2_42 (pc := 14) rfl hA.1 hA.2.2.2.2.2.1.1 dX2_bookAhead_14 ?_
      refine g_X2_76 (pc := 17) rfl hA.2.2.2.2.2.1.2.1 dX2_bookAhead_17 ?_
      rw [hR]
      refine j_icmpN_ge (pc := 20) (tgt := 38) (by first | decide | omega) (by first | decide | omega) dX2_bookAhead_20 (by decide) (fun c20 => by omega) (fun c20 => ?_)
      refine j_iload1 (pc := 23) dX2_bookAhead_23 ?_
      refine j_bipush (pc := 24) (v := nI 60) dX2_bookAhead_24 (by decide) ?_
      refine j_icmpN_ge (pc := 26) (tgt := 38) (by first | decide | omega) (by first | decide | omega) dX2_bookAhead_26 (by decide) (fun c26 => by omega) (fun c26 => ?_)
      refine j_aload0 (pc := 29) dX2_bookAhead_29 ?_
      refine g_X2_49 (pc := 30) rfl hA.1 hA.2.2.2.2.2.2.1 dX2_bookAhead_30 ?_
      refine j_iload1 (pc := 33) dX2_bookAhead_33 ?_
      refine j_aald (pc := 34) (by decide) hA.2.2.2.2.2.2.2 hin (by rw [hcl]; exact hm) dX2_bookAhead_34 ?_
      refine j_goto (pc := 35) (tgt := 39) dX2_bookAhead_35 (by decide) ?_
      refine j_aret (pc := 39) dX2_bookAhead_39 rfl ?_
      exact ⟨some b, rfl, rfl, rfl⟩
  · rw [if_neg hk]
    refine Sp.of 0 (by decide) (Nat.le_of_ble_eq_true rfl) rfl ?_
    refine j_iload1 (pc := 0) dX2_bookAhead_0 ?_
    refine j_aload0 (pc := 1) dX2_bookAhead_1 ?_
    refine g_X2_79 (pc := 2) rfl hA.1 dX2_bookAhead_2 ?_
    refine j_icmp_lt (pc := 5) (tgt := 38) dX2_bookAhead_5 (by decide) (fun c5 => ?_) (fun c5 => ?_)
    · refine j_null (pc := 38) dX2_bookAhead_38 ?_
      refine j_aretN (pc := 39) dX2_bookAhead_39 rfl ?_
      exact ⟨none, rfl, rfl, rfl⟩
    · refine j_iload1 (pc := 8) dX2_bookAhead_8 ?_
      refine j_if_lt (pc := 9) (tgt := 38) dX2_bookAhead_9 (by decide) (fun c9 => ?_) (fun c9 => ?_)
      · refine j_null (pc := 38) dX2_bookAhead_38 ?_
        refine j_aretN (pc := 39) dX2_bookAhead_39 rfl ?_
        exact ⟨none, rfl, rfl, rfl⟩
      · refine j_iload1 (pc := 12) dX2_bookAhead_12 ?_
        refine j_aload0 (pc := 13) dX2_bookAhead_13 ?_
        refine g_X2_42 (pc := 14) rfl hA.1 hA.2.2.2.2.2.1.1 dX2_bookAhead_14 ?_
        refine g_X2_76 (pc := 17) rfl hA.2.2.2.2.2.1.2.1 dX2_bookAhead_17 ?_
        rw [hR]
        refine j_icmp_ge (pc := 20) (tgt := 38) dX2_bookAhead_20 (by decide) (fun c20 => ?_) (fun c20 => by exact absurd ⟨Int32.not_lt.mp c5, c9, Int32.not_le.mp c20⟩ hk)
        refine j_null (pc := 38) dX2_bookAhead_38 ?_
        refine j_aretN (pc := 39) dX2_bookAhead_39 rfl ?_
        exact ⟨none, rfl, rfl, rfl⟩
theorem t_undoRound {r : Nat} (hA : RSh h.1 A) (hR : h.i (A + 5) 2 = nI r) (hr : r ≤ 60) (hb : ∀ b, rAh h A r (nI r - 1) = some b → BSh h.1 b ∧ (A + 5 + 62 ≤ b ∨ b + 62 ≤ A + 5) ∧ ∀ i, i < 60 → plB h (b + 2 + i)) : DI cx mX2_undoRound 2 h [.ref A] (rUndo h A r).1 (rUndo h A r).2 := by
  have hB := hA.2.2.2.2.2.1.2
  have S := t_bookAhead (cx := cx) (k := nI r - 1) hA hR hr
  unfold rUndo
  cases hm : rAh h A r (nI r - 1) with
  | none =>
    rw [hm] at S
    refine Sp.of 1 (by decide) (Nat.le_of_ble_eq_true rfl) rfl ?_
    refine j_aload0 (pc := 0) dX2_undoRound_0 ?_
    refine j_aload0 (pc := 1) dX2_undoRound_1 ?_
    refine g_X2_42 (pc := 2) rfl hA.1 hA.2.2.2.2.2.1.1 dX2_undoRound_2 ?_
    refine g_X2_76 (pc := 5) rfl hA.2.2.2.2.2.1.2.1 dX2_undoRound_5 ?_
    rw [hR]
    refine j_iconst (pc := 8) (v := 1) dX2_undoRound_8 (by decide) ?_
    refine j_isub (pc := 9) dX2_undoRound_9 ?_
    refine cd_X2_340 (pc := 10) rfl (S) hA.1 dX2_undoRound_10 rfl rfl ?_
    refine j_rn ?_
    refine j_nstore1 (pc := 13) dX2_undoRound_13 (by decide) trivial ?_
    refine j_nload1 (pc := 14) dX2_undoRound_14 ?_
    refine j_ifnonnullN (pc := 15) dX2_undoRound_15 ?_
    refine j_iconst (pc := 18) (v := (-1)) dX2_undoRound_18 (by decide) ?_
    refine j_iret (pc := 19) dX2_undoRound_19 rfl rfl ?_
    exact ⟨_, rfl, rfl, rfl⟩
  | some b =>
    rw [hm] at S
    obtain ⟨hb1, hb2, hb3⟩ := hb b hm
    have S2 := t_copyFrom0 (cx := cx) (h := h) (B := A + 5) (b := b) hB hb1 hb2 hb3
    dsimp only
    have hA1 : RSh (cpBk (A + 5) b h).1 A := by rw [cpBk_sh]; exact hA
    generalize cpBk (A + 5) b h = g at S2 hA1 ⊢
    refine Sp.of 1 (by decide) (Nat.le_of_ble_eq_true rfl) rfl ?_
    refine j_aload0 (pc := 0) dX2_undoRound_0 ?_
    refine j_aload0 (pc := 1) dX2_undoRound_1 ?_
    refine g_X2_42 (pc := 2) rfl hA.1 hA.2.2.2.2.2.1.1 dX2_undoRound_2 ?_
    refine g_X2_76 (pc := 5) rfl hA.2.2.2.2.2.1.2.1 dX2_undoRound_5 ?_
    rw [hR]
    refine j_iconst (pc := 8) (v := 1) dX2_undoRound_8 (by decide) ?_
    refine j_isub (pc := 9) dX2_undoRound_9 ?_
    refine cd_X2_340 (pc := 10) rfl (S) hA.1 dX2_undoRound_10 rfl rfl ?_
    refine j_rs ?_
    refine j_astore1 (pc := 13) dX2_undoRound_13 (by decide) trivial ?_
    refine j_aload1 (pc := 14) dX2_undoRound_14 ?_
    refine j_ifnonnull (pc := 15) (tgt := 20) dX2_undoRound_15 (by decide) ?_
    refine j_aload0 (pc := 20) dX2_undoRound_20 ?_
    refine g_X2_42 (pc := 21) rfl hA.1 hA.2.2.2.2.2.1.1 dX2_undoRound_21 ?_
    refine j_aload1 (pc := 24) dX2_undoRound_24 ?_
    refine cd_X2_73 (pc := 25) rfl (S2) hA.2.2.2.2.2.1.2.1 dX2_undoRound_25 rfl rfl ?_
    have hA := hA1
    refine j_aload0 (pc := 28) dX2_undoRound_28 ?_
    refine g_X2_42 (pc := 29) rfl hA.1 hA.2.2.2.2.2.1.1 dX2_undoRound_29 ?_
    refine g_X2_76 (pc := 32) rfl hA.2.2.2.2.2.1.2.1 dX2_undoRound_32 ?_
    refine j_iret (pc := 35) dX2_undoRound_35 rfl rfl ?_
    exact ⟨_, rfl, rfl, rfl⟩
theorem t_firstOtherwise {X r : Nat} (hA : RSh h.1 A) (hX : h.kd X = kLongs 180) (hR : h.i (A + 5) 2 = nI r) (hr : r ≤ 60) : DI cx mX2_firstOtherwise 0 h [.ref A, .ref X] (woI (fnd (foK h A X) r)) h := by
  refine Sp.ofQ 3 (by decide) (Nat.le_of_ble_eq_true rfl) rfl (fun Q hQ => ?_)
  have L : J cx mX2_firstOtherwise (Rm 0 0 0) h 2 [some (.ref A), some (.ref X), some (.int (nI 0)), none, none] [] 0 0 Q := by
    refine dnI (I := fun n => fnd (foK h A X) n = none) (P := fun n => J cx mX2_firstOtherwise (Rm 0 0 0) h 2 [some (.ref A), some (.ref X), some (.int (nI n)), none, none] [] 0 0 Q) r rfl ?_ ?_
    · intro hf
      rw [hf] at hQ
      refine j_iload2 (pc := 2) dX2_firstOtherwise_2 ?_
      refine j_aload0 (pc := 3) dX2_firstOtherwise_3 ?_
      refine g_X2_42 (pc := 4) rfl hA.1 hA.2.2.2.2.2.1.1 dX2_firstOtherwise_4 ?_
      refine g_X2_76 (pc := 7) rfl hA.2.2.2.2.2.1.2.1 dX2_firstOtherwise_7 ?_
      rw [hR]
      refine j_icmpN_ge (pc := 10) (tgt := 72) (by first | decide | omega) (by first | decide | omega) dX2_firstOtherwise_10 (by decide) (fun c10 => ?_) (fun c10 => by omega)
      refine j_iconst (pc := 72) (v := (-1)) dX2_firstOtherwise_72 (by decide) ?_
      refine j_iret (pc := 73) dX2_firstOtherwise_73 rfl rfl ?_
      exact hQ _ _ ⟨_, rfl, rfl, rfl⟩
    · intro n hn hf ih
      have hno : foK h A X n = false → fnd (foK h A X) (n + 1) = none := fun z => by unfold fnd; rw [hf]; dsimp only; rw [z]; rfl
      have L2 : J cx mX2_firstOtherwise (Rm 0 0 0) h 21 [some (.ref A), some (.ref X), some (.int (nI n)), some (.int (nI 0)), none] [] 0 0 Q := by
        refine dnI (I := fun w => fnd (foW h A X n) w = none) (P := fun w => J cx mX2_firstOtherwise (Rm 0 0 0) h 21 [some (.ref A), some (.ref X), some (.int (nI n)), some (.int (nI w)), none] [] 0 0 Q) 3 rfl ?_ ?_
        · intro hw
          have ih := ih (hno (by unfold foK; rw [hw]; rfl))
          refine j_iload3 (pc := 21) dX2_firstOtherwise_21 ?_
          refine j_iconst (pc := 22) (v := nI 3) dX2_firstOtherwise_22 (by decide) ?_
          refine j_icmpN_ge (pc := 23) (tgt := 66) (by first | decide | omega) (by first | decide | omega) dX2_firstOtherwise_23 (by decide) (fun c23 => ?_) (fun c23 => by omega)
          refine j_iincN2 (pc := 66) dX2_firstOtherwise_66 (by decide) trivial ?_
          refine j_goto (pc := 69) (tgt := 2) dX2_firstOtherwise_69 (by decide) ?_
          exact J.wk ih (by simp [lcw])
        · intro w hw3 hfw ihw
          have hin1 : vp_in (nI (n * 3 + w)) 180 := pk_in (n * 3 + w) 180 (by omega) rfl
          have hin2 : vp_in (nI (n * 4 + w)) 240 := pk_in (n * 4 + w) 240 (by omega) rfl
          have hnw : foW h A X n w = false → fnd (foW h A X n) (w + 1) = none := fun z => by unfold fnd; rw [hfw]; dsimp only; rw [z]; rfl
          refine j_iload3 (pc := 21) dX2_firstOtherwise_21 ?_
          refine j_iconst (pc := 22) (v := nI 3) dX2_firstOtherwise_22 (by decide) ?_
          refine j_icmpN_ge (pc := 23) (tgt := 66) (by first | decide | omega) (by first | decide | omega) dX2_firstOtherwise_23 (by decide) (fun c23 => by omega) (fun c23 => ?_)
          refine j_iload2 (pc := 26) dX2_firstOtherwise_26 ?_
          refine j_iconst (pc := 27) (v := nI 3) dX2_firstOtherwise_27 (by decide) ?_
          refine j_imulN (pc := 28) dX2_firstOtherwise_28 ?_
          refine j_iload3 (pc := 29) dX2_firstOtherwise_29 ?_
          refine j_iaddN (pc := 30) dX2_firstOtherwise_30 ?_
          refine j_istore4 (pc := 31) dX2_firstOtherwise_31 (by decide) trivial ?_
          refine j_iload4 (pc := 33) dX2_firstOtherwise_33 ?_
          refine j_aload1 (pc := 35) dX2_firstOtherwise_35 ?_
          refine j_alenL (pc := 36) hX dX2_firstOtherwise_36 ?_
          show J cx mX2_firstOtherwise (Rm 0 0 0) h 37 _ [.int (nI 180), .int (nI (n * 3 + w))] 0 0 Q
          refine j_icmpN_ge (pc := 37) (tgt := 58) (by first | decide | omega) (by first | decide | omega) dX2_firstOtherwise_37 (by decide) (fun c37 => by omega) (fun c37 => ?_)
          refine j_aload1 (pc := 40) dX2_firstOtherwise_40 ?_
          refine j_iload4 (pc := 41) dX2_firstOtherwise_41 ?_
          refine j_lald (pc := 43) hX hin1 dX2_firstOtherwise_43 ?_
          rw [nI_clamp (show n * 3 + w < 2 ^ 31 by omega)]
          refine j_aload0 (pc := 44) dX2_firstOtherwise_44 ?_
          refine g_X2_29 (pc := 45) rfl hA.1 hA.2.2.2.1.1 dX2_firstOtherwise_45 ?_
          refine j_iload2 (pc := 48) dX2_firstOtherwise_48 ?_
          refine j_iconst (pc := 49) (v := nI 4) dX2_firstOtherwise_49 (by decide) ?_
          refine j_imulN (pc := 50) dX2_firstOtherwise_50 ?_
          refine j_iload3 (pc := 51) dX2_firstOtherwise_51 ?_
          refine j_iaddN (pc := 52) dX2_firstOtherwise_52 ?_
          refine j_lald (pc := 53) hA.2.2.2.1.2 hin2 dX2_firstOtherwise_53 ?_
          rw [nI_clamp (show n * 4 + w < 2 ^ 31 by omega)]
          refine j_lcmp_eq (pc := 54) (tgt := 60) dX2_firstOtherwise_54 dX2_firstOtherwise_55 (by decide) (fun c54 => ?_) (fun c54 => ?_)
          · refine j_iincN3 (pc := 60) dX2_firstOtherwise_60 (by decide) trivial ?_
            refine j_goto (pc := 63) (tgt := 21) dX2_firstOtherwise_63 (by decide) ?_
            exact J.wk (ihw (hnw (decide_eq_false (fun z => z c54)))) (by simp [lcw])
          · refine j_iload2 (pc := 58) dX2_firstOtherwise_58 ?_
            refine j_iret (pc := 59) dX2_firstOtherwise_59 rfl rfl ?_
            exact hQ _ _ ⟨_, rfl, by rw [fnd_at hf (show foK h A X n = true by unfold foK; rw [fnd_at hfw (show foW h A X n w = true from decide_eq_true c54) 3 hw3]; rfl) r hn]; rfl, rfl⟩
      refine j_iload2 (pc := 2) dX2_firstOtherwise_2 ?_
      refine j_aload0 (pc := 3) dX2_firstOtherwise_3 ?_
      refine g_X2_42 (pc := 4) rfl hA.1 hA.2.2.2.2.2.1.1 dX2_firstOtherwise_4 ?_
      refine g_X2_76 (pc := 7) rfl hA.2.2.2.2.2.1.2.1 dX2_firstOtherwise_7 ?_
      rw [hR]
      refine j_icmpN_ge (pc := 10) (tgt := 72) (by first | decide | omega) (by first | decide | omega) dX2_firstOtherwise_10 (by decide) (fun c10 => by omega) (fun c10 => ?_)
      refine j_iload2 (pc := 13) dX2_firstOtherwise_13 ?_
      refine j_bipush (pc := 14) (v := nI 60) dX2_firstOtherwise_14 (by decide) ?_
      refine j_icmpN_ge (pc := 16) (tgt := 72) (by first | decide | omega) (by first | decide | omega) dX2_firstOtherwise_16 (by decide) (fun c16 => by omega) (fun c16 => ?_)
      refine j_iconst (pc := 19) (v := nI 0) dX2_firstOtherwise_19 (by decide) ?_
      refine j_istore3 (pc := 20) dX2_firstOtherwise_20 (by decide) trivial ?_
      exact L2
  refine j_iconst (pc := 0) (v := nI 0) dX2_firstOtherwise_0 (by decide) ?_
  refine j_istore2 (pc := 1) dX2_firstOtherwise_1 (by decide) trivial ?_
  exact L
theorem rCnt_out {w : Int32} (hw : w.toInt < 0 ∨ 13 < w.toInt) : rCnt h A w = -1 := by
  unfold rCnt
  have hne : ∀ k : Nat, k ≤ 13 → ¬ w = nI k := by
    intro k hk e
    rw [e, nI_toInt (by omega)] at hw
    omega
  rw [if_neg (show ¬ w = 0 from hne 0 (by omega)), if_neg (show ¬ w = 1 from hne 1 (by omega)), if_neg (show ¬ w = 2 from hne 2 (by omega)), if_neg (show ¬ w = 3 from hne 3 (by omega)), if_neg (show ¬ w = 4 from hne 4 (by omega)), if_neg (show ¬ w = 5 from hne 5 (by omega)), if_neg (show ¬ w = 6 from hne 6 (by omega)), if_neg (show ¬ w = 7 from hne 7 (by omega)), if_neg (show ¬ w = 8 from hne 8 (by omega)), if_neg (show ¬ w = 9 from hne 9 (by omega)), if_neg (show ¬ w = 10 from hne 10 (by omega)), if_neg (show ¬ w = 11 from hne 11 (by omega)), if_neg (show ¬ w = 12 from hne 12 (by omega)), if_neg (show ¬ w = 13 from hne 13 (by omega))]
theorem t_countOf {w : Int32} (hA : RSh h.1 A) : DL cx mX2_countOf 4 h [.ref A, .int w] (rCnt h A w) h := by
  have hB := hA.2.2.2.2.2.1.2
  have S : DI cx mX0_countYes 3 h [.ref (A + 5)] (nI (cYes h (A + 5))) h := t_countYes (cx := cx) (h := h) (B := A + 5) hB
  by_cases hw : w.toInt < 0 ∨ 13 < w.toInt
  · rw [rCnt_out hw]
    refine Sp.of 0 (by decide) (Nat.le_of_ble_eq_true rfl) rfl ?_
    refine j_iload1 (pc := 0) dX2_countOf_0 ?_
    refine j_tabOut (tgt := 190) dX2_countOf_1 hw (by decide) ?_
    refine j_ldc2 (pc := 190) dX2_countOf_190 wT_kl_X2_271 ?_
    refine j_lret (pc := 193) dX2_countOf_193 rfl ?_
    exact ⟨_, rfl, rfl, rfl⟩
  · obtain ⟨v, hv, rfl⟩ : ∃ v : Nat, v < 14 ∧ w = nI v := by
      rcases pk_ix w (n := 14) (by decide) with z | z | ⟨j, hj, rfl⟩
      · have := Int32.lt_iff_toInt_lt.mp z
        exact absurd (Or.inl (by rw [show (0 : Int32).toInt = 0 from by decide] at this; omega)) hw
      · have := Int32.le_iff_toInt_le.mp z
        rw [nI_toInt (by decide)] at this
        exact absurd (Or.inr (by omega)) hw
      · exact ⟨j, hj, rfl⟩
    rcases (show v = 0 ∨ v = 1 ∨ v = 2 ∨ v = 3 ∨ v = 4 ∨ v = 5 ∨ v = 6 ∨ v = 7 ∨ v = 8 ∨ v = 9 ∨ v = 10 ∨ v = 11 ∨ v = 12 ∨ v = 13 by omega) with rfl | rfl | rfl | rfl | rfl | rfl | rfl | rfl | rfl | rfl | rfl | rfl | rfl | rfl
    · refine Sp.of 0 (by decide) (Nat.le_of_ble_eq_true rfl) rfl ?_
      refine j_iload1 (pc := 0) dX2_countOf_0 ?_
      refine j_tabIn (off := 71) (tgt := 72) dX2_countOf_1 (by decide) (by decide) (by decide) (by decide) ?_
      refine j_aload0 (pc := 72) dX2_countOf_72 ?_
      refine g_X2_9 (pc := 73) rfl hA.1 dX2_countOf_73 ?_
      refine j_i2l (pc := 76) dX2_countOf_76 ?_
      refine j_lret (pc := 77) dX2_countOf_77 rfl ?_
      exact ⟨_, rfl, rfl, rfl⟩
    · refine Sp.of 0 (by decide) (Nat.le_of_ble_eq_true rfl) rfl ?_
      refine j_iload1 (pc := 0) dX2_countOf_0 ?_
      refine j_tabIn (off := 77) (tgt := 78) dX2_countOf_1 (by decide) (by decide) (by decide) (by decide) ?_
      refine j_aload0 (pc := 78) dX2_countOf_78 ?_
      refine g_X2_15 (pc := 79) rfl hA.1 dX2_countOf_79 ?_
      refine j_lret (pc := 82) dX2_countOf_82 rfl ?_
      exact ⟨_, rfl, rfl, rfl⟩
    · refine Sp.of 0 (by decide) (Nat.le_of_ble_eq_true rfl) rfl ?_
      refine j_iload1 (pc := 0) dX2_countOf_0 ?_
      refine j_tabIn (off := 82) (tgt := 83) dX2_countOf_1 (by decide) (by decide) (by decide) (by decide) ?_
      refine j_aload0 (pc := 83) dX2_countOf_83 ?_
      refine g_X2_19 (pc := 84) rfl hA.1 dX2_countOf_84 ?_
      refine j_lret (pc := 87) dX2_countOf_87 rfl ?_
      exact ⟨_, rfl, rfl, rfl⟩
    · refine Sp.of 0 (by decide) (Nat.le_of_ble_eq_true rfl) rfl ?_
      refine j_iload1 (pc := 0) dX2_countOf_0 ?_
      refine j_tabIn (off := 87) (tgt := 88) dX2_countOf_1 (by decide) (by decide) (by decide) (by decide) ?_
      refine j_aload0 (pc := 88) dX2_countOf_88 ?_
      refine g_X2_42 (pc := 89) rfl hA.1 hA.2.2.2.2.2.1.1 dX2_countOf_89 ?_
      refine g_X2_46 (pc := 92) rfl hA.2.2.2.2.2.1.2.1 dX2_countOf_92 ?_
      refine j_lret (pc := 95) dX2_countOf_95 rfl ?_
      exact ⟨_, rfl, rfl, rfl⟩
    · refine Sp.of 0 (by decide) (Nat.le_of_ble_eq_true rfl) rfl ?_
      refine j_iload1 (pc := 0) dX2_countOf_0 ?_
      refine j_tabIn (off := 95) (tgt := 96) dX2_countOf_1 (by decide) (by decide) (by decide) (by decide) ?_
      refine j_aload0 (pc := 96) dX2_countOf_96 ?_
      refine g_X2_42 (pc := 97) rfl hA.1 hA.2.2.2.2.2.1.1 dX2_countOf_97 ?_
      refine g_X2_85 (pc := 100) rfl hA.2.2.2.2.2.1.2.1 dX2_countOf_100 ?_
      refine j_i2l (pc := 103) dX2_countOf_103 ?_
      refine j_lret (pc := 104) dX2_countOf_104 rfl ?_
      exact ⟨_, rfl, rfl, rfl⟩
    · refine Sp.of 0 (by decide) (Nat.le_of_ble_eq_true rfl) rfl ?_
      refine j_iload1 (pc := 0) dX2_countOf_0 ?_
      refine j_tabIn (off := 104) (tgt := 105) dX2_countOf_1 (by decide) (by decide) (by decide) (by decide) ?_
      refine j_aload0 (pc := 105) dX2_countOf_105 ?_
      refine g_X2_42 (pc := 106) rfl hA.1 hA.2.2.2.2.2.1.1 dX2_countOf_106 ?_
      refine g_X2_76 (pc := 109) rfl hA.2.2.2.2.2.1.2.1 dX2_countOf_109 ?_
      refine j_i2l (pc := 112) dX2_countOf_112 ?_
      refine j_lret (pc := 113) dX2_countOf_113 rfl ?_
      exact ⟨_, rfl, rfl, rfl⟩
    · refine Sp.of 0 (by decide) (Nat.le_of_ble_eq_true rfl) rfl ?_
      refine j_iload1 (pc := 0) dX2_countOf_0 ?_
      refine j_tabIn (off := 113) (tgt := 114) dX2_countOf_1 (by decide) (by decide) (by decide) (by decide) ?_
      refine j_aload0 (pc := 114) dX2_countOf_114 ?_
      refine g_X2_42 (pc := 115) rfl hA.1 hA.2.2.2.2.2.1.1 dX2_countOf_115 ?_
      refine g_X2_82 (pc := 118) rfl hA.2.2.2.2.2.1.2.1 dX2_countOf_118 ?_
      refine j_i2l (pc := 121) dX2_countOf_121 ?_
      refine j_lret (pc := 122) dX2_countOf_122 rfl ?_
      exact ⟨_, rfl, rfl, rfl⟩
    · refine Sp.of 0 (by decide) (Nat.le_of_ble_eq_true rfl) rfl ?_
      refine j_iload1 (pc := 0) dX2_countOf_0 ?_
      refine j_tabIn (off := 122) (tgt := 123) dX2_countOf_1 (by decide) (by decide) (by decide) (by decide) ?_
      refine j_aload0 (pc := 123) dX2_countOf_123 ?_
      refine g_X2_42 (pc := 124) rfl hA.1 hA.2.2.2.2.2.1.1 dX2_countOf_124 ?_
      refine g_X2_157 (pc := 127) rfl hA.2.2.2.2.2.1.2.1 dX2_countOf_127 ?_
      refine j_i2l (pc := 130) dX2_countOf_130 ?_
      refine j_lret (pc := 131) dX2_countOf_131 rfl ?_
      exact ⟨_, rfl, rfl, rfl⟩
    · refine Sp.of 0 (by decide) (Nat.le_of_ble_eq_true rfl) rfl ?_
      refine j_iload1 (pc := 0) dX2_countOf_0 ?_
      refine j_tabIn (off := 131) (tgt := 132) dX2_countOf_1 (by decide) (by decide) (by decide) (by decide) ?_
      refine j_aload0 (pc := 132) dX2_countOf_132 ?_
      refine g_X2_42 (pc := 133) rfl hA.1 hA.2.2.2.2.2.1.1 dX2_countOf_133 ?_
      refine g_X2_65 (pc := 136) rfl hA.2.2.2.2.2.1.2.1 dX2_countOf_136 ?_
      refine j_i2l (pc := 139) dX2_countOf_139 ?_
      refine j_lret (pc := 140) dX2_countOf_140 rfl ?_
      exact ⟨_, rfl, rfl, rfl⟩
    · refine Sp.of 0 (by decide) (Nat.le_of_ble_eq_true rfl) rfl ?_
      refine j_iload1 (pc := 0) dX2_countOf_0 ?_
      refine j_tabIn (off := 140) (tgt := 141) dX2_countOf_1 (by decide) (by decide) (by decide) (by decide) ?_
      refine j_aload0 (pc := 141) dX2_countOf_141 ?_
      refine g_X2_42 (pc := 142) rfl hA.1 hA.2.2.2.2.2.1.1 dX2_countOf_142 ?_
      refine g_X2_205 (pc := 145) rfl hA.2.2.2.2.2.1.2.1 dX2_countOf_145 ?_
      refine j_i2l (pc := 148) dX2_countOf_148 ?_
      refine j_lret (pc := 149) dX2_countOf_149 rfl ?_
      exact ⟨_, rfl, rfl, rfl⟩
    · refine Sp.of 0 (by decide) (Nat.le_of_ble_eq_true rfl) rfl ?_
      refine j_iload1 (pc := 0) dX2_countOf_0 ?_
      refine j_tabIn (off := 149) (tgt := 150) dX2_countOf_1 (by decide) (by decide) (by decide) (by decide) ?_
      refine j_aload0 (pc := 150) dX2_countOf_150 ?_
      refine g_X2_42 (pc := 151) rfl hA.1 hA.2.2.2.2.2.1.1 dX2_countOf_151 ?_
      refine cd_X2_273 (pc := 154) rfl (S) hA.2.2.2.2.2.1.2.1 dX2_countOf_154 rfl rfl ?_
      refine j_i2l (pc := 157) dX2_countOf_157 ?_
      refine j_lret (pc := 158) dX2_countOf_158 rfl ?_
      exact ⟨_, rfl, rfl, rfl⟩
    · refine Sp.of 0 (by decide) (Nat.le_of_ble_eq_true rfl) rfl ?_
      refine j_iload1 (pc := 0) dX2_countOf_0 ?_
      refine j_tabIn (off := 158) (tgt := 159) dX2_countOf_1 (by decide) (by decide) (by decide) (by decide) ?_
      refine j_aload0 (pc := 159) dX2_countOf_159 ?_
      refine g_X2_42 (pc := 160) rfl hA.1 hA.2.2.2.2.2.1.1 dX2_countOf_160 ?_
      refine g_X2_116 (pc := 163) rfl hA.2.2.2.2.2.1.2.1 dX2_countOf_163 ?_
      refine j_i2l (pc := 166) dX2_countOf_166 ?_
      refine j_lret (pc := 167) dX2_countOf_167 rfl ?_
      exact ⟨_, rfl, rfl, rfl⟩
    · refine Sp.of 0 (by decide) (Nat.le_of_ble_eq_true rfl) rfl ?_
      refine j_iload1 (pc := 0) dX2_countOf_0 ?_
      refine j_tabIn (off := 167) (tgt := 168) dX2_countOf_1 (by decide) (by decide) (by decide) (by decide) ?_
      refine j_aload0 (pc := 168) dX2_countOf_168 ?_
      refine g_X2_42 (pc := 169) rfl hA.1 hA.2.2.2.2.2.1.1 dX2_countOf_169 ?_
      refine g_X2_76 (pc := 172) rfl hA.2.2.2.2.2.1.2.1 dX2_countOf_172 ?_
      refine j_aload0 (pc := 175) dX2_countOf_175 ?_
      refine g_X2_79 (pc := 176) rfl hA.1 dX2_countOf_176 ?_
      refine j_isub (pc := 179) dX2_countOf_179 ?_
      refine j_i2l (pc := 180) dX2_countOf_180 ?_
      refine j_lret (pc := 181) dX2_countOf_181 rfl ?_
      exact ⟨_, rfl, rfl, rfl⟩
    · refine Sp.of 0 (by decide) (Nat.le_of_ble_eq_true rfl) rfl ?_
      refine j_iload1 (pc := 0) dX2_countOf_0 ?_
      refine j_tabIn (off := 181) (tgt := 182) dX2_countOf_1 (by decide) (by decide) (by decide) (by decide) ?_
      refine j_aload0 (pc := 182) dX2_countOf_182 ?_
      refine g_X2_42 (pc := 183) rfl hA.1 hA.2.2.2.2.2.1.1 dX2_countOf_183 ?_
      refine g_X2_188 (pc := 186) rfl hA.2.2.2.2.2.1.2.1 dX2_countOf_186 ?_
      refine j_lret (pc := 189) dX2_countOf_189 rfl ?_
      exact ⟨_, rfl, rfl, rfl⟩
end

