/-! the class: a new book -/
def bkS (B i : Nat) (g : Hp) : Hp := ((g.new (10 + 1) 0).setI (B + 2 + i) 2 (-1)).setR (B + 1) i (some (B + 2 + i))
def bk0 (h : Hp) (B : Nat) : Hp := (h.new (3 + 1) 60).setR B 0 (some (B + 1))
def bkN (h : Hp) (B : Nat) : Hp := ((itr (bkS B) 60 (bk0 h B)).setI B 4 (-1)).setI B 5 (-1)
def BI (s : Sh) (B n : Nat) : Prop := s.1 = B + 2 + n ∧ s.2.1 B = kObj 0 ∧ s.2.2 B 0 = some (B + 1) ∧ s.2.1 (B + 1) = kRefs 1 60 ∧ ∀ i, i < n → s.2.2 (B + 1) i = some (B + 2 + i) ∧ s.2.1 (B + 2 + i) = kObj 1
theorem BI.step {g : Hp} {B n : Nat} (q : BI g.1 B n) : BI (bkS B n g).1 B (n + 1) := by
  obtain ⟨q1, q2, q3, q4, q5⟩ := q
  have q1 : g.n = B + 2 + n := q1
  refine ⟨?_, ?_, ?_, ?_, fun i hi => ⟨?_, ?_⟩⟩
  · show g.n + 1 = B + 2 + (n + 1)
    omega
  · exact (if_neg (show ¬ B = g.n by omega)).trans q2
  · show up2 (fun a k => if a = g.n then none else g.r a k) (B + 1) n (some (B + 2 + n)) B 0 = some (B + 1)
    rw [up2_a _ _ (by omega)]
    exact (if_neg (show ¬ B = g.n by omega)).trans q3
  · exact (if_neg (show ¬ B + 1 = g.n by omega)).trans q4
  · show up2 (fun a k => if a = g.n then none else g.r a k) (B + 1) n (some (B + 2 + n)) (B + 1) i = some (B + 2 + i)
    by_cases e : i = n
    · rw [e, up2_s]
    · have : up2 (fun a k => if a = g.n then none else g.r a k) (B + 1) n (some (B + 2 + n)) (B + 1) i = (if B + 1 = g.n then none else g.r (B + 1) i) := by simp [up2, e]
      rw [this, if_neg (show ¬ B + 1 = g.n by omega)]
      exact (q5 i (by omega)).1
  · show (if B + 2 + i = g.n then (10 + 1, 0) else g.kd (B + 2 + i)) = kObj 1
    by_cases e : i = n
    · exact if_pos (by omega)
    · rw [if_neg (by omega)]
      exact (q5 i (by omega)).2
theorem BI.zero {h : Hp} {B : Nat} (hk : h.kd B = kObj 0) (hn : h.n = B + 1) : BI (bk0 h B).1 B 0 := by
  refine ⟨?_, ?_, ?_, ?_, fun i hi => absurd hi (Nat.not_lt_zero _)⟩
  · show h.n + 1 = B + 2 + 0
    omega
  · exact (if_neg (show ¬ B = h.n by omega)).trans hk
  · exact up2_s _ _ _ _
  · exact if_pos hn.symm
theorem BI.all {h : Hp} {B : Nat} (hk : h.kd B = kObj 0) (hn : h.n = B + 1) : ∀ n, BI (itr (bkS B) n (bk0 h B)).1 B n := by
  intro n
  induction n with
  | zero => exact BI.zero hk hn
  | succ n ih => exact BI.step ih
theorem bkN_sh {h : Hp} {B : Nat} (hk : h.kd B = kObj 0) (hn : h.n = B + 1) : BSh (bkN h B).1 B := by
  have q := BI.all hk hn 60
  unfold bkN
  generalize itr (bkS B) 60 (bk0 h B) = g at q
  exact ⟨q.2.1, q.2.2.1, q.2.2.2.1, q.2.2.2.2⟩
section
variable {cx : Cx} {h : Hp} {B : Nat}
theorem t_init0 (hk : h.kd B = kObj 0) (hn : h.n = B + 1) : Sp cx mX0_init 2 61 1140 h [.ref B] (Rv fun g => g = bkN h B) := by
  refine Sp.ofQ 1 (by decide) (Nat.le_of_ble_eq_true rfl) rfl (fun Q hQ => ?_)
  unfold bkN at hQ
  have hka : (h.new (3 + 1) 60).kd B = kObj 0 := (new_kd (by omega)).trans hk
  have L : ∀ N, N = 60 → J cx mX0_init (Rm 2 61 1140) (bk0 h B) 15 [some (.ref B), some (.int (nI 0))] [] (N - 0) ((N - 0) * 18) Q := by
    intro N hN
    rw [← hN] at hQ
    refine dn (P := fun n => J cx mX0_init (Rm 2 61 1140) (itr (bkS B) n (bk0 h B)) 15 [some (.ref B), some (.int (nI n))] [] (N - n) ((N - n) * 18) Q) N ?_ ?_
    · have hB := BI.all hk hn N
      generalize itr (bkS B) N (bk0 h B) = h2 at hB hQ
      refine j_iload1 (pc := 15) dX0_init_15 ?_
      refine j_bipush (pc := 16) (v := nI 60) dX0_init_16 (by decide) ?_
      refine j_icmpN_ge (pc := 18) (tgt := 40) (by first | decide | omega) (by first | decide | omega) dX0_init_18 (by decide) (fun c18 => ?_) (fun c18 => by omega)
      refine j_aload0 (pc := 40) dX0_init_40 ?_
      refine j_iconst (pc := 41) (v := (-1)) dX0_init_41 (by decide) ?_
      refine p_X0_18 (pc := 42) rfl hB.2.1 dX0_init_42 ?_
      refine j_aload0 (pc := 45) dX0_init_45 ?_
      refine j_iconst (pc := 46) (v := (-1)) dX0_init_46 (by decide) ?_
      refine p_X0_22 (pc := 47) rfl hB.2.1 dX0_init_47 ?_
      refine j_vret (pc := 50) dX0_init_50 rfl ?_
      exact hQ _ _ ⟨rfl, rfl⟩
    · intro n hlt ih
      have hn6 : n < 60 := by omega
      have ih : J cx mX0_init (Rm 2 61 1140) (bkS B n (itr (bkS B) n (bk0 h B))) 15 [some (.ref B), some (.int (nI (n + 1)))] [] (N - (n + 1)) ((N - (n + 1)) * 18) Q := ih
      have hB := BI.all hk hn n
      generalize itr (bkS B) n (bk0 h B) = h2 at hB ih
      have hnn : h2.n = B + 2 + n := hB.1
      have hp : (h2.new (10 + 1) 0).kd (B + 2 + n) = kObj 1 := by rw [← hnn]; exact new_kn
      have hs : (h2.new (10 + 1) 0).kd (B + 1) = kRefs 1 60 := (new_kd (by omega)).trans hB.2.2.2.1
      have e1 : N - n = (N - (n + 1)) + 1 := by omega
      have e2 : (N - n) * 18 = (N - (n + 1)) * 18 + nC 1 := by show _ = _ + 18; omega
      rw [e2, e1]
      unfold bkS at ih
      rw [show (some (B + 2 + n)) = some (B + 2 + n) from rfl] at ih
      have ih2 := ih
      rw [show ((h2.new (10 + 1) 0).setI (B + 2 + n) 2 (-1)).setR (B + 1) n (some (B + 2 + n)) = ((h2.new (10 + 1) 0).setI (B + 2 + n) 2 (-1)).setR (B + 1) (nI n).toNatClampNeg (some (B + 2 + n)) by rw [nI_clamp (by omega)]] at ih2
      refine j_iload1 (pc := 15) dX0_init_15 ?_
      refine j_bipush (pc := 16) (v := nI 60) dX0_init_16 (by decide) ?_
      refine j_icmpN_ge (pc := 18) (tgt := 40) (by first | decide | omega) (by first | decide | omega) dX0_init_18 (by decide) (fun c18 => by omega) (fun c18 => ?_)
      refine j_aload0 (pc := 21) dX0_init_21 ?_
      refine g_X0_11 (pc := 22) rfl hB.2.1 hB.2.2.1 dX0_init_22 ?_
      refine j_iload1 (pc := 25) dX0_init_25 ?_
      refine j_new 1 cls_1 (by decide) wT_cl_X0_9 wT_ins_X1 wT_ini_X1 dX0_init_26 ?_
      rw [hnn]
      refine j_dup (pc := 29) dX0_init_29 ?_
      refine cd_X0_17 (pc := 30) rfl (t_init1 hp) dX0_init_30 rfl rfl ?_
      refine j_aast (pc := 33) (by decide) cls_1 hs hp (pk_in n 60 hn6 rfl) dX0_init_33 ?_
      refine j_iincN1 (pc := 34) dX0_init_34 (by decide) trivial ?_
      refine j_goto (pc := 37) (tgt := 15) dX0_init_37 (by decide) ?_
      exact J.wk ih2 (by simp [lcw])
  refine j_aload0 (pc := 0) dX0_init_0 ?_
  refine ob_X0_3 (pc := 1) rfl (by decide) rfl dX0_init_1 ?_
  refine j_aload0 (pc := 4) dX0_init_4 ?_
  refine j_bipush (pc := 5) (v := 60) dX0_init_5 (by decide) ?_
  refine j_newR 1 (N := 60) (by decide) (by decide) (by decide) (by decide) wT_cl_X0_9 dX0_init_7 ?_
  rw [hn]
  refine p_X0_11 (pc := 10) rfl hka rfl dX0_init_10 ?_
  refine j_iconst (pc := 13) (v := nI 0) dX0_init_13 (by decide) ?_
  refine j_istore1 (pc := 14) dX0_init_14 (by decide) trivial ?_
  exact L 60 rfl
end

