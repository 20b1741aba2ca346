/-! the class: a stop and a book copied -/
def cpS (P p : Nat) (h : Hp) : Hp := cpL P p 4 (cpL P p 3 (cpL P p 2 (cpI P p 1 (cpI P p 0 h))))
def cpH (B b : Nat) (h : Hp) : Hp := cpL B b 9 (cpL B b 8 (cpI B b 7 (cpI B b 6 (cpI B b 5 (cpI B b 4 (cpI B b 3 (cpI B b 2 (cpI B b 1 h))))))))
def cpR (B b i : Nat) (h : Hp) : Hp := cpP (B + 2 + i) (b + 2 + i) h
def cpBk (B b : Nat) (h : Hp) : Hp := cpH B b (itr (cpR B b) 60 h)
theorem cpI_q {P p k q j : Nat} {h : Hp} (hne : q ≠ P) : (cpI P p k h).i q j = h.i q j := by simp [cpI, Hp.setI, Hp.i, up2, hne]
theorem cpP_i {P p q j : Nat} {h : Hp} (hne : q ≠ P) : (cpP P p h).i q j = h.i q j := by simp only [cpP, cpC, cpB, cpA, cpL_i, cpI_q hne]
theorem cpI_sh {P p k : Nat} {h : Hp} : (cpI P p k h).1 = h.1 := rfl
theorem cpL_sh {P p k : Nat} {h : Hp} : (cpL P p k h).1 = h.1 := rfl
theorem cpP_sh {P p : Nat} {h : Hp} : (cpP P p h).1 = h.1 := by simp only [cpP, cpC, cpB, cpA, cpL_sh, cpI_sh]
theorem cpR_i {B b q : Nat} {h : Hp} (hne : ∀ i, i < 60 → q ≠ B + 2 + i) : ∀ n, n ≤ 60 → ∀ j, (itr (cpR B b) n h).i q j = h.i q j := by
  intro n
  induction n with
  | zero => intro _ _; rfl
  | succ n ih =>
    intro hn j
    show (cpR B b n (itr (cpR B b) n h)).i q j = h.i q j
    unfold cpR
    rw [cpP_i (hne n (by omega))]
    exact ih (by omega) j
section
variable {cx : Cx} {h : Hp} {B b P p : Nat}
theorem t_init3 (hk : h.kd P = kObj 3) : DV cx mX3_init 1 h [.ref P] h := by
  refine Sp.of 0 (by decide) (Nat.le_of_ble_eq_true rfl) rfl ?_
  refine j_aload0 (pc := 0) dX3_init_0 ?_
  refine ob_X3_1 (pc := 1) rfl (by decide) rfl dX3_init_1 ?_
  refine j_vret (pc := 4) dX3_init_4 rfl ?_
  exact ⟨rfl, rfl⟩
theorem t_copyFrom3 (hk : h.kd P = kObj 3) (hp : h.kd p = kObj 3) : DV cx mX3_copyFrom 0 h [.ref P, .ref p] (cpS P p h) := by
  refine Sp.of 0 (by decide) (Nat.le_of_ble_eq_true rfl) rfl ?_
  refine j_aload0 (pc := 0) dX3_copyFrom_0 ?_
  refine j_aload1 (pc := 1) dX3_copyFrom_1 ?_
  refine g_X3_7 (pc := 2) rfl hp dX3_copyFrom_2 ?_
  refine p_X3_7 (pc := 5) rfl hk dX3_copyFrom_5 ?_
  refine j_aload0 (pc := 8) dX3_copyFrom_8 ?_
  refine j_aload1 (pc := 9) dX3_copyFrom_9 ?_
  refine g_X3_13 (pc := 10) rfl hp dX3_copyFrom_10 ?_
  refine p_X3_13 (pc := 13) rfl hk dX3_copyFrom_13 ?_
  refine j_aload0 (pc := 16) dX3_copyFrom_16 ?_
  refine j_aload1 (pc := 17) dX3_copyFrom_17 ?_
  refine g_X3_16 (pc := 18) rfl hp dX3_copyFrom_18 ?_
  refine p_X3_16 (pc := 21) rfl hk dX3_copyFrom_21 ?_
  refine j_aload0 (pc := 24) dX3_copyFrom_24 ?_
  refine j_aload1 (pc := 25) dX3_copyFrom_25 ?_
  refine g_X3_20 (pc := 26) rfl hp dX3_copyFrom_26 ?_
  refine p_X3_20 (pc := 29) rfl hk dX3_copyFrom_29 ?_
  refine j_aload0 (pc := 32) dX3_copyFrom_32 ?_
  refine j_aload1 (pc := 33) dX3_copyFrom_33 ?_
  refine g_X3_23 (pc := 34) rfl hp dX3_copyFrom_34 ?_
  refine p_X3_23 (pc := 37) rfl hk dX3_copyFrom_37 ?_
  refine j_vret (pc := 40) dX3_copyFrom_40 rfl ?_
  exact ⟨rfl, rfl⟩
theorem t_copyFrom0 (hB : BSh h.1 B) (hb : BSh h.1 b) (hd : B + 62 ≤ b ∨ b + 62 ≤ B) (hpl : ∀ i, i < 60 → plB h (b + 2 + i)) : DV cx mX0_copyFrom 1 h [.ref B, .ref b] (cpBk B b h) := by
  refine Sp.ofQ 1 (by decide) (Nat.le_of_ble_eq_true rfl) rfl (fun Q hQ => ?_)
  unfold cpBk at hQ
  have L : ∀ N, N = 60 → J cx mX0_copyFrom (Rm 1 0 0) h 2 [some (.ref B), some (.ref b), some (.int (nI 0))] [] 0 0 Q := by
    intro N hN
    rw [← hN] at hQ
    have hBn : ∀ n, (itr (cpR B b) n h).1 = h.1 := fun n => itr_keep (step := cpR B b) (fun y : Hp => y.1) (fun _ _ => cpP_sh) h n
    refine dn (P := fun n => J cx mX0_copyFrom (Rm 1 0 0) (itr (cpR B b) n h) 2 [some (.ref B), some (.ref b), some (.int (nI n))] [] 0 0 Q) N ?_ ?_
    · have hB : BSh (itr (cpR B b) N h).1 B := by rw [hBn]; exact hB
      have hb : BSh (itr (cpR B b) N h).1 b := by rw [hBn]; exact hb
      generalize itr (cpR B b) N h = h2 at hB hb hQ
      refine j_iload2 (pc := 2) dX0_copyFrom_2 ?_
      refine j_bipush (pc := 3) (v := nI 60) dX0_copyFrom_3 (by decide) ?_
      refine j_icmpN_ge (pc := 5) (tgt := 29) (by first | decide | omega) (by first | decide | omega) dX0_copyFrom_5 (by decide) (fun c5 => ?_) (fun c5 => by omega)
      refine j_aload0 (pc := 29) dX0_copyFrom_29 ?_
      refine j_aload1 (pc := 30) dX0_copyFrom_30 ?_
      refine g_X0_29 (pc := 31) rfl hb.1 dX0_copyFrom_31 ?_
      refine p_X0_29 (pc := 34) rfl hB.1 dX0_copyFrom_34 ?_
      show J cx mX0_copyFrom _ (cpI B b 1 h2) _ _ _ _ _ _
      refine j_aload0 (pc := 37) dX0_copyFrom_37 ?_
      refine j_aload1 (pc := 38) dX0_copyFrom_38 ?_
      refine g_X0_32 (pc := 39) rfl hb.1 dX0_copyFrom_39 ?_
      refine p_X0_32 (pc := 42) rfl hB.1 dX0_copyFrom_42 ?_
      show J cx mX0_copyFrom _ (cpI B b 2 (cpI B b 1 h2)) _ _ _ _ _ _
      refine j_aload0 (pc := 45) dX0_copyFrom_45 ?_
      refine j_aload1 (pc := 46) dX0_copyFrom_46 ?_
      refine g_X0_35 (pc := 47) rfl hb.1 dX0_copyFrom_47 ?_
      refine p_X0_35 (pc := 50) rfl hB.1 dX0_copyFrom_50 ?_
      show J cx mX0_copyFrom _ (cpI B b 3 (cpI B b 2 (cpI B b 1 h2))) _ _ _ _ _ _
      refine j_aload0 (pc := 53) dX0_copyFrom_53 ?_
      refine j_aload1 (pc := 54) dX0_copyFrom_54 ?_
      refine g_X0_18 (pc := 55) rfl hb.1 dX0_copyFrom_55 ?_
      refine p_X0_18 (pc := 58) rfl hB.1 dX0_copyFrom_58 ?_
      show J cx mX0_copyFrom _ (cpI B b 4 (cpI B b 3 (cpI B b 2 (cpI B b 1 h2)))) _ _ _ _ _ _
      refine j_aload0 (pc := 61) dX0_copyFrom_61 ?_
      refine j_aload1 (pc := 62) dX0_copyFrom_62 ?_
      refine g_X0_22 (pc := 63) rfl hb.1 dX0_copyFrom_63 ?_
      refine p_X0_22 (pc := 66) rfl hB.1 dX0_copyFrom_66 ?_
      show J cx mX0_copyFrom _ (cpI B b 5 (cpI B b 4 (cpI B b 3 (cpI B b 2 (cpI B b 1 h2))))) _ _ _ _ _ _
      refine j_aload0 (pc := 69) dX0_copyFrom_69 ?_
      refine j_aload1 (pc := 70) dX0_copyFrom_70 ?_
      refine g_X0_38 (pc := 71) rfl hb.1 dX0_copyFrom_71 ?_
      refine p_X0_38 (pc := 74) rfl hB.1 dX0_copyFrom_74 ?_
      show J cx mX0_copyFrom _ (cpI B b 6 (cpI B b 5 (cpI B b 4 (cpI B b 3 (cpI B b 2 (cpI B b 1 h2)))))) _ _ _ _ _ _
      refine j_aload0 (pc := 77) dX0_copyFrom_77 ?_
      refine j_aload1 (pc := 78) dX0_copyFrom_78 ?_
      refine g_X0_41 (pc := 79) rfl hb.1 dX0_copyFrom_79 ?_
      refine p_X0_41 (pc := 82) rfl hB.1 dX0_copyFrom_82 ?_
      show J cx mX0_copyFrom _ (cpI B b 7 (cpI B b 6 (cpI B b 5 (cpI B b 4 (cpI B b 3 (cpI B b 2 (cpI B b 1 h2))))))) _ _ _ _ _ _
      refine j_aload0 (pc := 85) dX0_copyFrom_85 ?_
      refine j_aload1 (pc := 86) dX0_copyFrom_86 ?_
      refine g_X0_44 (pc := 87) rfl hb.1 dX0_copyFrom_87 ?_
      refine p_X0_44 (pc := 90) rfl hB.1 dX0_copyFrom_90 ?_
      show J cx mX0_copyFrom _ (cpL B b 8 (cpI B b 7 (cpI B b 6 (cpI B b 5 (cpI B b 4 (cpI B b 3 (cpI B b 2 (cpI B b 1 h2)))))))) _ _ _ _ _ _
      refine j_aload0 (pc := 93) dX0_copyFrom_93 ?_
      refine j_aload1 (pc := 94) dX0_copyFrom_94 ?_
      refine g_X0_48 (pc := 95) rfl hb.1 dX0_copyFrom_95 ?_
      refine p_X0_48 (pc := 98) rfl hB.1 dX0_copyFrom_98 ?_
      show J cx mX0_copyFrom _ (cpL B b 9 (cpL B b 8 (cpI B b 7 (cpI B b 6 (cpI B b 5 (cpI B b 4 (cpI B b 3 (cpI B b 2 (cpI B b 1 h2))))))))) _ _ _ _ _ _
      refine j_vret (pc := 101) dX0_copyFrom_101 rfl ?_
      exact hQ _ _ ⟨rfl, rfl⟩
    · intro n hn ih
      have hn6 : n < 60 := by omega
      have ih : J cx mX0_copyFrom (Rm 1 0 0) (cpP (B + 2 + n) (b + 2 + n) (itr (cpR B b) n h)) 2 [some (.ref B), some (.ref b), some (.int (nI (n + 1)))] [] 0 0 Q := ih
      have hpl : plB (itr (cpR B b) n h) (b + 2 + n) := by
        have := hpl n hn6
        unfold plB at this ⊢
        have z := cpR_i (B := B) (b := b) (q := b + 2 + n) (h := h) (fun i hi => by omega) n (by omega)
        rw [z, z, z, z, z, z]
        exact this
      have hB : BSh (itr (cpR B b) n h).1 B := by rw [hBn]; exact hB
      have hb : BSh (itr (cpR B b) n h).1 b := by rw [hBn]; exact hb
      generalize itr (cpR B b) n h = h2 at hB hb ih hpl
      have hp := (hB.2.2.2 n hn6).2
      have hp2 := (hb.2.2.2 n hn6).2
      refine j_iload2 (pc := 2) dX0_copyFrom_2 ?_
      refine j_bipush (pc := 3) (v := nI 60) dX0_copyFrom_3 (by decide) ?_
      refine j_icmpN_ge (pc := 5) (tgt := 29) (by first | decide | omega) (by first | decide | omega) dX0_copyFrom_5 (by decide) (fun c5 => by omega) (fun c5 => ?_)
      refine j_aload0 (pc := 8) dX0_copyFrom_8 ?_
      refine g_X0_11 (pc := 9) rfl hB.1 hB.2.1 dX0_copyFrom_9 ?_
      refine j_iload2 (pc := 12) dX0_copyFrom_12 ?_
      refine j_aald (pc := 13) (by decide) hB.2.2.1 (pk_in n 60 hn6 rfl) (hB.r hn6) dX0_copyFrom_13 ?_
      refine j_aload1 (pc := 14) dX0_copyFrom_14 ?_
      refine g_X0_11 (pc := 15) rfl hb.1 hb.2.1 dX0_copyFrom_15 ?_
      refine j_iload2 (pc := 18) dX0_copyFrom_18 ?_
      refine j_aald (pc := 19) (by decide) hb.2.2.1 (pk_in n 60 hn6 rfl) (hb.r hn6) dX0_copyFrom_19 ?_
      refine cd_X0_25 (pc := 20) rfl (t_copyFrom1 hp hp2 (by omega) hpl) hp dX0_copyFrom_20 rfl rfl ?_
      refine j_iincN2 (pc := 23) dX0_copyFrom_23 (by decide) trivial ?_
      refine j_goto (pc := 26) (tgt := 2) dX0_copyFrom_26 (by decide) ?_
      exact J.wk ih (by simp [lcw])
  refine j_iconst (pc := 0) (v := nI 0) dX0_copyFrom_0 (by decide) ?_
  refine j_istore2 (pc := 1) dX0_copyFrom_1 (by decide) trivial ?_
  exact L 60 rfl
end

