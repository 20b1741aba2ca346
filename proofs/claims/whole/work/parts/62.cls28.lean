/-! the class: a place that stops; what is told of the stops -/
def st0 (h : Hp) (p : Nat) : Hp := ((pBack h p).setL p 16 0).setI p 17 0
def st1 (g : Hp) (A : Nat) (s : Int32) : Hp := if g.i (A + 5) 5 = s then g.setI (A + 5) 5 (-1) else g
def st3 (g : Hp) (p : Nat) : Hp := pDep (((g.setI p 4 1).setI p 5 0).setL p 6 0) p
def rStop (h : Hp) (A : Nat) (s : Int32) (c : Nat) : Int32 × Hp := if h.i (A + 5) 1 = 1 then (match bPl h (A + 5) s with | none => (3, h) | some p => if h.i p 4 = 0 then (0, st3 (rKS (st1 (st0 h p) A s) A p c s) p) else (10, h)) else (2, h)
theorem bPl_at {h : Hp} {B p : Nat} {s : Int32} (hm : bPl h B s = some p) : ∃ n, n < 60 ∧ s = nI n ∧ p = B + 2 + n ∧ pMem h p = true := by
  unfold bPl bMem at hm
  split at hm
  · cases hm
  · rcases sN_cases s with ⟨hso, hsn⟩ | ⟨n, hn, hs, hso⟩ <;> rw [hso] at hm
    · cases hm
    · dsimp only at hm
      split at hm
      · cases hm
        exact ⟨n, hn, hs, rfl, by assumption⟩
      · cases hm
theorem st0_eq {h : Hp} {p x : Nat} (hx : x ≠ p) : Eq1 h (st0 h p) x := ((pBack_eq hx).trans (Eq1.setL hx)).trans (Eq1.setI hx)
theorem st1_sh {g : Hp} {A : Nat} {s : Int32} : (st1 g A s).1 = g.1 := by
  unfold st1
  split <;> rfl
theorem st1_eq {g : Hp} {A x : Nat} {s : Int32} (hx : x ≠ A + 5) : Eq1 g (st1 g A s) x := by
  unfold st1
  split
  · exact Eq1.setI hx
  · exact Eq1.refl
theorem st1_7 {g : Hp} {A k : Nat} {s : Int32} (hk : k ≠ 5) : (st1 g A s).i (A + 5) k = g.i (A + 5) k := by
  unfold st1
  split
  · exact up2_k _ _ hk
  · rfl
theorem ksT_eq {g : Hp} {A p q c x : Nat} {s : Int32} (hx : x ≠ q) (h4 : x ≠ A + 4) (h5 : x ≠ A + 5) : Eq1 g (ksT g A p q c s) x := by
  unfold ksT
  exact (((((Eq1.setI hx).trans (Eq1.setI hx)).trans (Eq1.setL hx)).trans ((Eq1.setL hx).trans (Eq1.setL hx))).trans ((Eq1.setR h4).trans (Eq1.setI h5)))
theorem ksT_kd {g : Hp} {A p q c : Nat} {s : Int32} : (ksT g A p q c s).kd = g.kd := rfl
theorem rKS_eq {h : Hp} {A p c x : Nat} {s : Int32} (hx : x < h.n) (hq : ∀ q, h.r (A + 4) c = some q → x ≠ q) (h4 : x ≠ A + 4) (h5 : x ≠ A + 5) : Eq1 h (rKS h A p c s) x := by
  unfold rKS
  cases hm : h.r (A + 4) c with
  | none => exact (Eq1.new (by omega)).trans (ksT_eq (by omega) h4 h5)
  | some q => exact ksT_eq (hq q hm) h4 h5
section
variable {cx : Cx} {h : Hp} {A : Nat}
theorem t_stopPlace {c : Nat} {s : Int32} (hA : RSh h.1 A) (hC : h.i (A + 5) 7 = nI c) (hc : c < 512) (hlt : A + 68 ≤ h.n) (hst : ∀ q, h.r (A + 4) c = some q → h.kd q = kObj 3 ∧ (q < A ∨ A + 68 ≤ q)) : Sp cx mX2_stopPlace 3 1 5 h [.ref A, .int s] (Ri fun y g => y = (rStop h A s c).1 ∧ g = (rStop h A s c).2) := by
  have hB := hA.2.2.2.2.2.1.2
  have S := t_placeAt (cx := cx) (h := h) (B := A + 5) (s := s) hB
  unfold rStop
  cases hm : bPl h (A + 5) s with
  | none =>
    rw [hm] at S
    dsimp only
    refine Sp.of 1 (by decide) (Nat.le_of_ble_eq_true rfl) rfl ?_
    refine j_aload0 (pc := 0) dX2_stopPlace_0 ?_
    refine g_X2_42 (pc := 1) rfl hA.1 hA.2.2.2.2.2.1.1 dX2_stopPlace_1 ?_
    refine g_X2_85 (pc := 4) rfl hA.2.2.2.2.2.1.2.1 dX2_stopPlace_4 ?_
    refine j_iconst (pc := 7) (v := 1) dX2_stopPlace_7 (by decide) ?_
    refine j_icmp_eq (pc := 8) (tgt := 13) dX2_stopPlace_8 (by decide) (fun c8 => ?_) (fun c8 => ?_)
    · refine j_aload0 (pc := 13) dX2_stopPlace_13 ?_
      refine g_X2_42 (pc := 14) rfl hA.1 hA.2.2.2.2.2.1.1 dX2_stopPlace_14 ?_
      refine j_iload1 (pc := 17) dX2_stopPlace_17 ?_
      refine cd_X2_138 (pc := 18) rfl (S) hA.2.2.2.2.2.1.2.1 dX2_stopPlace_18 rfl rfl ?_
      refine j_rn ?_
      refine j_nstore2 (pc := 21) dX2_stopPlace_21 (by decide) trivial ?_
      refine j_nload2 (pc := 22) dX2_stopPlace_22 ?_
      refine j_ifnonnullN (pc := 23) dX2_stopPlace_23 ?_
      refine j_iconst (pc := 26) (v := 3) dX2_stopPlace_26 (by decide) ?_
      refine j_iret (pc := 27) dX2_stopPlace_27 rfl rfl ?_
      exact ⟨_, rfl, by rw [if_pos c8], by rw [if_pos c8]⟩
    · refine j_iconst (pc := 11) (v := 2) dX2_stopPlace_11 (by decide) ?_
      refine j_iret (pc := 12) dX2_stopPlace_12 rfl rfl ?_
      exact ⟨_, rfl, by rw [if_neg c8], by rw [if_neg c8]⟩
  | some p =>
    rw [hm] at S
    dsimp only
    obtain ⟨n, hn, hsn, hpn, -⟩ := bPl_at hm
    have hp := bPl_kd hB hm
    refine Sp.ofQ 1 (by decide) (Nat.le_of_ble_eq_true rfl) rfl (fun Q hQ => ?_)
    have L : h.i (A + 5) 1 = 1 → h.i p 4 = 0 → J cx mX2_stopPlace (Rm 3 1 5) (st1 (st0 h p) A s) 87 [some (.ref A), some (.int s), some (.ref p)] [] 1 5 Q := by
      intro h1 h2
      rw [if_pos h1, if_pos h2] at hQ
      have e1 : (st1 (st0 h p) A s).1 = h.1 := st1_sh
      have hC1 : (st1 (st0 h p) A s).i (A + 5) 7 = nI c := (st1_7 (by decide)).trans (((st0_eq (by omega)).2.2.1 7).trans hC)
      generalize st1 (st0 h p) A s = g at e1 hC1 hQ ⊢
      have hA1 : RSh g.1 A := by rw [e1]; exact hA
      have hp1 : g.kd p = kObj 1 := by show g.1.2.1 p = _; rw [e1]; exact hp
      have hn1 : g.n = h.n := by show g.1.1 = _; rw [e1]
      have hst1 : ∀ q, g.r (A + 4) c = some q → g.kd q = kObj 3 ∧ (q < A ∨ A + 68 ≤ q) := fun q hq => by
        have z := hst q (by rw [← hq]; show _ = g.1.2.2 _ _; rw [e1])
        exact ⟨by show g.1.2.1 q = _; rw [e1]; exact z.1, z.2⟩
      have S2 := t_keepStop (cx := cx) (s := s) hA1 hp1 hC1 hc (by omega) (by omega) hst1
      have hp2 : (rKS g A p c s).kd p = kObj 1 := (rKS_eq (h := g) (A := A) (p := p) (c := c) (s := s) (x := p) (by omega) (fun q hq => by have := (hst1 q hq).2; omega) (by omega) (by omega)).1.trans hp1
      have hA := hA1
      refine j_aload0 (pc := 87) dX2_stopPlace_87 ?_
      refine j_iload1 (pc := 88) dX2_stopPlace_88 ?_
      refine j_aload2 (pc := 89) dX2_stopPlace_89 ?_
      refine cs_X2_308 (pc := 90) rfl (S2) hA.1 dX2_stopPlace_90 rfl rfl (by decide) (by decide) (fun h' q => ?_)
      rw [q]
      clear q S2
      generalize rKS g A p c s = g2 at hp2 hQ ⊢
      refine j_aload2 (pc := 93) dX2_stopPlace_93 ?_
      refine j_iconst (pc := 94) (v := 1) dX2_stopPlace_94 (by decide) ?_
      refine p_X2_141' (pc := 95) rfl hp2 (by decide) dX2_stopPlace_95 ?_
      refine j_aload2 (pc := 98) dX2_stopPlace_98 ?_
      refine j_iconst (pc := 99) (v := 0) dX2_stopPlace_99 (by decide) ?_
      refine p_X2_134' (pc := 100) rfl hp2 (by decide) dX2_stopPlace_100 ?_
      refine j_aload2 (pc := 103) dX2_stopPlace_103 ?_
      refine j_lconst (pc := 104) (v := 0) dX2_stopPlace_104 (by decide) ?_
      refine p_X2_185 (pc := 105) rfl hp2 dX2_stopPlace_105 ?_
      refine j_aload2 (pc := 108) dX2_stopPlace_108 ?_
      refine cd_X2_312 (pc := 109) rfl (t_takeDepositBack (h := ((g2.setI p 4 1).setI p 5 0).setL p 6 0) hp2) hp2 dX2_stopPlace_109 rfl rfl ?_
      show J cx mX2_stopPlace _ (st3 g2 p) _ _ _ _ _ _
      refine j_iconst (pc := 112) (v := 0) dX2_stopPlace_112 (by decide) ?_
      refine j_iret (pc := 113) dX2_stopPlace_113 rfl rfl ?_
      exact hQ _ _ ⟨_, rfl, rfl, rfl⟩
    have hC0 : (st0 h p).i (A + 5) 7 = nI c := ((st0_eq (by omega)).2.2.1 7).trans hC
    have S3 := t_takeCellBack (cx := cx) hp
    refine j_aload0 (pc := 0) dX2_stopPlace_0 ?_
    refine g_X2_42 (pc := 1) rfl hA.1 hA.2.2.2.2.2.1.1 dX2_stopPlace_1 ?_
    refine g_X2_85 (pc := 4) rfl hA.2.2.2.2.2.1.2.1 dX2_stopPlace_4 ?_
    refine j_iconst (pc := 7) (v := 1) dX2_stopPlace_7 (by decide) ?_
    refine j_icmp_eq (pc := 8) (tgt := 13) dX2_stopPlace_8 (by decide) (fun c8 => ?_) (fun c8 => ?_)
    · refine j_aload0 (pc := 13) dX2_stopPlace_13 ?_
      refine g_X2_42 (pc := 14) rfl hA.1 hA.2.2.2.2.2.1.1 dX2_stopPlace_14 ?_
      refine j_iload1 (pc := 17) dX2_stopPlace_17 ?_
      refine cd_X2_138 (pc := 18) rfl (S) hA.2.2.2.2.2.1.2.1 dX2_stopPlace_18 rfl rfl ?_
      refine j_rs ?_
      refine j_astore2 (pc := 21) dX2_stopPlace_21 (by decide) trivial ?_
      refine j_aload2 (pc := 22) dX2_stopPlace_22 ?_
      refine j_ifnonnull (pc := 23) (tgt := 28) dX2_stopPlace_23 (by decide) ?_
      refine j_aload2 (pc := 28) dX2_stopPlace_28 ?_
      refine g_X2_141 (pc := 29) rfl hp dX2_stopPlace_29 ?_
      refine j_if_eq (pc := 32) (tgt := 38) dX2_stopPlace_32 (by decide) (fun c32 => ?_) (fun c32 => ?_)
      · refine j_aload0 (pc := 38) dX2_stopPlace_38 ?_
        refine g_X2_42 (pc := 39) rfl hA.1 hA.2.2.2.2.2.1.1 dX2_stopPlace_39 ?_
        refine g_X2_65 (pc := 42) rfl hA.2.2.2.2.2.1.2.1 dX2_stopPlace_42 ?_
        rw [hC]
        refine j_sipush (pc := 45) (v := nI 512) dX2_stopPlace_45 (by decide) ?_
        refine j_icmpN_lt (pc := 48) (tgt := 54) (by first | decide | omega) (by first | decide | omega) dX2_stopPlace_48 (by decide) (fun c48 => ?_) (fun c48 => by omega)
        refine j_aload2 (pc := 54) dX2_stopPlace_54 ?_
        refine cd_X2_305 (pc := 55) rfl (S3) hp dX2_stopPlace_55 rfl rfl ?_
        refine j_aload2 (pc := 58) dX2_stopPlace_58 ?_
        refine j_lconst (pc := 59) (v := 0) dX2_stopPlace_59 (by decide) ?_
        refine p_X2_199 (pc := 60) rfl hp dX2_stopPlace_60 ?_
        refine j_aload2 (pc := 63) dX2_stopPlace_63 ?_
        refine j_iconst (pc := 64) (v := 0) dX2_stopPlace_64 (by decide) ?_
        refine p_X2_211' (pc := 65) rfl hp (by decide) dX2_stopPlace_65 ?_
        show J cx mX2_stopPlace _ (st0 h p) _ _ _ _ _ _
        refine j_aload0 (pc := 68) dX2_stopPlace_68 ?_
        refine g_X2_42 (pc := 69) rfl hA.1 hA.2.2.2.2.2.1.1 dX2_stopPlace_69 ?_
        refine g_X2_205 (pc := 72) rfl hA.2.2.2.2.2.1.2.1 dX2_stopPlace_72 ?_
        refine j_iload1 (pc := 75) dX2_stopPlace_75 ?_
        refine j_icmp_ne (pc := 76) (tgt := 87) dX2_stopPlace_76 (by decide) (fun c76 => ?_) (fun c76 => ?_)
        · first | (have L := L c8 c32; rw [show st1 (st0 h p) A s = (st0 h p).setI (A + 5) 5 (-1) from if_pos c76] at L; exact L) | (have L := L c8 c32; rw [show st1 (st0 h p) A s = st0 h p from if_neg c76] at L; exact L)
        · refine j_aload0 (pc := 79) dX2_stopPlace_79 ?_
          refine g_X2_42 (pc := 80) rfl hA.1 hA.2.2.2.2.2.1.1 dX2_stopPlace_80 ?_
          refine j_iconst (pc := 83) (v := (-1)) dX2_stopPlace_83 (by decide) ?_
          refine p_X2_205 (pc := 84) rfl hA.2.2.2.2.2.1.2.1 dX2_stopPlace_84 ?_
          first | (have L := L c8 c32; rw [show st1 (st0 h p) A s = (st0 h p).setI (A + 5) 5 (-1) from if_pos c76] at L; exact L) | (have L := L c8 c32; rw [show st1 (st0 h p) A s = st0 h p from if_neg c76] at L; exact L)
      · refine j_bipush (pc := 35) (v := 10) dX2_stopPlace_35 (by decide) ?_
        refine j_iret (pc := 37) dX2_stopPlace_37 rfl rfl ?_
        exact hQ _ _ ⟨_, rfl, by rw [if_pos c8, if_neg c32], by rw [if_pos c8, if_neg c32]⟩
    · refine j_iconst (pc := 11) (v := 2) dX2_stopPlace_11 (by decide) ?_
      refine j_iret (pc := 12) dX2_stopPlace_12 rfl rfl ?_
      exact hQ _ _ ⟨_, rfl, by rw [if_neg c8], by rw [if_neg c8]⟩
end

