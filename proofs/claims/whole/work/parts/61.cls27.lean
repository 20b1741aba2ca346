/-! the class: stopping -/
def mx64 (x y : Int64) : Int64 := if x < y then y else x
def ks1 (g : Hp) (q : Nat) (s : Int32) : Hp := g.setI q 0 s
def ks2 (g : Hp) (A q : Nat) : Hp := g.setI q 1 (g.i (A + 5) 2)
def ksOwed (g : Hp) (A p : Nat) : Int64 := if g.i p 3 = 0 then mx64 0 (g.l p 9 - g.l A 2) else 0
def ks3 (g : Hp) (A p q : Nat) : Hp := g.setL q 2 (ksOwed g A p)
def ksOwes (g : Hp) (A p : Nat) : Int64 := if g.i p 3 = 0 then 0 else g.l A 1 * (g.i (A + 5) 3 - g.i (A + 5) 2).toInt64 + g.l p 6
def ks4 (g : Hp) (A p q : Nat) : Hp := (g.setL q 3 (ksOwes g A p)).setL q 4 0
def ks5 (g : Hp) (A q c : Nat) : Hp := (g.setR (A + 4) c (some q)).setI (A + 5) 7 (nI (c + 1))
def ksT (g : Hp) (A p q c : Nat) (s : Int32) : Hp := ks5 (ks4 (ks3 (ks2 (ks1 g q s) A q) A p q) A p q) A q c
def rKS (h : Hp) (A p c : Nat) (s : Int32) : Hp := match h.r (A + 4) c with | none => ksT (h.new (10 + 3) 0) A p h.n c s | some q => ksT h A p q c s
section
variable {cx : Cx} {h : Hp} {A : Nat}
theorem ks_tail {p q c : Nat} {s : Int32} {g : Hp} {Q : Option Value → Hp → Prop} {bc bs : Nat} (hA : RSh g.1 A) (hp : g.kd p = kObj 1) (hq : g.kd q = kObj 3) (hqn : q ≠ A ∧ q ≠ A + 5 ∧ q ≠ A + 4) (hC : g.i (A + 5) 7 = nI c) (hc : c < 512) (hQ : Q none (ksT g A p q c s)) :
    J cx mX2_keepStop (Rm 2 1 5) g 45 [some (.ref A), some (.int s), some (.ref p), some (.int (nI c)), none] [.ref q] bc bs Q := by
  have hin : vp_in (nI c) 512 := pk_in c 512 hc rfl
  have hcl : (nI c).toNatClampNeg = c := nI_clamp (by omega)
  unfold ksT at hQ
  have hC1 : (ks2 (ks1 g q s) A q).i (A + 5) 7 = nI c := ((up2_a _ _ (Ne.symm hqn.2.1)).trans (up2_a _ _ (Ne.symm hqn.2.1))).trans hC
  have hA1 : RSh (ks2 (ks1 g q s) A q).1 A := hA
  have hp1 : (ks2 (ks1 g q s) A q).kd p = kObj 1 := hp
  have hq1 : (ks2 (ks1 g q s) A q).kd q = kObj 3 := hq
  have L1 : J cx mX2_keepStop (Rm 2 1 5) (ks2 (ks1 g q s) A q) 65 [some (.ref A), some (.int s), some (.ref p), some (.int (nI c)), some (.ref q)] [] bc bs Q := by
    generalize ks2 (ks1 g q s) A q = g1 at hC1 hA1 hp1 hq1 hQ ⊢
    have S : DL cx mJ9_max_f86c9 0 g1 [.long 0, .long (g1.l p 9 - g1.l A 2)] (mx64 0 (g1.l p 9 - g1.l A 2)) g1 := s_max _ _
    have hC2 : (ks3 g1 A p q).i (A + 5) 7 = nI c := hC1
    have hA2 : RSh (ks3 g1 A p q).1 A := hA1
    have hp2 : (ks3 g1 A p q).kd p = kObj 1 := hp1
    have hq2 : (ks3 g1 A p q).kd q = kObj 3 := hq1
    have L2 : J cx mX2_keepStop (Rm 2 1 5) (ks3 g1 A p q) 94 [some (.ref A), some (.int s), some (.ref p), some (.int (nI c)), some (.ref q)] [] bc bs Q := by
      generalize ks3 g1 A p q = g2 at hC2 hA2 hp2 hq2 hQ ⊢
      have hC3 : (ks4 g2 A p q).i (A + 5) 7 = nI c := hC2
      have hA3 : RSh (ks4 g2 A p q).1 A := hA2
      have hq3 : (ks4 g2 A p q).kd q = kObj 3 := hq2
      have L3 : J cx mX2_keepStop (Rm 2 1 5) (ks4 g2 A p q) 142 [some (.ref A), some (.int s), some (.ref p), some (.int (nI c)), some (.ref q)] [] bc bs Q := by
        generalize ks4 g2 A p q = g3 at hC3 hA3 hq3 hQ ⊢
        have hA := hA3
        have hd : ∀ y, y = (g3.setR (A + 4) (nI c).toNatClampNeg (some q)).setI (A + 5) 7 (nI (c + 1)) → y = ks5 g3 A q c := fun y e => by rw [e, hcl]; rfl
        refine j_aload0 (pc := 142) dX2_keepStop_142 ?_
        refine g_X2_35 (pc := 143) rfl hA.1 hA.2.2.2.2.1.1 dX2_keepStop_143 ?_
        refine j_iload3 (pc := 146) dX2_keepStop_146 ?_
        refine j_aload4 (pc := 147) dX2_keepStop_147 ?_
        refine j_aast (pc := 149) (by decide) cls_3 hA.2.2.2.2.1.2 hq3 hin dX2_keepStop_149 ?_
        refine j_aload0 (pc := 150) dX2_keepStop_150 ?_
        refine g_X2_42 (pc := 151) rfl hA.1 ((up2_a _ _ (by omega)).trans hA.2.2.2.2.2.1.1) dX2_keepStop_151 ?_
        refine j_dup (pc := 154) dX2_keepStop_154 ?_
        refine g_X2_65 (pc := 155) rfl hA.2.2.2.2.2.1.2.1 dX2_keepStop_155 ?_
        rw [show (g3.setR (A + 4) (nI c).toNatClampNeg (some q)).i (A + 5) 7 = nI c from hC3]
        refine j_iconst (pc := 158) (v := nI 1) dX2_keepStop_158 (by decide) ?_
        refine j_iaddN (pc := 159) dX2_keepStop_159 ?_
        refine p_X2_65 (pc := 160) rfl hA.2.2.2.2.2.1.2.1 dX2_keepStop_160 ?_
        rw [hd _ rfl]
        refine j_vret (pc := 163) dX2_keepStop_163 rfl ?_
        exact hQ
      have hA := hA2
      refine j_aload4 (pc := 94) dX2_keepStop_94 ?_
      refine j_aload2 (pc := 96) dX2_keepStop_96 ?_
      refine g_X2_208 (pc := 97) rfl hp2 dX2_keepStop_97 ?_
      refine j_if_eq (pc := 100) (tgt := 132) dX2_keepStop_100 (by decide) (fun c100 => ?_) (fun c100 => ?_)
      · refine j_lconst (pc := 132) (v := 0) dX2_keepStop_132 (by decide) ?_
        first | rw [show (0 : Int64) = ksOwes g2 A p from (if_pos c100).symm] | rw [show g2.l A 1 * (g2.i (A + 5) 3 - g2.i (A + 5) 2).toInt64 + g2.l p 6 = ksOwes g2 A p from (if_neg c100).symm]
        refine p_X2_325 (pc := 133) rfl hq2 dX2_keepStop_133 ?_
        refine j_aload4 (pc := 136) dX2_keepStop_136 ?_
        refine j_lconst (pc := 138) (v := 0) dX2_keepStop_138 (by decide) ?_
        refine p_X2_328 (pc := 139) rfl hq2 dX2_keepStop_139 ?_
        exact L3
      · refine j_aload0 (pc := 103) dX2_keepStop_103 ?_
        refine g_X2_15 (pc := 104) rfl hA.1 dX2_keepStop_104 ?_
        refine j_aload0 (pc := 107) dX2_keepStop_107 ?_
        refine g_X2_42 (pc := 108) rfl hA.1 hA.2.2.2.2.2.1.1 dX2_keepStop_108 ?_
        refine g_X2_82 (pc := 111) rfl hA.2.2.2.2.2.1.2.1 dX2_keepStop_111 ?_
        refine j_aload0 (pc := 114) dX2_keepStop_114 ?_
        refine g_X2_42 (pc := 115) rfl hA.1 hA.2.2.2.2.2.1.1 dX2_keepStop_115 ?_
        refine g_X2_76 (pc := 118) rfl hA.2.2.2.2.2.1.2.1 dX2_keepStop_118 ?_
        refine j_isub (pc := 121) dX2_keepStop_121 ?_
        refine j_i2l (pc := 122) dX2_keepStop_122 ?_
        refine j_lmul (pc := 123) dX2_keepStop_123 ?_
        refine j_aload2 (pc := 124) dX2_keepStop_124 ?_
        refine g_X2_185 (pc := 125) rfl hp2 dX2_keepStop_125 ?_
        refine j_ladd (pc := 128) dX2_keepStop_128 ?_
        refine j_goto (pc := 129) (tgt := 133) dX2_keepStop_129 (by decide) ?_
        first | rw [show (0 : Int64) = ksOwes g2 A p from (if_pos c100).symm] | rw [show g2.l A 1 * (g2.i (A + 5) 3 - g2.i (A + 5) 2).toInt64 + g2.l p 6 = ksOwes g2 A p from (if_neg c100).symm]
        refine p_X2_325 (pc := 133) rfl hq2 dX2_keepStop_133 ?_
        refine j_aload4 (pc := 136) dX2_keepStop_136 ?_
        refine j_lconst (pc := 138) (v := 0) dX2_keepStop_138 (by decide) ?_
        refine p_X2_328 (pc := 139) rfl hq2 dX2_keepStop_139 ?_
        exact L3
    have hA := hA1
    refine j_aload4 (pc := 65) dX2_keepStop_65 ?_
    refine j_aload2 (pc := 67) dX2_keepStop_67 ?_
    refine g_X2_208 (pc := 68) rfl hp1 dX2_keepStop_68 ?_
    refine j_if_eq (pc := 71) (tgt := 78) dX2_keepStop_71 (by decide) (fun c71 => ?_) (fun c71 => ?_)
    · refine j_lconst (pc := 78) (v := 0) dX2_keepStop_78 (by decide) ?_
      refine j_aload2 (pc := 79) dX2_keepStop_79 ?_
      refine g_X2_182 (pc := 80) rfl hp1 dX2_keepStop_80 ?_
      refine j_aload0 (pc := 83) dX2_keepStop_83 ?_
      refine g_X2_19 (pc := 84) rfl hA.1 dX2_keepStop_84 ?_
      refine j_lsub (pc := 87) dX2_keepStop_87 ?_
      refine cd_X2_319 (pc := 88) rfl (S) dX2_keepStop_88 rfl rfl ?_
      first | rw [show (mx64 0 (g1.l p 9 - g1.l A 2)) = ksOwed g1 A p from (if_pos c71).symm] | rw [show (0 : Int64) = ksOwed g1 A p from (if_neg c71).symm]
      refine p_X2_322 (pc := 91) rfl hq1 dX2_keepStop_91 ?_
      exact L2
    · refine j_lconst (pc := 74) (v := 0) dX2_keepStop_74 (by decide) ?_
      refine j_goto (pc := 75) (tgt := 91) dX2_keepStop_75 (by decide) ?_
      first | rw [show (mx64 0 (g1.l p 9 - g1.l A 2)) = ksOwed g1 A p from (if_pos c71).symm] | rw [show (0 : Int64) = ksOwed g1 A p from (if_neg c71).symm]
      refine p_X2_322 (pc := 91) rfl hq1 dX2_keepStop_91 ?_
      exact L2
  refine j_astore4 (pc := 45) dX2_keepStop_45 (by decide) trivial ?_
  refine j_aload4 (pc := 47) dX2_keepStop_47 ?_
  refine j_iload1 (pc := 49) dX2_keepStop_49 ?_
  refine p_X2_315 (pc := 50) rfl hq dX2_keepStop_50 ?_
  refine j_aload4 (pc := 53) dX2_keepStop_53 ?_
  refine j_aload0 (pc := 55) dX2_keepStop_55 ?_
  refine g_X2_42 (pc := 56) rfl hA.1 hA.2.2.2.2.2.1.1 dX2_keepStop_56 ?_
  refine g_X2_76 (pc := 59) rfl hA.2.2.2.2.2.1.2.1 dX2_keepStop_59 ?_
  refine p_X2_318 (pc := 62) rfl hq dX2_keepStop_62 ?_
  exact L1
theorem t_keepStop {p c : Nat} {s : Int32} (hA : RSh h.1 A) (hp : h.kd p = kObj 1) (hC : h.i (A + 5) 7 = nI c) (hc : c < 512) (hlt : A + 68 ≤ h.n) (hpn : p < h.n) (hst : ∀ q, h.r (A + 4) c = some q → h.kd q = kObj 3 ∧ (q < A ∨ A + 68 ≤ q)) : Sp cx mX2_keepStop 2 1 5 h [.ref A, .int s, .ref p] (Rv fun g => g = rKS h A p c s) := by
  have hin : vp_in (nI c) 512 := pk_in c 512 hc rfl
  have hcl : (nI c).toNatClampNeg = c := nI_clamp (by omega)
  refine Sp.ofQ 2 (by decide) (Nat.le_of_ble_eq_true rfl) rfl (fun Q hQ => ?_)
  unfold rKS at hQ
  cases hm : h.r (A + 4) c with
  | some q =>
    rw [hm] at hQ
    obtain ⟨hq, hq2⟩ := hst q hm
    refine j_aload0 (pc := 0) dX2_keepStop_0 ?_
    refine g_X2_42 (pc := 1) rfl hA.1 hA.2.2.2.2.2.1.1 dX2_keepStop_1 ?_
    refine g_X2_65 (pc := 4) rfl hA.2.2.2.2.2.1.2.1 dX2_keepStop_4 ?_
    rw [hC]
    refine j_istore3 (pc := 7) dX2_keepStop_7 (by decide) trivial ?_
    refine j_iload3 (pc := 8) dX2_keepStop_8 ?_
    refine j_if_lt (pc := 9) (tgt := 19) dX2_keepStop_9 (by decide) (fun c9 => by exact absurd c9 (nI_pos (by omega))) (fun c9 => ?_)
    refine j_iload3 (pc := 12) dX2_keepStop_12 ?_
    refine j_sipush (pc := 13) (v := nI 512) dX2_keepStop_13 (by decide) ?_
    refine j_icmpN_lt (pc := 16) (tgt := 20) (by first | decide | omega) (by first | decide | omega) dX2_keepStop_16 (by decide) (fun c16 => ?_) (fun c16 => by omega)
    refine j_aload0 (pc := 20) dX2_keepStop_20 ?_
    refine g_X2_35 (pc := 21) rfl hA.1 hA.2.2.2.2.1.1 dX2_keepStop_21 ?_
    refine j_iload3 (pc := 24) dX2_keepStop_24 ?_
    refine j_aald (pc := 25) (by decide) hA.2.2.2.2.1.2 hin (by rw [hcl]; exact hm) dX2_keepStop_25 ?_
    refine j_ifnonnull (pc := 26) (tgt := 39) dX2_keepStop_26 (by decide) ?_
    refine j_aload0 (pc := 39) dX2_keepStop_39 ?_
    refine g_X2_35 (pc := 40) rfl hA.1 hA.2.2.2.2.1.1 dX2_keepStop_40 ?_
    refine j_iload3 (pc := 43) dX2_keepStop_43 ?_
    refine j_aald (pc := 44) (by decide) hA.2.2.2.2.1.2 hin (by rw [hcl]; exact hm) dX2_keepStop_44 ?_
    exact ks_tail hA hp hq ⟨by omega, by omega, by omega⟩ hC hc (hQ _ _ ⟨rfl, rfl⟩)
  | none =>
    rw [hm] at hQ
    have e : ∀ x, x < h.n → Eq1 h (h.new (10 + 3) 0) x := fun x hx => Eq1.new (by omega)
    have hA1 : RSh (h.new (10 + 3) 0).1 A := Eq1.rsh (fun x h1 h2 h3 => e x (by omega)) (e _ (by omega)).1 hA
    have hq : (h.new (10 + 3) 0).kd h.n = kObj 3 := by exact new_kn
    have S := t_init3 (cx := cx) hq
    refine j_aload0 (pc := 0) dX2_keepStop_0 ?_
    refine g_X2_42 (pc := 1) rfl hA.1 hA.2.2.2.2.2.1.1 dX2_keepStop_1 ?_
    refine g_X2_65 (pc := 4) rfl hA.2.2.2.2.2.1.2.1 dX2_keepStop_4 ?_
    rw [hC]
    refine j_istore3 (pc := 7) dX2_keepStop_7 (by decide) trivial ?_
    refine j_iload3 (pc := 8) dX2_keepStop_8 ?_
    refine j_if_lt (pc := 9) (tgt := 19) dX2_keepStop_9 (by decide) (fun c9 => by exact absurd c9 (nI_pos (by omega))) (fun c9 => ?_)
    refine j_iload3 (pc := 12) dX2_keepStop_12 ?_
    refine j_sipush (pc := 13) (v := nI 512) dX2_keepStop_13 (by decide) ?_
    refine j_icmpN_lt (pc := 16) (tgt := 20) (by first | decide | omega) (by first | decide | omega) dX2_keepStop_16 (by decide) (fun c16 => ?_) (fun c16 => by omega)
    refine j_aload0 (pc := 20) dX2_keepStop_20 ?_
    refine g_X2_35 (pc := 21) rfl hA.1 hA.2.2.2.2.1.1 dX2_keepStop_21 ?_
    refine j_iload3 (pc := 24) dX2_keepStop_24 ?_
    refine j_aaldN (pc := 25) (by decide) hA.2.2.2.2.1.2 hin (by rw [hcl]; exact hm) dX2_keepStop_25 ?_
    refine j_ifnonnullN (pc := 26) dX2_keepStop_26 ?_
    refine j_new 3 cls_3 (by decide) wT_cl_X2_33 wT_ins_X3 wT_ini_X3 dX2_keepStop_29 ?_
    refine j_dup (pc := 32) dX2_keepStop_32 ?_
    refine cd_X2_68 (pc := 33) rfl (S) dX2_keepStop_33 rfl rfl ?_
    refine j_goto (pc := 36) (tgt := 45) dX2_keepStop_36 (by decide) ?_
    exact ks_tail hA1 ((e p hpn).1.trans hp) hq ⟨by omega, by omega, by omega⟩ (((e (A + 5) (by omega)).2.2.1 7).trans hC) hc (hQ _ _ ⟨rfl, rfl⟩)
end

