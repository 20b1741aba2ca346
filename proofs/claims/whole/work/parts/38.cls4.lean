/-! the class: a place copied; the sureties dropped -/
def cpI (P p k : Nat) (h : Hp) : Hp := h.setI P k (h.i p k)
def cpL (P p k : Nat) (h : Hp) : Hp := h.setL P k (h.l p k)
def cpA (P p : Nat) (h : Hp) : Hp := cpI P p 5 (cpI P p 4 (cpI P p 3 (cpI P p 2 (cpI P p 1 (cpI P p 0 h)))))
def cpB (P p : Nat) (h : Hp) : Hp := cpL P p 12 (cpL P p 11 (cpL P p 10 (cpL P p 9 (cpL P p 8 (cpL P p 7 (cpL P p 6 h))))))
def cpC (P p : Nat) (h : Hp) : Hp := cpI P p 17 (cpL P p 16 (cpI P p 15 (cpI P p 14 (cpI P p 13 h))))
def cpP (P p : Nat) (h : Hp) : Hp := cpC P p (cpB P p (cpA P p h))
def bit (x : Int32) : Prop := x = 0 ∨ x = 1
def plB (h : Hp) (p : Nat) : Prop := bit (h.i p 3) ∧ bit (h.i p 4) ∧ bit (h.i p 5) ∧ bit (h.i p 14) ∧ bit (h.i p 15) ∧ bit (h.i p 17)
theorem cpI_i {P p k j : Nat} {h : Hp} (hne : p ≠ P) : (cpI P p k h).i p j = h.i p j := by simp [cpI, Hp.setI, Hp.i, up2, hne]
theorem cpL_i {P p k q j : Nat} {h : Hp} : (cpL P p k h).i q j = h.i q j := rfl
theorem cpA_i {P p j : Nat} {h : Hp} (hne : p ≠ P) : (cpA P p h).i p j = h.i p j := by simp only [cpA, cpI_i hne]
theorem cpB_i {P p q j : Nat} {h : Hp} : (cpB P p h).i q j = h.i q j := rfl
section
variable {cx : Cx} {h : Hp} {B P p : Nat}
theorem t_copyFrom1 (hk : h.kd P = kObj 1) (hp : h.kd p = kObj 1) (hne : p ≠ P) (hb : plB h p) : DV cx mX1_copyFrom 0 h [.ref P, .ref p] (cpP P p h) := by
  obtain ⟨b3, b4, b5, b14, b15, b17⟩ := hb
  refine Sp.of 0 (by decide) (Nat.le_of_ble_eq_true rfl) rfl ?_
  refine j_aload0 (pc := 0) dX1_copyFrom_0 ?_
  refine j_aload1 (pc := 1) dX1_copyFrom_1 ?_
  refine g_X1_15 (pc := 2) rfl hp dX1_copyFrom_2 ?_
  refine p_X1_15 (pc := 5) rfl hk dX1_copyFrom_5 ?_
  show J cx mX1_copyFrom _ (cpI P p 0 h) _ _ _ _ _ _
  refine j_aload0 (pc := 8) dX1_copyFrom_8 ?_
  refine j_aload1 (pc := 9) dX1_copyFrom_9 ?_
  refine g_X1_18 (pc := 10) rfl hp dX1_copyFrom_10 ?_
  refine p_X1_18 (pc := 13) rfl hk dX1_copyFrom_13 ?_
  show J cx mX1_copyFrom _ (cpI P p 1 (cpI P p 0 h)) _ _ _ _ _ _
  refine j_aload0 (pc := 16) dX1_copyFrom_16 ?_
  refine j_aload1 (pc := 17) dX1_copyFrom_17 ?_
  refine g_X1_9 (pc := 18) rfl hp dX1_copyFrom_18 ?_
  refine p_X1_9 (pc := 21) rfl hk dX1_copyFrom_21 ?_
  show J cx mX1_copyFrom _ (cpI P p 2 (cpI P p 1 (cpI P p 0 h))) _ _ _ _ _ _
  refine j_aload0 (pc := 24) dX1_copyFrom_24 ?_
  refine j_aload1 (pc := 25) dX1_copyFrom_25 ?_
  refine g_X1_21 (pc := 26) rfl hp dX1_copyFrom_26 ?_
  refine p_X1_21' (pc := 29) rfl hk (by simp only [cpI_i hne]; exact b3) dX1_copyFrom_29 ?_
  show J cx mX1_copyFrom _ (cpI P p 3 (cpI P p 2 (cpI P p 1 (cpI P p 0 h)))) _ _ _ _ _ _
  refine j_aload0 (pc := 32) dX1_copyFrom_32 ?_
  refine j_aload1 (pc := 33) dX1_copyFrom_33 ?_
  refine g_X1_25 (pc := 34) rfl hp dX1_copyFrom_34 ?_
  refine p_X1_25' (pc := 37) rfl hk (by simp only [cpI_i hne]; exact b4) dX1_copyFrom_37 ?_
  show J cx mX1_copyFrom _ (cpI P p 4 (cpI P p 3 (cpI P p 2 (cpI P p 1 (cpI P p 0 h))))) _ _ _ _ _ _
  refine j_aload0 (pc := 40) dX1_copyFrom_40 ?_
  refine j_aload1 (pc := 41) dX1_copyFrom_41 ?_
  refine g_X1_28 (pc := 42) rfl hp dX1_copyFrom_42 ?_
  refine p_X1_28' (pc := 45) rfl hk (by simp only [cpI_i hne]; exact b5) dX1_copyFrom_45 ?_
  show J cx mX1_copyFrom _ (cpA P p h) _ _ _ _ _ _
  refine j_aload0 (pc := 48) dX1_copyFrom_48 ?_
  refine j_aload1 (pc := 49) dX1_copyFrom_49 ?_
  refine g_X1_31 (pc := 50) rfl hp dX1_copyFrom_50 ?_
  refine p_X1_31 (pc := 53) rfl hk dX1_copyFrom_53 ?_
  refine j_aload0 (pc := 56) dX1_copyFrom_56 ?_
  refine j_aload1 (pc := 57) dX1_copyFrom_57 ?_
  refine g_X1_35 (pc := 58) rfl hp dX1_copyFrom_58 ?_
  refine p_X1_35 (pc := 61) rfl hk dX1_copyFrom_61 ?_
  refine j_aload0 (pc := 64) dX1_copyFrom_64 ?_
  refine j_aload1 (pc := 65) dX1_copyFrom_65 ?_
  refine g_X1_38 (pc := 66) rfl hp dX1_copyFrom_66 ?_
  refine p_X1_38 (pc := 69) rfl hk dX1_copyFrom_69 ?_
  refine j_aload0 (pc := 72) dX1_copyFrom_72 ?_
  refine j_aload1 (pc := 73) dX1_copyFrom_73 ?_
  refine g_X1_41 (pc := 74) rfl hp dX1_copyFrom_74 ?_
  refine p_X1_41 (pc := 77) rfl hk dX1_copyFrom_77 ?_
  refine j_aload0 (pc := 80) dX1_copyFrom_80 ?_
  refine j_aload1 (pc := 81) dX1_copyFrom_81 ?_
  refine g_X1_44 (pc := 82) rfl hp dX1_copyFrom_82 ?_
  refine p_X1_44 (pc := 85) rfl hk dX1_copyFrom_85 ?_
  refine j_aload0 (pc := 88) dX1_copyFrom_88 ?_
  refine j_aload1 (pc := 89) dX1_copyFrom_89 ?_
  refine g_X1_47 (pc := 90) rfl hp dX1_copyFrom_90 ?_
  refine p_X1_47 (pc := 93) rfl hk dX1_copyFrom_93 ?_
  refine j_aload0 (pc := 96) dX1_copyFrom_96 ?_
  refine j_aload1 (pc := 97) dX1_copyFrom_97 ?_
  refine g_X1_50 (pc := 98) rfl hp dX1_copyFrom_98 ?_
  refine p_X1_50 (pc := 101) rfl hk dX1_copyFrom_101 ?_
  show J cx mX1_copyFrom _ (cpB P p (cpA P p h)) _ _ _ _ _ _
  refine j_aload0 (pc := 104) dX1_copyFrom_104 ?_
  refine j_aload1 (pc := 105) dX1_copyFrom_105 ?_
  refine g_X1_53 (pc := 106) rfl hp dX1_copyFrom_106 ?_
  refine p_X1_53 (pc := 109) rfl hk dX1_copyFrom_109 ?_
  show J cx mX1_copyFrom _ (cpI P p 13 (cpB P p (cpA P p h))) _ _ _ _ _ _
  refine j_aload0 (pc := 112) dX1_copyFrom_112 ?_
  refine j_aload1 (pc := 113) dX1_copyFrom_113 ?_
  refine g_X1_56 (pc := 114) rfl hp dX1_copyFrom_114 ?_
  refine p_X1_56' (pc := 117) rfl hk (by simp only [cpI_i hne, cpB_i, cpA_i hne]; exact b14) dX1_copyFrom_117 ?_
  show J cx mX1_copyFrom _ (cpI P p 14 (cpI P p 13 (cpB P p (cpA P p h)))) _ _ _ _ _ _
  refine j_aload0 (pc := 120) dX1_copyFrom_120 ?_
  refine j_aload1 (pc := 121) dX1_copyFrom_121 ?_
  refine g_X1_59 (pc := 122) rfl hp dX1_copyFrom_122 ?_
  refine p_X1_59' (pc := 125) rfl hk (by simp only [cpI_i hne, cpB_i, cpA_i hne]; exact b15) dX1_copyFrom_125 ?_
  show J cx mX1_copyFrom _ (cpI P p 15 (cpI P p 14 (cpI P p 13 (cpB P p (cpA P p h))))) _ _ _ _ _ _
  refine j_aload0 (pc := 128) dX1_copyFrom_128 ?_
  refine j_aload1 (pc := 129) dX1_copyFrom_129 ?_
  refine g_X1_62 (pc := 130) rfl hp dX1_copyFrom_130 ?_
  refine p_X1_62 (pc := 133) rfl hk dX1_copyFrom_133 ?_
  show J cx mX1_copyFrom _ (cpL P p 16 (cpI P p 15 (cpI P p 14 (cpI P p 13 (cpB P p (cpA P p h)))))) _ _ _ _ _ _
  refine j_aload0 (pc := 136) dX1_copyFrom_136 ?_
  refine j_aload1 (pc := 137) dX1_copyFrom_137 ?_
  refine g_X1_65 (pc := 138) rfl hp dX1_copyFrom_138 ?_
  refine p_X1_65' (pc := 141) rfl hk (by simp only [cpL_i, cpI_i hne, cpB_i, cpA_i hne]; exact b17) dX1_copyFrom_141 ?_
  refine j_vret (pc := 144) dX1_copyFrom_144 rfl ?_
  exact ⟨rfl, rfl⟩
end

