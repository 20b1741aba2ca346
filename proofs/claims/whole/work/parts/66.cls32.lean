/-! the class: an image of a ring -/
def im1 (g : Hp) (A O : Nat) : Hp := cpAI g (A + 1) (O + 1) 60
def im2 (g : Hp) (A O : Nat) : Hp := g.setI O 4 (g.i A 4)
def im3 (g : Hp) (A O : Nat) : Hp := cpAI g (A + 2) (O + 2) 60
def im4 (g : Hp) (A O : Nat) : Hp := cpAL g (A + 3) (O + 3) 240
def imP (g : Hp) (O i q : Nat) : Hp := cpS g.n q ((g.new (10 + 3) 0).setR (O + 4) i (some g.n))
def imW (A O i : Nat) (g : Hp) : Hp := match g.r (A + 4) i with | none => g | some q => imP g O i q
def im7 (g : Hp) (A O : Nat) : Hp := g.setI O 10 (g.i (A + 5) 2)
def imT (g : Hp) (A O c : Nat) : Hp := im7 (cpBk (O + 5) (A + 5) (itr (imW A O) c g)) A O
def imG (g : Hp) (A O : Nat) : Hp := im4 (im3 (im2 (im1 g A O) A O) A O) A O
def rIm0 (h : Hp) (A : Nat) : Hp := rgN (h.new (10 + 2) 0) h.n (h.i A 0) (h.l A 1) (h.l A 2) 0
def rIm (h : Hp) (A c : Nat) : Hp := imT (imG (rIm0 h A) A h.n) A h.n c
/-- how far an image is made -/
def ImI (h g : Hp) (O n : Nat) : Prop := (∀ x, x < O → Eq1 h g x) ∧ RSh g.1 O ∧ g.n = O + 68 + n
theorem cpAI_eq {h : Hp} {a0 a N x : Nat} (hx : x ≠ a) : Eq1 h (cpAI h a0 a N) x := ⟨rfl, fun _ => rfl, fun _ => if_neg (fun z => hx z.1), fun _ => rfl⟩
theorem cpAL_eq {h : Hp} {a0 a N x : Nat} (hx : x ≠ a) : Eq1 h (cpAL h a0 a N) x := ⟨rfl, fun _ => rfl, fun _ => rfl, fun _ => if_neg (fun z => hx z.1)⟩
theorem cpS_sh {P p : Nat} {h : Hp} : (cpS P p h).1 = h.1 := by simp only [cpS, cpL_sh, cpI_sh]
theorem imP_eq {g : Hp} {O i q x : Nat} (hx : x ≠ g.n) (h4 : x ≠ O + 4) : Eq1 g (imP g O i q) x := ((Eq1.new hx).trans (Eq1.setR h4)).trans (cpS_eq hx)
theorem imP_n {g : Hp} {O i q : Nat} : (imP g O i q).n = g.n + 1 := by
  show (imP g O i q).1.1 = _
  unfold imP
  rw [cpS_sh]
  rfl
theorem imP_kd4 {g : Hp} {O i q : Nat} (hO : O + 4 < g.n) : (imP g O i q).kd (O + 4) = g.kd (O + 4) := by
  show (imP g O i q).1.2.1 _ = _
  unfold imP
  rw [cpS_sh]
  exact (Eq1.new (h := g) (t := 10 + 3) (len := 0) (x := O + 4) (by omega)).1
theorem RSh.of4 {g g' : Hp} {O : Nat} (he : ∀ x, O ≤ x → x < O + 68 → x ≠ O + 4 → Eq1 g g' x) (h4 : g'.kd (O + 4) = g.kd (O + 4)) (hO : RSh g.1 O) : RSh g'.1 O := by
  obtain ⟨a1, ⟨a2, a3⟩, ⟨a4, a5⟩, ⟨a6, a7⟩, ⟨a8, a9⟩, ⟨b1, b2⟩, ⟨b3, b4⟩⟩ := hO
  have e := he O (by omega) (by omega) (by omega)
  exact ⟨e.1.trans a1, ⟨(e.2.1 3).trans a2, (he (O + 1) (by omega) (by omega) (by omega)).1.trans a3⟩, ⟨(e.2.1 5).trans a4, (he (O + 2) (by omega) (by omega) (by omega)).1.trans a5⟩, ⟨(e.2.1 6).trans a6, (he (O + 3) (by omega) (by omega) (by omega)).1.trans a7⟩, ⟨(e.2.1 7).trans a8, h4.trans a9⟩, ⟨(e.2.1 8).trans b1, Eq1.bsh (fun x h1 h2 => he x (by omega) (by omega) (by omega)) b2⟩, ⟨(e.2.1 9).trans b3, (he (O + 67) (by omega) (by omega) (by omega)).1.trans b4⟩⟩
theorem ImI.step {h g : Hp} {O n i q : Nat} (I : ImI h g O n) : ImI h (imP g O i q) O (n + 1) := by
  obtain ⟨i1, i2, i3⟩ := I
  refine ⟨fun x hx => (i1 x hx).trans (imP_eq (by omega) (by omega)), RSh.of4 (fun x h1 h2 h3 => imP_eq (by omega) h3) (imP_kd4 (by omega)) i2, by rw [imP_n]; omega⟩
theorem Eq1.rshA {h g : Hp} {A : Nat} (he : ∀ x, A ≤ x → x < A + 68 → Eq1 h g x) (hA : RSh h.1 A) : RSh g.1 A := Eq1.rsh (fun x h1 h2 _ => he x h1 h2) (he _ (by omega) (by omega)).1 hA
section
variable {cx : Cx} {h : Hp} {A : Nat}
theorem t_imageOfThis {c : Nat} (hA : RSh h.1 A) (hC : h.i (A + 5) 7 = nI c) (hc : c ≤ 512) (hlt : A + 68 ≤ h.n) (hst : ∀ i, i < c → ∃ q, h.r (A + 4) i = some q ∧ h.kd q = kObj 3 ∧ q < h.n) (hpl : ∀ i, i < 60 → plB h (A + 5 + 2 + i)) : Sp cx mX2_imageOfThis 4 (c + 67 + 1) (c * 5 + 2082 + 11) h [.ref A] (Rr fun y g => y = some h.n ∧ g = rIm h A c) := by
  refine Sp.ofQ 2 (by decide) (Nat.le_of_ble_eq_true rfl) rfl (fun Q hQ => ?_)
  unfold rIm at hQ
  have hk0 : (h.new (10 + 2) 0).kd h.n = kObj 2 := by exact new_kn
  have hn0 : (h.new (10 + 2) 0).n = h.n + 1 := rfl
  have e0 : ∀ x, x < h.n → Eq1 h (h.new (10 + 2) 0) x := fun x hx => Eq1.new (by omega)
  have S0 := t_init2 (cx := cx) (k := h.i A 0) (p := h.l A 1) (f := h.l A 2) (c := 0) hk0 hn0
  have V := rgN_val (k := h.i A 0) (p := h.l A 1) (f := h.l A 2) (c := 0) hk0 hn0
  have hI0 : ImI h (rIm0 h A) h.n 0 := ⟨fun x hx => (e0 x hx).trans (V.2.2.1 x hx), V.1, V.2.1⟩
  have S0 : Sp cx mX2_init 3 67 2082 (h.new (10 + 2) 0) [.ref h.n, .int (h.i A 0), .long (h.l A 1), .long (h.l A 2), .long 0] (Rv fun g => g = rIm0 h A) := S0
  clear V
  generalize hOO : h.n = O at *
  have L3 : ∀ g, ImI h g O c → Q (some (.ref O)) (im7 (cpBk (O + 5) (A + 5) g) A O) → J cx mX2_imageOfThis (Rm 4 (c + 67 + 1) (c * 5 + 2082 + 11)) g 138 [some (.ref A), some (.ref O), some (.int (nI c))] [] 0 0 Q := by
    intro g I hq
    obtain ⟨i1, hO, i3⟩ := I
    have hA : RSh g.1 A := Eq1.rshA (fun x h1 h2 => i1 x (by omega)) hA
    have hpl : ∀ i, i < 60 → plB g (A + 5 + 2 + i) := fun i hi => (i1 _ (by omega)).pb (hpl i hi)
    have S := t_copyFrom0 (cx := cx) (h := g) (B := O + 5) (b := A + 5) hO.2.2.2.2.2.1.2 hA.2.2.2.2.2.1.2 (by omega) hpl
    have e1 : (cpBk (O + 5) (A + 5) g).1 = g.1 := cpBk_sh
    generalize cpBk (O + 5) (A + 5) g = g2 at S e1 hq
    have hA2 : RSh g2.1 A := by rw [e1]; exact hA
    have hO2 : RSh g2.1 O := by rw [e1]; exact hO
    refine j_aload1 (pc := 138) dX2_imageOfThis_138 ?_
    refine g_X2_42 (pc := 139) rfl hO.1 hO.2.2.2.2.2.1.1 dX2_imageOfThis_139 ?_
    refine j_aload0 (pc := 142) dX2_imageOfThis_142 ?_
    refine g_X2_42 (pc := 143) rfl hA.1 hA.2.2.2.2.2.1.1 dX2_imageOfThis_143 ?_
    refine cd_X2_73 (pc := 146) rfl (S) hO.2.2.2.2.2.1.2.1 dX2_imageOfThis_146 rfl rfl ?_
    have hA := hA2
    have hO := hO2
    refine j_aload1 (pc := 149) dX2_imageOfThis_149 ?_
    refine j_aload0 (pc := 150) dX2_imageOfThis_150 ?_
    refine g_X2_42 (pc := 151) rfl hA.1 hA.2.2.2.2.2.1.1 dX2_imageOfThis_151 ?_
    refine g_X2_76 (pc := 154) rfl hA.2.2.2.2.2.1.2.1 dX2_imageOfThis_154 ?_
    refine p_X2_79 (pc := 157) rfl hO.1 dX2_imageOfThis_157 ?_
    show J cx mX2_imageOfThis _ (im7 g2 A O) _ _ _ _ _ _
    refine j_aload1 (pc := 160) dX2_imageOfThis_160 ?_
    refine j_aret (pc := 161) dX2_imageOfThis_161 rfl ?_
    exact hq
  have L2 : ∀ g, ImI h g O 0 → Q (some (.ref O)) (imT g A O c) → J cx mX2_imageOfThis (Rm 4 (c + 67 + 1) (c * 5 + 2082 + 11)) g 77 [some (.ref A), some (.ref O), some (.int (nI 0))] [] (c - 0) ((c - 0) * 5) Q := by
    intro g I0 hq
    have key : ∀ N, N ≤ c → ImI h (itr (imW A O) N g) O N := by
      intro N
      induction N with
      | zero => intro _; exact I0
      | succ N ih =>
        intro hN
        have I := ih (by omega)
        show ImI h (imW A O N (itr (imW A O) N g)) O (N + 1)
        generalize itr (imW A O) N g = y at I ⊢
        obtain ⟨q, hq1, hq2, hq3⟩ := hst N (by omega)
        have e : imW A O N y = imP y O N q := by unfold imW; rw [show y.r (A + 4) N = some q from ((I.1 (A + 4) (by omega)).2.1 N).trans hq1]
        rw [e]
        exact I.step
    refine dn (P := fun n => J cx mX2_imageOfThis (Rm 4 (c + 67 + 1) (c * 5 + 2082 + 11)) (itr (imW A O) n g) 77 [some (.ref A), some (.ref O), some (.int (nI n))] [] (c - n) ((c - n) * 5) Q) c ?_ ?_
    · have I := key c (Nat.le_refl _)
      unfold imT at hq
      generalize itr (imW A O) c g = y at I hq ⊢
      have L := L3 y I hq
      rw [Nat.sub_self, Nat.zero_mul]
      obtain ⟨i1, hO, i3⟩ := I
      have hC : y.i (A + 5) 7 = nI c := ((i1 _ (by omega)).2.2.1 7).trans hC
      have hA : RSh y.1 A := Eq1.rshA (fun x h1 h2 => i1 x (by omega)) hA
      refine j_iload2 (pc := 77) dX2_imageOfThis_77 ?_
      refine j_aload0 (pc := 78) dX2_imageOfThis_78 ?_
      refine g_X2_42 (pc := 79) rfl hA.1 hA.2.2.2.2.2.1.1 dX2_imageOfThis_79 ?_
      refine g_X2_65 (pc := 82) rfl hA.2.2.2.2.2.1.2.1 dX2_imageOfThis_82 ?_
      rw [hC]
      refine j_icmpN_ge (pc := 85) (tgt := 138) (by first | decide | omega) (by first | decide | omega) dX2_imageOfThis_85 (by decide) (fun c85 => ?_) (fun c85 => by omega)
      exact L
    · intro n hn ih
      have I := key n (by omega)
      have ih : J cx mX2_imageOfThis (Rm 4 (c + 67 + 1) (c * 5 + 2082 + 11)) (imW A O n (itr (imW A O) n g)) 77 [some (.ref A), some (.ref O), some (.int (nI (n + 1)))] [] (c - (n + 1)) ((c - (n + 1)) * 5) Q := ih
      generalize itr (imW A O) n g = y at I ih ⊢
      obtain ⟨q, hq1, hq2, hq3⟩ := hst n hn
      have hq1 : y.r (A + 4) n = some q := ((I.1 (A + 4) (by omega)).2.1 n).trans hq1
      have e : imW A O n y = imP y O n q := by unfold imW; rw [hq1]
      rw [e] at ih
      obtain ⟨i1, hO, i3⟩ := I
      have hq2 : y.kd q = kObj 3 := (i1 q (by omega)).1.trans hq2
      have hC : y.i (A + 5) 7 = nI c := ((i1 _ (by omega)).2.2.1 7).trans hC
      have hA : RSh y.1 A := Eq1.rshA (fun x h1 h2 => i1 x (by omega)) hA
      have hin : vp_in (nI n) 512 := pk_in n 512 (by omega) rfl
      have hcl : (nI n).toNatClampNeg = n := nI_clamp (by omega)
      have u1 : c - n = (c - (n + 1)) + 1 := by omega
      have u2 : (c - n) * 5 = (c - (n + 1)) * 5 + nC 3 := by show _ = _ + 5; omega
      rw [u2, u1]
      have kn : (y.new (10 + 3) 0).kd y.n = kObj 3 := by exact new_kn
      have ko : (y.new (10 + 3) 0).kd (O + 4) = kRefs 3 512 := (Eq1.new (by omega)).1.trans hO.2.2.2.2.1.2
      have S := t_init3 (cx := cx) kn
      have hA1 : RSh ((y.new (10 + 3) 0).setR (O + 4) n (some y.n)).1 A := Eq1.rshA (fun x h1 h2 => (Eq1.new (by omega)).trans (Eq1.setR (by omega))) hA
      have hO1 : RSh ((y.new (10 + 3) 0).setR (O + 4) n (some y.n)).1 O := RSh.of4 (fun x h1 h2 h3 => (Eq1.new (by omega)).trans (Eq1.setR h3)) (by exact (Eq1.new (by omega)).1) hO
      have hr1 : ((y.new (10 + 3) 0).setR (O + 4) n (some y.n)).r (O + 4) n = some y.n := up2_s _ _ _ _
      have hr2 : ((y.new (10 + 3) 0).setR (O + 4) n (some y.n)).r (A + 4) n = some q := (((Eq1.new (by omega)).trans (Eq1.setR (by omega))).2.1 n).trans hq1
      have hk1 : ((y.new (10 + 3) 0).setR (O + 4) n (some y.n)).kd y.n = kObj 3 := kn
      have hk2 : ((y.new (10 + 3) 0).setR (O + 4) n (some y.n)).kd q = kObj 3 := (Eq1.new (h := y) (t := 10 + 3) (len := 0) (x := q) (by omega)).1.trans hq2
      have S2 := t_copyFrom3 (cx := cx) hk1 hk2
      have ih : J cx mX2_imageOfThis (Rm 4 (c + 67 + 1) (c * 5 + 2082 + 11)) (cpS y.n q ((y.new (10 + 3) 0).setR (O + 4) n (some y.n))) 77 [some (.ref A), some (.ref O), some (.int (nI (n + 1)))] [] (c - (n + 1)) ((c - (n + 1)) * 5) Q := ih
      refine j_iload2 (pc := 77) dX2_imageOfThis_77 ?_
      refine j_aload0 (pc := 78) dX2_imageOfThis_78 ?_
      refine g_X2_42 (pc := 79) rfl hA.1 hA.2.2.2.2.2.1.1 dX2_imageOfThis_79 ?_
      refine g_X2_65 (pc := 82) rfl hA.2.2.2.2.2.1.2.1 dX2_imageOfThis_82 ?_
      rw [hC]
      refine j_icmpN_ge (pc := 85) (tgt := 138) (by first | decide | omega) (by first | decide | omega) dX2_imageOfThis_85 (by decide) (fun c85 => by omega) (fun c85 => ?_)
      refine j_iload2 (pc := 88) dX2_imageOfThis_88 ?_
      refine j_sipush (pc := 89) (v := nI 512) dX2_imageOfThis_89 (by decide) ?_
      refine j_icmpN_ge (pc := 92) (tgt := 138) (by first | decide | omega) (by first | decide | omega) dX2_imageOfThis_92 (by decide) (fun c92 => by omega) (fun c92 => ?_)
      refine j_aload0 (pc := 95) dX2_imageOfThis_95 ?_
      refine g_X2_35 (pc := 96) rfl hA.1 hA.2.2.2.2.1.1 dX2_imageOfThis_96 ?_
      refine j_iload2 (pc := 99) dX2_imageOfThis_99 ?_
      refine j_aald (pc := 100) (by decide) hA.2.2.2.2.1.2 hin (by rw [hcl]; exact hq1) dX2_imageOfThis_100 ?_
      refine j_ifnull (pc := 101) dX2_imageOfThis_101 ?_
      refine j_aload1 (pc := 104) dX2_imageOfThis_104 ?_
      refine g_X2_35 (pc := 105) rfl hO.1 hO.2.2.2.2.1.1 dX2_imageOfThis_105 ?_
      refine j_iload2 (pc := 108) dX2_imageOfThis_108 ?_
      refine j_new 3 cls_3 (by decide) wT_cl_X2_33 wT_ins_X3 wT_ini_X3 dX2_imageOfThis_109 ?_
      refine j_dup (pc := 112) dX2_imageOfThis_112 ?_
      refine cd_X2_68 (pc := 113) rfl (S) dX2_imageOfThis_113 rfl rfl ?_
      refine j_aast (pc := 116) (by decide) cls_3 ko kn hin dX2_imageOfThis_116 ?_
      rw [hcl]
      generalize (y.new (10 + 3) 0).setR (O + 4) n (some y.n) = z at hA1 hO1 hr1 hr2 hk1 hk2 S2 ih ⊢
      have hA := hA1
      have hO := hO1
      refine j_aload1 (pc := 117) dX2_imageOfThis_117 ?_
      refine g_X2_35 (pc := 118) rfl hO.1 hO.2.2.2.2.1.1 dX2_imageOfThis_118 ?_
      refine j_iload2 (pc := 121) dX2_imageOfThis_121 ?_
      refine j_aald (pc := 122) (by decide) hO.2.2.2.2.1.2 hin (by rw [hcl]; exact hr1) dX2_imageOfThis_122 ?_
      refine j_aload0 (pc := 123) dX2_imageOfThis_123 ?_
      refine g_X2_35 (pc := 124) rfl hA.1 hA.2.2.2.2.1.1 dX2_imageOfThis_124 ?_
      refine j_iload2 (pc := 127) dX2_imageOfThis_127 ?_
      refine j_aald (pc := 128) (by decide) hA.2.2.2.2.1.2 hin (by rw [hcl]; exact hr2) dX2_imageOfThis_128 ?_
      refine cd_X2_69 (pc := 129) rfl (S2) hk1 dX2_imageOfThis_129 rfl rfl ?_
      refine j_iincN2 (pc := 132) dX2_imageOfThis_132 (by decide) trivial ?_
      refine j_goto (pc := 135) (tgt := 77) dX2_imageOfThis_135 (by decide) ?_
      exact J.wk ih (by simp [lcw])
  have L1 : ∀ g, ImI h g O 0 → Q (some (.ref O)) (imT (imG g A O) A O c) → J cx mX2_imageOfThis (Rm 4 (c + 67 + 1) (c * 5 + 2082 + 11)) g 20 [some (.ref A), none, none] [.ref O] c (c * 5) Q := by
    intro g I hq
    have hIG : ImI h (imG g A O) O 0 := ⟨fun x hx => (I.1 x hx).trans ((((cpAI_eq (by omega)).trans (Eq1.setI (by omega))).trans (cpAI_eq (by omega))).trans (cpAL_eq (by omega))), I.2.1, I.2.2⟩
    have L := L2 (imG g A O) hIG hq
    unfold imG at L
    rw [Nat.sub_zero] at L
    obtain ⟨i1, hO, i3⟩ := I
    have hA : RSh g.1 A := Eq1.rshA (fun x h1 h2 => i1 x (by omega)) hA
    refine j_astore1 (pc := 20) dX2_imageOfThis_20 (by decide) trivial ?_
    refine j_aload0 (pc := 21) dX2_imageOfThis_21 ?_
    refine g_X2_22 (pc := 22) rfl hA.1 hA.2.1.1 dX2_imageOfThis_22 ?_
    refine j_iconst (pc := 25) (v := 0) dX2_imageOfThis_25 (by decide) ?_
    refine j_aload1 (pc := 26) dX2_imageOfThis_26 ?_
    refine g_X2_22 (pc := 27) rfl hO.1 hO.2.1.1 dX2_imageOfThis_27 ?_
    refine j_iconst (pc := 30) (v := 0) dX2_imageOfThis_30 (by decide) ?_
    refine j_bipush (pc := 31) (v := 60) dX2_imageOfThis_31 (by decide) ?_
    refine j_copyI rfl hA.2.1.2 hO.2.1.2 (by decide) (by decide) (by decide) (by decide) rfl rfl dX2_imageOfThis_33 ?_
    show J cx mX2_imageOfThis _ (im1 g A O) _ _ _ _ _ _
    refine j_aload1 (pc := 36) dX2_imageOfThis_36 ?_
    refine j_aload0 (pc := 37) dX2_imageOfThis_37 ?_
    refine g_X2_62 (pc := 38) rfl hA.1 dX2_imageOfThis_38 ?_
    refine p_X2_62 (pc := 41) rfl hO.1 dX2_imageOfThis_41 ?_
    show J cx mX2_imageOfThis _ (im2 (im1 g A O) A O) _ _ _ _ _ _
    refine j_aload0 (pc := 44) dX2_imageOfThis_44 ?_
    refine g_X2_26 (pc := 45) rfl hA.1 hA.2.2.1.1 dX2_imageOfThis_45 ?_
    refine j_iconst (pc := 48) (v := 0) dX2_imageOfThis_48 (by decide) ?_
    refine j_aload1 (pc := 49) dX2_imageOfThis_49 ?_
    refine g_X2_26 (pc := 50) rfl hO.1 hO.2.2.1.1 dX2_imageOfThis_50 ?_
    refine j_iconst (pc := 53) (v := 0) dX2_imageOfThis_53 (by decide) ?_
    refine j_bipush (pc := 54) (v := 60) dX2_imageOfThis_54 (by decide) ?_
    refine j_copyI rfl hA.2.2.1.2 hO.2.2.1.2 (by decide) (by decide) (by decide) (by decide) rfl rfl dX2_imageOfThis_56 ?_
    show J cx mX2_imageOfThis _ (im3 (im2 (im1 g A O) A O) A O) _ _ _ _ _ _
    refine j_aload0 (pc := 59) dX2_imageOfThis_59 ?_
    refine g_X2_29 (pc := 60) rfl hA.1 hA.2.2.2.1.1 dX2_imageOfThis_60 ?_
    refine j_iconst (pc := 63) (v := 0) dX2_imageOfThis_63 (by decide) ?_
    refine j_aload1 (pc := 64) dX2_imageOfThis_64 ?_
    refine g_X2_29 (pc := 65) rfl hO.1 hO.2.2.2.1.1 dX2_imageOfThis_65 ?_
    refine j_iconst (pc := 68) (v := 0) dX2_imageOfThis_68 (by decide) ?_
    refine j_sipush (pc := 69) (v := 240) dX2_imageOfThis_69 (by decide) ?_
    refine j_copyL rfl hA.2.2.2.1.2 hO.2.2.2.1.2 (by decide) (by decide) (by decide) (by decide) rfl rfl dX2_imageOfThis_72 ?_
    show J cx mX2_imageOfThis _ (im4 (im3 (im2 (im1 g A O) A O) A O) A O) _ _ _ _ _ _
    refine j_iconst (pc := 75) (v := nI 0) dX2_imageOfThis_75 (by decide) ?_
    refine j_istore2 (pc := 76) dX2_imageOfThis_76 (by decide) trivial ?_
    exact L
  refine j_new 2 cls_2 (by decide) wT_cl_X2_10 wT_ins_X2 wT_ini_X2 dX2_imageOfThis_0 ?_
  rw [hOO]
  have hA1 : RSh (h.new (10 + 2) 0).1 A := Eq1.rshA (fun x h1 h2 => e0 x (by omega)) hA
  have q0 : (h.new (10 + 2) 0).i A 0 = h.i A 0 := (e0 A (by omega)).2.2.1 0
  have q1 : (h.new (10 + 2) 0).l A 1 = h.l A 1 := (e0 A (by omega)).2.2.2 1
  have q2 : (h.new (10 + 2) 0).l A 2 = h.l A 2 := (e0 A (by omega)).2.2.2 2
  have hA := hA1
  refine j_dup (pc := 3) dX2_imageOfThis_3 ?_
  refine j_aload0 (pc := 4) dX2_imageOfThis_4 ?_
  refine g_X2_9 (pc := 5) rfl hA.1 dX2_imageOfThis_5 ?_
  rw [q0]
  refine j_aload0 (pc := 8) dX2_imageOfThis_8 ?_
  refine g_X2_15 (pc := 9) rfl hA.1 dX2_imageOfThis_9 ?_
  rw [q1]
  refine j_aload0 (pc := 12) dX2_imageOfThis_12 ?_
  refine g_X2_19 (pc := 13) rfl hA.1 dX2_imageOfThis_13 ?_
  rw [q2]
  refine j_lconst (pc := 16) (v := 0) dX2_imageOfThis_16 (by decide) ?_
  refine cs_X2_53 (pc := 17) rfl (S0) dX2_imageOfThis_17 rfl rfl (by omega) (by omega) (fun h' q => ?_)
  subst q
  rw [show c + 67 - 67 = c by omega, show c * 5 + 2082 - 2082 = c * 5 by omega]
  exact L1 _ hI0 (hQ _ _ ⟨some O, rfl, rfl, rfl⟩)
end

