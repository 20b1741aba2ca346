/-! the class PurseRing: a new one; new rings; the list; what is counted -/
def prN (h : Hp) (X : Nat) : Hp := (((h.new (3 + 2) 40).setR X 0 (some (X + 1))).new 2 180).setR X 2 (some (X + 2))
def pAdd (h : Hp) (X n A : Nat) : Hp := (h.setR (X + 1) n (some A)).setI X 1 (nI (n + 1))
def fitsR (k p f c : Int32) : Bool := wn k.toInt64 0 3 && (wn p.toInt64 1 9999999 && (wn f.toInt64 0 9999999 && wn c.toInt64 0 2000000000))
def pRing (h : Hp) (X n : Nat) (k p f c : Int32) : Int32 × Hp := if fitsR k p f c = true ∧ n < 40 then (nI n, pAdd (rgN (h.new (10 + 2) 0) h.n k p.toInt64 f.toInt64 c.toInt64) X n h.n) else (-1, h)
def pTell (h : Hp) (X m : Nat) (x : Int64) : Int32 × Hp := if m < 180 then (nI (m + 1), (h.setL (X + 2) m x).setI X 3 (nI (m + 1))) else (-1, h)
def pAs (h : Hp) (A r : Nat) (k s w : Int32) : Int64 := match rAh h A r k with | none => -1 | some b => bVal h b s w
section
variable {cx : Cx} {h : Hp} {X n : Nat} {r : Int32}
theorem qx_init (hk : h.kd X = kObj 4) (hn : h.n = X + 1) : Sp cx mX4_init 1 2 220 h [.ref X] (Rv fun g => g = prN h X) := by
  refine Sp.of 0 (by decide) (Nat.le_of_ble_eq_true rfl) rfl ?_
  have k1 : (h.new (3 + 2) 40).kd X = kObj 4 := (new_kd (by omega)).trans hk
  have n2 : ((h.new (3 + 2) 40).setR X 0 (some (X + 1))).n = X + 2 := by show h.n + 1 = _; omega
  have k2 : (((h.new (3 + 2) 40).setR X 0 (some (X + 1))).new 2 180).kd X = kObj 4 := (new_kd (by omega)).trans k1
  refine j_aload0 (pc := 0) dX4_init_0 ?_
  refine ob_X4_1 (pc := 1) rfl (by decide) rfl dX4_init_1 ?_
  refine j_aload0 (pc := 4) dX4_init_4 ?_
  refine j_bipush (pc := 5) (v := 40) dX4_init_5 (by decide) ?_
  refine j_newR 2 (N := 40) (by decide) (by decide) (by decide) (by decide) wT_cl_X4_9 dX4_init_7 ?_
  rw [hn]
  refine p_X4_11 (pc := 10) rfl k1 rfl dX4_init_10 ?_
  refine j_aload0 (pc := 13) dX4_init_13 ?_
  refine j_sipush (pc := 14) (v := 180) dX4_init_14 (by decide) ?_
  refine j_newL (N := 180) (by decide) (by decide) (by decide) wT_arr_long dX4_init_17 ?_
  rw [n2]
  refine p_X4_15 (pc := 19) rfl k2 rfl dX4_init_19 ?_
  refine j_vret (pc := 22) dX4_init_22 rfl ?_
  exact ⟨rfl, rfl⟩
theorem qx_added {A : Nat} (hX : PSh h.1 X) (hN : h.i X 1 = nI n) (hn : n < 40) (hk : h.kd A = kObj 2) : DI cx mX4_added 0 h [.ref X, .ref A] (nI n) (pAdd h X n A) := by
  have hin : vp_in (nI n) 40 := pk_in n 40 (by omega) rfl
  have hcl : (nI n).toNatClampNeg = n := nI_clamp (by omega)
  have hN1 : (h.setR (X + 1) n (some A)).i X 1 = nI n := hN
  have hN2 : (pAdd h X n A).i X 1 = nI (n + 1) := up2_s _ _ _ _
  refine Sp.of 0 (by decide) (Nat.le_of_ble_eq_true rfl) rfl ?_
  refine j_aload0 (pc := 0) dX4_added_0 ?_
  refine g_X4_29 (pc := 1) rfl hX.1 dX4_added_1 ?_
  rw [hN]
  refine j_bipush (pc := 4) (v := nI 40) dX4_added_4 (by decide) ?_
  refine j_icmpN_lt (pc := 6) (tgt := 11) (by first | decide | omega) (by first | decide | omega) dX4_added_6 (by decide) (fun c6 => ?_) (fun c6 => by omega)
  refine j_aload0 (pc := 11) dX4_added_11 ?_
  refine g_X4_11 (pc := 12) rfl hX.1 hX.2.1.1 dX4_added_12 ?_
  refine j_aload0 (pc := 15) dX4_added_15 ?_
  refine g_X4_29 (pc := 16) rfl hX.1 dX4_added_16 ?_
  rw [hN]
  refine j_aload1 (pc := 19) dX4_added_19 ?_
  refine j_aast (pc := 20) (by decide) cls_2 hX.2.1.2 hk hin dX4_added_20 ?_
  rw [hcl]
  refine j_aload0 (pc := 21) dX4_added_21 ?_
  refine j_dup (pc := 22) dX4_added_22 ?_
  refine g_X4_29 (pc := 23) rfl hX.1 dX4_added_23 ?_
  rw [hN1]
  refine j_iconst (pc := 26) (v := nI 1) dX4_added_26 (by decide) ?_
  refine j_iaddN (pc := 27) dX4_added_27 ?_
  refine p_X4_29 (pc := 28) rfl hX.1 dX4_added_28 ?_
  show J cx mX4_added _ (pAdd h X n A) _ _ _ _ _ _
  refine j_aload0 (pc := 31) dX4_added_31 ?_
  refine g_X4_29 (pc := 32) rfl hX.1 dX4_added_32 ?_
  rw [hN2]
  refine j_iconst (pc := 35) (v := nI 1) dX4_added_35 (by decide) ?_
  refine j_isubN (pc := 36) (by omega) dX4_added_36 ?_
  rw [Nat.add_sub_cancel]
  refine j_iret (pc := 37) dX4_added_37 rfl rfl ?_
  exact ⟨_, rfl, rfl, rfl⟩
theorem qx_ring {k p f c : Int32} (hX : PSh h.1 X) (hN : h.i X 1 = nI n) (hn : n ≤ 40) (hXn : X + 3 ≤ h.n) : Sp cx mX4_ring 4 68 2093 h [.ref X, .int k, .int p, .int f, .int c] (Ri fun y g => y = (pRing h X n k p f c).1 ∧ g = (pRing h X n k p f c).2) := by
  have S1 : DB cx mX4_within 0 h [.long k.toInt64, .long 0, .long 3] (wn k.toInt64 0 3) h := t_within
  have S2 : DB cx mX4_within 0 h [.long p.toInt64, .long 1, .long 9999999] (wn p.toInt64 1 9999999) h := t_within
  have S3 : DB cx mX4_within 0 h [.long f.toInt64, .long 0, .long 9999999] (wn f.toInt64 0 9999999) h := t_within
  have S4 : DB cx mX4_within 0 h [.long c.toInt64, .long 0, .long 2000000000] (wn c.toInt64 0 2000000000) h := t_within
  unfold pRing fitsR
  generalize wn k.toInt64 0 3 = b1 at S1 ⊢
  generalize wn p.toInt64 1 9999999 = b2 at S2 ⊢
  generalize wn f.toInt64 0 9999999 = b3 at S3 ⊢
  generalize wn c.toInt64 0 2000000000 = b4 at S4 ⊢
  have hk0 : (h.new (10 + 2) 0).kd h.n = kObj 2 := by exact new_kn
  have hn0 : (h.new (10 + 2) 0).n = h.n + 1 := rfl
  have S5 := t_init2 (cx := cx) (k := k) (p := p.toInt64) (f := f.toInt64) (c := c.toInt64) hk0 hn0
  have V := rgN_val (k := k) (p := p.toInt64) (f := f.toInt64) (c := c.toInt64) hk0 hn0
  have e : ∀ x, x < h.n → Eq1 h (rgN (h.new (10 + 2) 0) h.n k p.toInt64 f.toInt64 c.toInt64) x := fun x hx => (Eq1.new (by omega)).trans (V.2.2.1 x hx)
  have hA := V.1.1
  generalize rgN (h.new (10 + 2) 0) h.n k p.toInt64 f.toInt64 c.toInt64 = g at S5 e hA ⊢
  have hX1 : PSh g.1 X := ⟨(e X (by omega)).1.trans hX.1, ⟨((e X (by omega)).2.1 0).trans hX.2.1.1, (e (X + 1) (by omega)).1.trans hX.2.1.2⟩, ⟨((e X (by omega)).2.1 2).trans hX.2.2.1, (e (X + 2) (by omega)).1.trans hX.2.2.2⟩⟩
  have hN1 : g.i X 1 = nI n := ((e X (by omega)).2.2.1 1).trans hN
  refine Sp.ofQ 1 (by decide) (Nat.le_of_ble_eq_true rfl) rfl (fun Q hQ => ?_)
  have L : ∀ b : Bool, b = (b1 && (b2 && (b3 && b4))) → J cx mX4_ring (Rm 4 68 2093) h 54 [some (.ref X), some (.int k), some (.int p), some (.int f), some (.int c), none] [.int (b2i b)] 68 2093 Q := by
    intro b hb
    rw [← hb] at hQ
    refine j_istore5 (pc := 54) dX4_ring_54 (by decide) trivial ?_
    refine j_iload5 (pc := 56) dX4_ring_56 ?_
    refine j_bif_eq (pc := 58) (tgt := 70) dX4_ring_58 (by decide) (fun c58 => ?_) (fun c58 => ?_)
    · refine j_iconst (pc := 70) (v := (-1)) dX4_ring_70 (by decide) ?_
      have zz : ¬ (b = true ∧ n < 40) := by first | exact fun z => nb z.1 c58 | exact fun z => absurd z.2 (Nat.not_lt.mpr c67)
      refine j_iret (pc := 71) dX4_ring_71 rfl rfl ?_
      exact hQ _ _ ⟨_, rfl, by rw [if_neg zz], by rw [if_neg zz]⟩
    · refine j_aload0 (pc := 61) dX4_ring_61 ?_
      refine g_X4_29 (pc := 62) rfl hX.1 dX4_ring_62 ?_
      rw [hN]
      refine j_bipush (pc := 65) (v := nI 40) dX4_ring_65 (by decide) ?_
      refine j_icmpN_lt (pc := 67) (tgt := 72) (by first | decide | omega) (by first | decide | omega) dX4_ring_67 (by decide) (fun c67 => ?_) (fun c67 => ?_)
      · refine j_aload0 (pc := 72) dX4_ring_72 ?_
        refine j_new 2 cls_2 (by decide) wT_cl_X4_9 wT_ins_X2 wT_ini_X2 dX4_ring_73 ?_
        refine j_dup (pc := 76) dX4_ring_76 ?_
        refine j_iload1 (pc := 77) dX4_ring_77 ?_
        refine j_iload2 (pc := 78) dX4_ring_78 ?_
        refine j_i2l (pc := 79) dX4_ring_79 ?_
        refine j_iload3 (pc := 80) dX4_ring_80 ?_
        refine j_i2l (pc := 81) dX4_ring_81 ?_
        refine j_iload4 (pc := 82) dX4_ring_82 ?_
        refine j_i2l (pc := 84) dX4_ring_84 ?_
        refine cs_X4_33 (pc := 85) rfl (S5) dX4_ring_85 rfl rfl (by decide) (by decide) (fun h' q => ?_)
        subst q
        refine cd_X4_36 (pc := 88) rfl (qx_added hX1 hN1 c67 hA) hX1.1 dX4_ring_88 rfl rfl ?_
        refine j_iret (pc := 91) dX4_ring_91 rfl rfl ?_
        exact hQ _ _ ⟨_, rfl, by rw [if_pos ⟨c58, c67⟩], by rw [if_pos ⟨c58, c67⟩]⟩
      · refine j_iconst (pc := 70) (v := (-1)) dX4_ring_70 (by decide) ?_
        have zz : ¬ (b = true ∧ n < 40) := by first | exact fun z => nb z.1 c58 | exact fun z => absurd z.2 (Nat.not_lt.mpr c67)
        refine j_iret (pc := 71) dX4_ring_71 rfl rfl ?_
        exact hQ _ _ ⟨_, rfl, by rw [if_neg zz], by rw [if_neg zz]⟩
  refine j_iload1 (pc := 0) dX4_ring_0 ?_
  refine j_i2l (pc := 1) dX4_ring_1 ?_
  refine j_lconst (pc := 2) (v := 0) dX4_ring_2 (by decide) ?_
  refine j_ldc2 (pc := 3) dX4_ring_3 wT_kl_X4_19 ?_
  refine cd_X4_21 (pc := 6) rfl (S1) dX4_ring_6 rfl rfl ?_
  refine j_bif_eq (pc := 9) (tgt := 53) dX4_ring_9 (by decide) (fun c9 => ?_) (fun c9 => ?_)
  · refine j_iconst (pc := 53) (v := 0) dX4_ring_53 (by decide) ?_
    first | (have L := L true (by rw [c9, c21, c33, c46]; rfl); exact L) | (have L := L false (by rw [c9]; rfl); exact L) | (have L := L false (by rw [c21, Bool.false_and, Bool.and_false]); exact L) | (have L := L false (by rw [c33, Bool.false_and, Bool.and_false, Bool.and_false]); exact L) | (have L := L false (by rw [c46, Bool.and_false, Bool.and_false, Bool.and_false]); exact L)
  · refine j_iload2 (pc := 12) dX4_ring_12 ?_
    refine j_i2l (pc := 13) dX4_ring_13 ?_
    refine j_lconst (pc := 14) (v := 1) dX4_ring_14 (by decide) ?_
    refine j_ldc2 (pc := 15) dX4_ring_15 wT_kl_X4_25 ?_
    refine cd_X4_21 (pc := 18) rfl (S2) dX4_ring_18 rfl rfl ?_
    refine j_bif_eq (pc := 21) (tgt := 53) dX4_ring_21 (by decide) (fun c21 => ?_) (fun c21 => ?_)
    · refine j_iconst (pc := 53) (v := 0) dX4_ring_53 (by decide) ?_
      first | (have L := L true (by rw [c9, c21, c33, c46]; rfl); exact L) | (have L := L false (by rw [c9]; rfl); exact L) | (have L := L false (by rw [c21, Bool.false_and, Bool.and_false]); exact L) | (have L := L false (by rw [c33, Bool.false_and, Bool.and_false, Bool.and_false]); exact L) | (have L := L false (by rw [c46, Bool.and_false, Bool.and_false, Bool.and_false]); exact L)
    · refine j_iload3 (pc := 24) dX4_ring_24 ?_
      refine j_i2l (pc := 25) dX4_ring_25 ?_
      refine j_lconst (pc := 26) (v := 0) dX4_ring_26 (by decide) ?_
      refine j_ldc2 (pc := 27) dX4_ring_27 wT_kl_X4_25 ?_
      refine cd_X4_21 (pc := 30) rfl (S3) dX4_ring_30 rfl rfl ?_
      refine j_bif_eq (pc := 33) (tgt := 53) dX4_ring_33 (by decide) (fun c33 => ?_) (fun c33 => ?_)
      · refine j_iconst (pc := 53) (v := 0) dX4_ring_53 (by decide) ?_
        first | (have L := L true (by rw [c9, c21, c33, c46]; rfl); exact L) | (have L := L false (by rw [c9]; rfl); exact L) | (have L := L false (by rw [c21, Bool.false_and, Bool.and_false]); exact L) | (have L := L false (by rw [c33, Bool.false_and, Bool.and_false, Bool.and_false]); exact L) | (have L := L false (by rw [c46, Bool.and_false, Bool.and_false, Bool.and_false]); exact L)
      · refine j_iload4 (pc := 36) dX4_ring_36 ?_
        refine j_i2l (pc := 38) dX4_ring_38 ?_
        refine j_lconst (pc := 39) (v := 0) dX4_ring_39 (by decide) ?_
        refine j_ldc2 (pc := 40) dX4_ring_40 wT_kl_X4_27 ?_
        refine cd_X4_21 (pc := 43) rfl (S4) dX4_ring_43 rfl rfl ?_
        refine j_bif_eq (pc := 46) (tgt := 53) dX4_ring_46 (by decide) (fun c46 => ?_) (fun c46 => ?_)
        · refine j_iconst (pc := 53) (v := 0) dX4_ring_53 (by decide) ?_
          first | (have L := L true (by rw [c9, c21, c33, c46]; rfl); exact L) | (have L := L false (by rw [c9]; rfl); exact L) | (have L := L false (by rw [c21, Bool.false_and, Bool.and_false]); exact L) | (have L := L false (by rw [c33, Bool.false_and, Bool.and_false, Bool.and_false]); exact L) | (have L := L false (by rw [c46, Bool.and_false, Bool.and_false, Bool.and_false]); exact L)
        · refine j_iconst (pc := 49) (v := 1) dX4_ring_49 (by decide) ?_
          refine j_goto (pc := 50) (tgt := 54) dX4_ring_50 (by decide) ?_
          first | (have L := L true (by rw [c9, c21, c33, c46]; rfl); exact L) | (have L := L false (by rw [c9]; rfl); exact L) | (have L := L false (by rw [c21, Bool.false_and, Bool.and_false]); exact L) | (have L := L false (by rw [c33, Bool.false_and, Bool.and_false, Bool.and_false]); exact L) | (have L := L false (by rw [c46, Bool.and_false, Bool.and_false, Bool.and_false]); exact L)
theorem qn_image (hX : PSh h.1 X) (hN : h.i X 1 = nI n) (hn : n ≤ 40) (hr : pF h X n r = none) : DI cx mX4_image 1 h [.ref X, .int r] (-1) h := by
  have S := qx_found (cx := cx) (r := r) hX hN hn
  rw [hr] at S
  refine Sp.of 1 (by decide) (Nat.le_of_ble_eq_true rfl) rfl ?_
  refine j_aload0 (pc := 0) dX4_image_0 ?_
  refine j_iload1 (pc := 1) dX4_image_1 ?_
  refine cd_X4_40 (pc := 2) rfl (S) hX.1 dX4_image_2 rfl rfl ?_
  refine j_rn ?_
  refine j_nstore2 (pc := 5) dX4_image_5 (by decide) trivial ?_
  refine j_nload2 (pc := 6) dX4_image_6 ?_
  refine j_ifnullN (pc := 7) (tgt := 19) dX4_image_7 (by decide) ?_
  refine j_iconst (pc := 19) (v := (-1)) dX4_image_19 (by decide) ?_
  refine j_iret (pc := 20) dX4_image_20 rfl rfl ?_
  exact ⟨_, rfl, rfl, rfl⟩
theorem qf_image {A : Nat} (hX : PSh h.1 X) (hN : h.i X 1 = nI n) (hn : n = 40) (hr : pF h X n r = some A) : DI cx mX4_image 1 h [.ref X, .int r] (-1) h := by
  have S := qx_found (cx := cx) (r := r) hX hN (by omega)
  rw [hr] at S
  refine Sp.of 1 (by decide) (Nat.le_of_ble_eq_true rfl) rfl ?_
  refine j_aload0 (pc := 0) dX4_image_0 ?_
  refine j_iload1 (pc := 1) dX4_image_1 ?_
  refine cd_X4_40 (pc := 2) rfl (S) hX.1 dX4_image_2 rfl rfl ?_
  refine j_rs ?_
  refine j_astore2 (pc := 5) dX4_image_5 (by decide) trivial ?_
  refine j_aload2 (pc := 6) dX4_image_6 ?_
  refine j_ifnull (pc := 7) dX4_image_7 ?_
  refine j_aload0 (pc := 10) dX4_image_10 ?_
  refine g_X4_29 (pc := 11) rfl hX.1 dX4_image_11 ?_
  rw [hN]
  refine j_bipush (pc := 14) (v := nI 40) dX4_image_14 (by decide) ?_
  refine j_icmpN_lt (pc := 16) (tgt := 21) (by first | decide | omega) (by first | decide | omega) dX4_image_16 (by decide) (fun c16 => by omega) (fun c16 => ?_)
  refine j_iconst (pc := 19) (v := (-1)) dX4_image_19 (by decide) ?_
  refine j_iret (pc := 20) dX4_image_20 rfl rfl ?_
  exact ⟨_, rfl, rfl, rfl⟩
theorem qs_image {A c : Nat} (hX : PSh h.1 X) (hN : h.i X 1 = nI n) (hn : n < 40) (hr : pF h X n r = some A) (hA : RSh h.1 A) (hX1 : PSh (rIm h A c).1 X) (hN1 : (rIm h A c).i X 1 = nI n) (hk : (rIm h A c).kd h.n = kObj 2) (T : Sp cx mX2_imageOfThis 4 (c + 67 + 1) (c * 5 + 2082 + 11) h [.ref A] (Rr fun y g => y = some h.n ∧ g = rIm h A c)) : Sp cx mX4_image 5 (c + 67 + 1) (c * 5 + 2082 + 11) h [.ref X, .int r] (Ri fun y g => y = nI n ∧ g = pAdd (rIm h A c) X n h.n) := by
  have S := qx_found (cx := cx) (r := r) hX hN (by omega)
  rw [hr] at S
  have S2 := qx_added (cx := cx) hX1 hN1 hn hk
  refine Sp.of 1 (by decide) (Nat.le_of_ble_eq_true rfl) rfl ?_
  generalize rIm h A c = g at T S2 hX1
  refine j_aload0 (pc := 0) dX4_image_0 ?_
  refine j_iload1 (pc := 1) dX4_image_1 ?_
  refine cd_X4_40 (pc := 2) rfl (S) hX.1 dX4_image_2 rfl rfl ?_
  refine j_rs ?_
  refine j_astore2 (pc := 5) dX4_image_5 (by decide) trivial ?_
  refine j_aload2 (pc := 6) dX4_image_6 ?_
  refine j_ifnull (pc := 7) dX4_image_7 ?_
  refine j_aload0 (pc := 10) dX4_image_10 ?_
  refine g_X4_29 (pc := 11) rfl hX.1 dX4_image_11 ?_
  rw [hN]
  refine j_bipush (pc := 14) (v := nI 40) dX4_image_14 (by decide) ?_
  refine j_icmpN_lt (pc := 16) (tgt := 21) (by first | decide | omega) (by first | decide | omega) dX4_image_16 (by decide) (fun c16 => ?_) (fun c16 => by omega)
  refine j_aload0 (pc := 21) dX4_image_21 ?_
  refine j_aload2 (pc := 22) dX4_image_22 ?_
  refine cs_X4_127 (pc := 23) rfl (T) hA.1 dX4_image_23 rfl rfl (Nat.le_refl _) (Nat.le_refl _) (fun x h' q => ?_)
  obtain ⟨q1, q2⟩ := q
  rw [q1, q2]
  clear q1 q2
  refine j_rs ?_
  refine cd_X4_36 (pc := 26) rfl (S2) hX1.1 dX4_image_26 rfl rfl ?_
  refine j_iret (pc := 29) dX4_image_29 rfl rfl ?_
  exact ⟨_, rfl, rfl, rfl⟩
theorem qx_tell {x : Int64} {m : Nat} (hX : PSh h.1 X) (hM : h.i X 3 = nI m) (hm : m ≤ 180) : DI cx mX4_tell 0 h [.ref X, .long x] (pTell h X m x).1 (pTell h X m x).2 := by
  unfold pTell
  by_cases h1 : m < 180
  · rw [if_pos h1]
    have hin : vp_in (nI m) 180 := pk_in m 180 (by omega) rfl
    have hcl : (nI m).toNatClampNeg = m := nI_clamp (by omega)
    have hM1 : (h.setL (X + 2) m x).i X 3 = nI m := hM
    have hM2 : ((h.setL (X + 2) m x).setI X 3 (nI (m + 1))).i X 3 = nI (m + 1) := up2_s _ _ _ _
    refine Sp.of 0 (by decide) (Nat.le_of_ble_eq_true rfl) rfl ?_
    refine j_aload0 (pc := 0) dX4_tell_0 ?_
    refine g_X4_131 (pc := 1) rfl hX.1 dX4_tell_1 ?_
    rw [hM]
    refine j_sipush (pc := 4) (v := nI 180) dX4_tell_4 (by decide) ?_
    refine j_icmpN_lt (pc := 7) (tgt := 12) (by first | decide | omega) (by first | decide | omega) dX4_tell_7 (by decide) (fun c7 => ?_) (fun c7 => by omega)
    refine j_aload0 (pc := 12) dX4_tell_12 ?_
    refine g_X4_15 (pc := 13) rfl hX.1 hX.2.2.1 dX4_tell_13 ?_
    refine j_aload0 (pc := 16) dX4_tell_16 ?_
    refine g_X4_131 (pc := 17) rfl hX.1 dX4_tell_17 ?_
    rw [hM]
    refine j_lload1 (pc := 20) dX4_tell_20 ?_
    refine j_last (pc := 21) hX.2.2.2 hin dX4_tell_21 ?_
    rw [hcl]
    refine j_aload0 (pc := 22) dX4_tell_22 ?_
    refine j_dup (pc := 23) dX4_tell_23 ?_
    refine g_X4_131 (pc := 24) rfl hX.1 dX4_tell_24 ?_
    rw [hM1]
    refine j_iconst (pc := 27) (v := nI 1) dX4_tell_27 (by decide) ?_
    refine j_iaddN (pc := 28) dX4_tell_28 ?_
    refine p_X4_131 (pc := 29) rfl hX.1 dX4_tell_29 ?_
    refine j_aload0 (pc := 32) dX4_tell_32 ?_
    refine g_X4_131 (pc := 33) rfl hX.1 dX4_tell_33 ?_
    rw [hM2]
    refine j_iret (pc := 36) dX4_tell_36 rfl rfl ?_
    exact ⟨_, rfl, rfl, rfl⟩
  · rw [if_neg h1]
    refine Sp.of 0 (by decide) (Nat.le_of_ble_eq_true rfl) rfl ?_
    refine j_aload0 (pc := 0) dX4_tell_0 ?_
    refine g_X4_131 (pc := 1) rfl hX.1 dX4_tell_1 ?_
    rw [hM]
    refine j_sipush (pc := 4) (v := nI 180) dX4_tell_4 (by decide) ?_
    refine j_icmpN_lt (pc := 7) (tgt := 12) (by first | decide | omega) (by first | decide | omega) dX4_tell_7 (by decide) (fun c7 => by omega) (fun c7 => ?_)
    refine j_iconst (pc := 10) (v := (-1)) dX4_tell_10 (by decide) ?_
    refine j_iret (pc := 11) dX4_tell_11 rfl rfl ?_
    exact ⟨_, rfl, rfl, rfl⟩
theorem qn_check (hX : PSh h.1 X) (hN : h.i X 1 = nI n) (hn : n ≤ 40) (hr : pF h X n r = none) : DI cx mX4_check 1 h [.ref X, .int r] (-2) (h.setI X 3 0) := by
  have S := qx_found (cx := cx) (h := h.setI X 3 0) (r := r) hX ((up2_k _ _ (by decide)).trans hN) hn
  rw [show pF (h.setI X 3 0) X n r = none from hr] at S
  refine Sp.of 2 (by decide) (Nat.le_of_ble_eq_true rfl) rfl ?_
  refine j_aload0 (pc := 0) dX4_check_0 ?_
  refine g_X4_131 (pc := 1) rfl hX.1 dX4_check_1 ?_
  refine j_istore2 (pc := 4) dX4_check_4 (by decide) trivial ?_
  refine j_aload0 (pc := 5) dX4_check_5 ?_
  refine j_iconst (pc := 6) (v := 0) dX4_check_6 (by decide) ?_
  refine p_X4_131 (pc := 7) rfl hX.1 dX4_check_7 ?_
  refine j_aload0 (pc := 10) dX4_check_10 ?_
  refine j_iload1 (pc := 11) dX4_check_11 ?_
  refine cd_X4_40 (pc := 12) rfl (S) hX.1 dX4_check_12 rfl rfl ?_
  refine j_rn ?_
  refine j_nstore3 (pc := 15) dX4_check_15 (by decide) trivial ?_
  refine j_nload3 (pc := 16) dX4_check_16 ?_
  refine j_ifnullN (pc := 17) (tgt := 33) dX4_check_17 (by decide) ?_
  refine j_bipush (pc := 33) (v := (-2)) dX4_check_33 (by decide) ?_
  refine j_iret (pc := 35) dX4_check_35 rfl rfl ?_
  exact ⟨_, rfl, rfl, rfl⟩
theorem qs_check {A m rd : Nat} (hX : PSh h.1 X) (hN : h.i X 1 = nI n) (hn : n ≤ 40) (hr : pF h X n r = some A) (hA : RSh h.1 A) (hM : h.i X 3 = nI m) (hm : m ≤ 180) (hAX : A + 5 ≠ X) (hR : h.i (A + 5) 2 = nI rd) (hrd : rd ≤ 60) : DI cx mX4_check 1 h [.ref X, .int r] (if m = 3 * rd then woI (fnd (foK h A (X + 2)) rd) else -2) (h.setI X 3 0) := by
  have S := qx_found (cx := cx) (h := h.setI X 3 0) (r := r) hX ((up2_k _ _ (by decide)).trans hN) hn
  rw [show pF (h.setI X 3 0) X n r = some A from hr] at S
  have hR1 : (h.setI X 3 0).i (A + 5) 2 = nI rd := (up2_a _ _ hAX).trans hR
  have S2 := t_firstOtherwise (cx := cx) (h := h.setI X 3 0) (A := A) (X := X + 2) hA hX.2.2.2 hR1 hrd
  refine Sp.of 2 (by decide) (Nat.le_of_ble_eq_true rfl) rfl ?_
  refine j_aload0 (pc := 0) dX4_check_0 ?_
  refine g_X4_131 (pc := 1) rfl hX.1 dX4_check_1 ?_
  rw [hM]
  refine j_istore2 (pc := 4) dX4_check_4 (by decide) trivial ?_
  refine j_aload0 (pc := 5) dX4_check_5 ?_
  refine j_iconst (pc := 6) (v := 0) dX4_check_6 (by decide) ?_
  refine p_X4_131 (pc := 7) rfl hX.1 dX4_check_7 ?_
  refine j_aload0 (pc := 10) dX4_check_10 ?_
  refine j_iload1 (pc := 11) dX4_check_11 ?_
  refine cd_X4_40 (pc := 12) rfl (S) hX.1 dX4_check_12 rfl rfl ?_
  refine j_rs ?_
  refine j_astore3 (pc := 15) dX4_check_15 (by decide) trivial ?_
  refine j_aload3 (pc := 16) dX4_check_16 ?_
  refine j_ifnull (pc := 17) dX4_check_17 ?_
  refine j_iload2 (pc := 20) dX4_check_20 ?_
  refine j_iconst (pc := 21) (v := nI 3) dX4_check_21 (by decide) ?_
  refine j_aload3 (pc := 22) dX4_check_22 ?_
  refine g_X4_48 (pc := 23) rfl hA.1 hA.2.2.2.2.2.1.1 dX4_check_23 ?_
  refine g_X4_134 (pc := 26) rfl hA.2.2.2.2.2.1.2.1 dX4_check_26 ?_
  rw [hR1]
  refine j_imulN (pc := 29) dX4_check_29 ?_
  refine j_icmpN_eq (pc := 30) (tgt := 36) (by first | decide | omega) (by first | decide | omega) dX4_check_30 (by decide) (fun c30 => ?_) (fun c30 => ?_)
  · refine j_aload3 (pc := 36) dX4_check_36 ?_
    refine j_aload0 (pc := 37) dX4_check_37 ?_
    refine g_X4_15 (pc := 38) rfl hX.1 hX.2.2.1 dX4_check_38 ?_
    refine cd_X4_137 (pc := 41) rfl (S2) hA.1 dX4_check_41 rfl rfl ?_
    refine j_iret (pc := 44) dX4_check_44 rfl rfl ?_
    exact ⟨_, rfl, by rw [if_pos c30]; rfl, rfl⟩
  · refine j_bipush (pc := 33) (v := (-2)) dX4_check_33 (by decide) ?_
    refine j_iret (pc := 35) dX4_check_35 rfl rfl ?_
    exact ⟨_, rfl, by rw [if_neg c30], rfl⟩
theorem qn_as {k s w : Int32} (hX : PSh h.1 X) (hN : h.i X 1 = nI n) (hn : n ≤ 40) (hr : pF h X n r = none) : DL cx mX4_as 1 h [.ref X, .int r, .int k, .int s, .int w] (-1) h := by
  have S := qx_found (cx := cx) (r := r) hX hN hn
  rw [hr] at S
  refine Sp.of 2 (by decide) (Nat.le_of_ble_eq_true rfl) rfl ?_
  refine j_aload0 (pc := 0) dX4_as_0 ?_
  refine j_iload1 (pc := 1) dX4_as_1 ?_
  refine cd_X4_40 (pc := 2) rfl (S) hX.1 dX4_as_2 rfl rfl ?_
  refine j_rn ?_
  refine j_nstore5 (pc := 5) dX4_as_5 (by decide) trivial ?_
  refine j_nload5 (pc := 7) dX4_as_7 ?_
  refine j_ifnonnullN (pc := 9) dX4_as_9 ?_
  refine j_ldc2 (pc := 12) dX4_as_12 wT_kl_X4_103 ?_
  refine j_lret (pc := 15) dX4_as_15 rfl ?_
  exact ⟨_, rfl, rfl, rfl⟩
theorem qs_as {A rd : Nat} {k s w : Int32} (hX : PSh h.1 X) (hN : h.i X 1 = nI n) (hn : n ≤ 40) (hr : pF h X n r = some A) (hA : RSh h.1 A) (hR : h.i (A + 5) 2 = nI rd) (hrd : rd ≤ 60) (hb : ∀ b, rAh h A rd k = some b → BSh h.1 b) : DL cx mX4_as 4 h [.ref X, .int r, .int k, .int s, .int w] (pAs h A rd k s w) h := by
  have S := qx_found (cx := cx) (r := r) hX hN hn
  rw [hr] at S
  have S2 := t_bookAhead (cx := cx) (k := k) hA hR hrd
  unfold pAs
  cases hm : rAh h A rd k with
  | none =>
    rw [hm] at S2
    refine Sp.of 2 (by decide) (Nat.le_of_ble_eq_true rfl) rfl ?_
    refine j_aload0 (pc := 0) dX4_as_0 ?_
    refine j_iload1 (pc := 1) dX4_as_1 ?_
    refine cd_X4_40 (pc := 2) rfl (S) hX.1 dX4_as_2 rfl rfl ?_
    refine j_rs ?_
    refine j_astore5 (pc := 5) dX4_as_5 (by decide) trivial ?_
    refine j_aload5 (pc := 7) dX4_as_7 ?_
    refine j_ifnonnull (pc := 9) (tgt := 16) dX4_as_9 (by decide) ?_
    refine j_aload5 (pc := 16) dX4_as_16 ?_
    refine j_iload2 (pc := 18) dX4_as_18 ?_
    refine cd_X4_144 (pc := 19) rfl (S2) hA.1 dX4_as_19 rfl rfl ?_
    refine j_rn ?_
    refine j_nstore6 (pc := 22) dX4_as_22 (by decide) trivial ?_
    refine j_nload6 (pc := 24) dX4_as_24 ?_
    refine j_ifnonnullN (pc := 26) dX4_as_26 ?_
    refine j_ldc2 (pc := 29) dX4_as_29 wT_kl_X4_103 ?_
    refine j_goto (pc := 32) (tgt := 43) dX4_as_32 (by decide) ?_
    refine j_lret (pc := 43) dX4_as_43 rfl ?_
    exact ⟨_, rfl, rfl, rfl⟩
  | some b =>
    rw [hm] at S2
    have S3 := t_bValueOf (cx := cx) (s := s) (w := w) (hb b hm)
    refine Sp.of 2 (by decide) (Nat.le_of_ble_eq_true rfl) rfl ?_
    refine j_aload0 (pc := 0) dX4_as_0 ?_
    refine j_iload1 (pc := 1) dX4_as_1 ?_
    refine cd_X4_40 (pc := 2) rfl (S) hX.1 dX4_as_2 rfl rfl ?_
    refine j_rs ?_
    refine j_astore5 (pc := 5) dX4_as_5 (by decide) trivial ?_
    refine j_aload5 (pc := 7) dX4_as_7 ?_
    refine j_ifnonnull (pc := 9) (tgt := 16) dX4_as_9 (by decide) ?_
    refine j_aload5 (pc := 16) dX4_as_16 ?_
    refine j_iload2 (pc := 18) dX4_as_18 ?_
    refine cd_X4_144 (pc := 19) rfl (S2) hA.1 dX4_as_19 rfl rfl ?_
    refine j_rs ?_
    refine j_astore6 (pc := 22) dX4_as_22 (by decide) trivial ?_
    refine j_aload6 (pc := 24) dX4_as_24 ?_
    refine j_ifnonnull (pc := 26) (tgt := 35) dX4_as_26 (by decide) ?_
    refine j_aload6 (pc := 35) dX4_as_35 ?_
    refine j_iload3 (pc := 37) dX4_as_37 ?_
    refine j_iload4 (pc := 38) dX4_as_38 ?_
    refine cd_X4_141 (pc := 40) rfl (S3) (hb b hm).1 dX4_as_40 rfl rfl ?_
    refine j_lret (pc := 43) dX4_as_43 rfl ?_
    exact ⟨_, rfl, rfl, rfl⟩
theorem qx_count0 {w : Int32} (hX : PSh h.1 X) : DL cx mX4_count 5 h [.ref X, .int (-1), .int w] (if w = 0 then (h.i X 1).toInt64 else if w = 1 then (h.i X 3).toInt64 else -1) h := by
  refine Sp.of 1 (by decide) (Nat.le_of_ble_eq_true rfl) rfl ?_
  refine j_iload1 (pc := 0) dX4_count_0 ?_
  refine j_iconst (pc := 1) (v := (-1)) dX4_count_1 (by decide) ?_
  refine j_icmp_ne (pc := 2) (tgt := 34) dX4_count_2 (by decide) (fun c2 => by exact absurd rfl c2) (fun c2 => ?_)
  refine j_iload2 (pc := 5) dX4_count_5 ?_
  refine j_if_ne (pc := 6) (tgt := 17) dX4_count_6 (by decide) (fun c6 => ?_) (fun c6 => ?_)
  · refine j_iload2 (pc := 17) dX4_count_17 ?_
    refine j_iconst (pc := 18) (v := 1) dX4_count_18 (by decide) ?_
    refine j_icmp_ne (pc := 19) (tgt := 30) dX4_count_19 (by decide) (fun c19 => ?_) (fun c19 => ?_)
    · refine j_ldc2 (pc := 30) dX4_count_30 wT_kl_X4_103 ?_
      refine j_lret (pc := 33) dX4_count_33 rfl ?_
      first | (rw [if_pos c6]; exact ⟨_, rfl, rfl, rfl⟩) | (rw [if_neg c6, if_pos c19]; exact ⟨_, rfl, rfl, rfl⟩) | (rw [if_neg c6, if_neg c19]; exact ⟨_, rfl, rfl, rfl⟩)
    · refine j_aload0 (pc := 22) dX4_count_22 ?_
      refine g_X4_131 (pc := 23) rfl hX.1 dX4_count_23 ?_
      refine j_i2l (pc := 26) dX4_count_26 ?_
      refine j_goto (pc := 27) (tgt := 33) dX4_count_27 (by decide) ?_
      refine j_lret (pc := 33) dX4_count_33 rfl ?_
      first | (rw [if_pos c6]; exact ⟨_, rfl, rfl, rfl⟩) | (rw [if_neg c6, if_pos c19]; exact ⟨_, rfl, rfl, rfl⟩) | (rw [if_neg c6, if_neg c19]; exact ⟨_, rfl, rfl, rfl⟩)
  · refine j_aload0 (pc := 9) dX4_count_9 ?_
    refine g_X4_29 (pc := 10) rfl hX.1 dX4_count_10 ?_
    refine j_i2l (pc := 13) dX4_count_13 ?_
    refine j_goto (pc := 14) (tgt := 33) dX4_count_14 (by decide) ?_
    refine j_lret (pc := 33) dX4_count_33 rfl ?_
    first | (rw [if_pos c6]; exact ⟨_, rfl, rfl, rfl⟩) | (rw [if_neg c6, if_pos c19]; exact ⟨_, rfl, rfl, rfl⟩) | (rw [if_neg c6, if_neg c19]; exact ⟨_, rfl, rfl, rfl⟩)
theorem qn_count {w : Int32} (hX : PSh h.1 X) (hN : h.i X 1 = nI n) (hn : n ≤ 40) (h1 : ¬ r = -1) (hr : pF h X n r = none) : DL cx mX4_count 5 h [.ref X, .int r, .int w] (-1) h := by
  have S := qx_found (cx := cx) (r := r) hX hN hn
  rw [hr] at S
  refine Sp.of 1 (by decide) (Nat.le_of_ble_eq_true rfl) rfl ?_
  refine j_iload1 (pc := 0) dX4_count_0 ?_
  refine j_iconst (pc := 1) (v := (-1)) dX4_count_1 (by decide) ?_
  refine j_icmp_ne (pc := 2) (tgt := 34) dX4_count_2 (by decide) (fun c2 => ?_) (fun c2 => by exact absurd c2 h1)
  refine j_aload0 (pc := 34) dX4_count_34 ?_
  refine j_iload1 (pc := 35) dX4_count_35 ?_
  refine cd_X4_40 (pc := 36) rfl (S) hX.1 dX4_count_36 rfl rfl ?_
  refine j_rn ?_
  refine j_nstore3 (pc := 39) dX4_count_39 (by decide) trivial ?_
  refine j_nload3 (pc := 40) dX4_count_40 ?_
  refine j_ifnonnullN (pc := 41) dX4_count_41 ?_
  refine j_ldc2 (pc := 44) dX4_count_44 wT_kl_X4_103 ?_
  refine j_goto (pc := 47) (tgt := 55) dX4_count_47 (by decide) ?_
  refine j_lret (pc := 55) dX4_count_55 rfl ?_
  exact ⟨_, rfl, rfl, rfl⟩
theorem qs_count {A : Nat} {w : Int32} (hX : PSh h.1 X) (hN : h.i X 1 = nI n) (hn : n ≤ 40) (h1 : ¬ r = -1) (hr : pF h X n r = some A) (hA : RSh h.1 A) : DL cx mX4_count 5 h [.ref X, .int r, .int w] (rCnt h A w) h := by
  have S := qx_found (cx := cx) (r := r) hX hN hn
  rw [hr] at S
  refine Sp.of 1 (by decide) (Nat.le_of_ble_eq_true rfl) rfl ?_
  refine j_iload1 (pc := 0) dX4_count_0 ?_
  refine j_iconst (pc := 1) (v := (-1)) dX4_count_1 (by decide) ?_
  refine j_icmp_ne (pc := 2) (tgt := 34) dX4_count_2 (by decide) (fun c2 => ?_) (fun c2 => by exact absurd c2 h1)
  refine j_aload0 (pc := 34) dX4_count_34 ?_
  refine j_iload1 (pc := 35) dX4_count_35 ?_
  refine cd_X4_40 (pc := 36) rfl (S) hX.1 dX4_count_36 rfl rfl ?_
  refine j_rs ?_
  refine j_astore3 (pc := 39) dX4_count_39 (by decide) trivial ?_
  refine j_aload3 (pc := 40) dX4_count_40 ?_
  refine j_ifnonnull (pc := 41) (tgt := 50) dX4_count_41 (by decide) ?_
  refine j_aload3 (pc := 50) dX4_count_50 ?_
  refine j_iload2 (pc := 51) dX4_count_51 ?_
  refine cd_X4_148 (pc := 52) rfl (t_countOf hA) hA.1 dX4_count_52 rfl rfl ?_
  refine j_lret (pc := 55) dX4_count_55 rfl ?_
  exact ⟨_, rfl, rfl, rfl⟩
end

