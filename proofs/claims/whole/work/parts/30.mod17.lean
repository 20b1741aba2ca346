/-! the reference: check, image -/
def ckB (h : Hp) (M : Nat) (f : Fl) (k : Nat) : Bool := (fnd (fun w => !decide (h.l (M + 5) (3 * k + w) = f (1153 + 4 * k + w))) 3).isSome
def fCheck (h : Hp) (M n r : Nat) (f : Fl) : Int32 := if ¬ n = 3 * r then -2 else woI (fnd (ckB h M f) r)
theorem mh_comm {h : Hp} {M a n : Nat} {f g : Fl} (hne : a ≠ n) : mh (mh h M a f) M n g = mh (mh h M n g) M a f := by
  unfold mh
  congr 2
  funext x y
  dsimp only
  by_cases h1 : x = M + 1 ∧ 1393 * n ≤ y ∧ y < 1393 * n + 1393
  · rw [if_pos h1, if_neg (by omega), if_pos h1]
  · rw [if_neg h1]
    by_cases h2 : x = M + 1 ∧ 1393 * a ≤ y ∧ y < 1393 * a + 1393
    · rw [if_pos h2, if_pos h2]
    · rw [if_neg h2, if_neg h2, if_neg h1]
theorem mh_pl {h : Hp} {M a X o n : Nat} {f g : Fl} (hX : X ≠ M + 1) : pl (mh h M a f) X o n g = mh (pl h X o n g) M a f := by
  unfold pl mh
  congr 2
  funext x y
  dsimp only
  by_cases h1 : x = X ∧ o ≤ y ∧ y < o + n
  · rw [if_pos h1, if_neg (by omega), if_pos h1]
  · rw [if_neg h1]
    by_cases h2 : x = M + 1 ∧ 1393 * a ≤ y ∧ y < 1393 * a + 1393
    · rw [if_pos h2, if_pos h2]
    · rw [if_neg h2, if_neg h2, if_neg h1]
section
variable {cx : Cx} {h : Hp} {M a : Nat} {f : Fl}
theorem sb_check {r : Int32} (hM : MSh h.1 M) (hr : isRi h M r = false) (hr2 : isRi (h.setI M 7 0) M r = false) : DI cx mX5_check 1 h [.ref M, .int r] (-2) (h.setI M 7 0) := by
  refine Sp.of 3 (by decide) (Nat.le_of_ble_eq_true rfl) rfl ?_
  refine j_aload0 (pc := 0) dX5_check_0 ?_
  refine g_X5_176 (pc := 1) rfl hM.1 dX5_check_1 ?_
  refine j_istore2 (pc := 4) dX5_check_4 (by decide) trivial ?_
  refine j_aload0 (pc := 5) dX5_check_5 ?_
  refine j_iconst (pc := 6) (v := 0) dX5_check_6 (by decide) ?_
  refine p_X5_176 (pc := 7) rfl hM.1 dX5_check_7 ?_
  refine j_aload0 (pc := 10) dX5_check_10 ?_
  refine j_iload1 (pc := 11) dX5_check_11 ?_
  refine cd_X5_68 (pc := 12) rfl (s_isRing _ hM) hM.1 dX5_check_12 rfl rfl ?_
  refine j_bif_eq (pc := 15) (tgt := 34) dX5_check_15 (by decide) (fun c15 => ?_) (fun c15 => by exact nb c15 hr2)
  refine j_bipush (pc := 34) (v := (-2)) dX5_check_34 (by decide) ?_
  refine j_iret (pc := 36) dX5_check_36 rfl rfl ?_
  exact ⟨_, rfl, rfl, rfl⟩
theorem check_39 {r n2 : Nat} {Q : Option Value → Hp → Prop} (hM : MSh h.1 M) (ha : a < 40) (h5 : f 5 = lN r) (hr6 : r ≤ 60) (hQ : ∀ v h', v = some (.int (woI (fnd (ckB h M f) r))) → h' = mh h M a f → Q v h') : J cx mX5_check (Rm 1 0 0) (mh h M a f) 39 [some (.ref M), some (.int (nI a)), some (.int (nI n2)), some (.int (nI 0)), none] [] 0 0 Q := by
  refine dnI (I := fun k => fnd (ckB h M f) k = none) (P := fun k => J cx mX5_check (Rm 1 0 0) (mh h M a f) 39 [some (.ref M), some (.int (nI a)), some (.int (nI n2)), some (.int (nI k)), none] [] 0 0 Q) r rfl ?_ ?_
  · intro hk
    refine j_iload3 (pc := 39) dX5_check_39 ?_
    refine j_i2lN (pc := 40) (by first | decide | omega) dX5_check_40 ?_
    refine j_aload0 (pc := 41) dX5_check_41 ?_
    refine j_iload1 (pc := 42) dX5_check_42 ?_
    refine j_iconst (pc := 43) (v := nI 5) dX5_check_43 (by decide) ?_
    refine cd_X5_41 (pc := 44) rfl (s_get hM ha (by decide)) hM.1 dX5_check_44 rfl rfl ?_
    rw [h5]
    refine j_lcmpN_ge (pc := 47) (tgt := 104) (by first | decide | omega) (by first | decide | omega) dX5_check_47 dX5_check_48 (by decide) (fun c47 => ?_) (fun c47 => by omega)
    refine j_iconst (pc := 104) (v := (-1)) dX5_check_104 (by decide) ?_
    refine j_iret (pc := 105) dX5_check_105 rfl rfl ?_
    exact hQ _ _ (by rw [hk]; rfl) rfl
  · intro k hk hf ih
    have L54 : J cx mX5_check (Rm 1 0 0) (mh h M a f) 54 [some (.ref M), some (.int (nI a)), some (.int (nI n2)), some (.int (nI k)), some (.int (nI 0))] [] 0 0 Q := by
      refine dnI (I := fun w => fnd (fun w => !decide (h.l (M + 5) (3 * k + w) = f (1153 + 4 * k + w))) w = none) (P := fun w => J cx mX5_check (Rm 1 0 0) (mh h M a f) 54 [some (.ref M), some (.int (nI a)), some (.int (nI n2)), some (.int (nI k)), some (.int (nI w))] [] 0 0 Q) 3 rfl ?_ ?_
      · intro hw
        have hck : ckB h M f k = false := by unfold ckB; rw [hw]; rfl
        refine j_iload4 (pc := 54) dX5_check_54 ?_
        refine j_iconst (pc := 56) (v := nI 3) dX5_check_56 (by decide) ?_
        refine j_icmpN_ge (pc := 57) (tgt := 98) (by first | decide | omega) (by first | decide | omega) dX5_check_57 (by decide) (fun c57 => ?_) (fun c57 => by omega)
        refine j_iincN3 (pc := 98) dX5_check_98 (by decide) trivial ?_
        refine j_goto (pc := 101) (tgt := 39) dX5_check_101 (by decide) ?_
        exact J.wk (ih (by unfold fnd; rw [hf]; dsimp only; rw [hck]; rfl)) (by simp [lcw])
      · intro w hw hfw ihw
        refine j_iload4 (pc := 54) dX5_check_54 ?_
        refine j_iconst (pc := 56) (v := nI 3) dX5_check_56 (by decide) ?_
        refine j_icmpN_ge (pc := 57) (tgt := 98) (by first | decide | omega) (by first | decide | omega) dX5_check_57 (by decide) (fun c57 => by omega) (fun c57 => ?_)
        refine j_aload0 (pc := 60) dX5_check_60 ?_
        refine g_X5_26 (pc := 61) rfl hM.1 hM.2.2.2.2.2.1 dX5_check_61 ?_
        refine j_iconst (pc := 64) (v := nI 3) dX5_check_64 (by decide) ?_
        refine j_iload3 (pc := 65) dX5_check_65 ?_
        refine j_imulN (pc := 66) dX5_check_66 ?_
        refine j_iload4 (pc := 67) dX5_check_67 ?_
        refine j_iaddN (pc := 69) dX5_check_69 ?_
        refine j_lald (pc := 70) hM.2.2.2.2.2.2 (pk_in (3 * k + w) 180 (by omega) rfl) dX5_check_70 ?_
        rw [nI_clamp (by omega), show (mh h M a f).l (M + 5) (3 * k + w) = h.l (M + 5) (3 * k + w) from if_neg (by omega)]
        refine j_aload0 (pc := 71) dX5_check_71 ?_
        refine j_iload1 (pc := 72) dX5_check_72 ?_
        refine j_sipush (pc := 73) (v := nI 1153) dX5_check_73 (by decide) ?_
        refine j_iconst (pc := 76) (v := nI 4) dX5_check_76 (by decide) ?_
        refine j_iload3 (pc := 77) dX5_check_77 ?_
        refine j_imulN (pc := 78) dX5_check_78 ?_
        refine j_iaddN (pc := 79) dX5_check_79 ?_
        refine j_iload4 (pc := 80) dX5_check_80 ?_
        refine j_iaddN (pc := 82) dX5_check_82 ?_
        refine cd_X5_41 (pc := 83) rfl (s_get hM ha (by first | decide | exact ix_lt hs (by decide) | omega)) hM.1 dX5_check_83 rfl rfl ?_
        refine j_lcmp_eq (pc := 86) (tgt := 92) dX5_check_86 dX5_check_87 (by decide) (fun c86 => ?_) (fun c86 => ?_)
        · refine j_iincN4 (pc := 92) dX5_check_92 (by decide) trivial ?_
          refine j_goto (pc := 95) (tgt := 54) dX5_check_95 (by decide) ?_
          exact ihw (by unfold fnd; rw [hfw]; dsimp only; rw [decide_eq_true c86]; rfl)
        · refine j_iload3 (pc := 90) dX5_check_90 ?_
          refine j_iret (pc := 91) dX5_check_91 rfl rfl ?_
          exact hQ _ _ (by rw [fnd_at hf (show ckB h M f k = true by unfold ckB; rw [fnd_at hfw (by rw [decide_eq_false c86]; rfl) 3 hw]; rfl) r hk]; rfl) rfl
    refine j_iload3 (pc := 39) dX5_check_39 ?_
    refine j_i2lN (pc := 40) (by first | decide | omega) dX5_check_40 ?_
    refine j_aload0 (pc := 41) dX5_check_41 ?_
    refine j_iload1 (pc := 42) dX5_check_42 ?_
    refine j_iconst (pc := 43) (v := nI 5) dX5_check_43 (by decide) ?_
    refine cd_X5_41 (pc := 44) rfl (s_get hM ha (by decide)) hM.1 dX5_check_44 rfl rfl ?_
    rw [h5]
    refine j_lcmpN_ge (pc := 47) (tgt := 104) (by first | decide | omega) (by first | decide | omega) dX5_check_47 dX5_check_48 (by decide) (fun c47 => by omega) (fun c47 => ?_)
    refine j_iconst (pc := 51) (v := nI 0) dX5_check_51 (by decide) ?_
    refine j_istore4 (pc := 52) dX5_check_52 (by decide) trivial ?_
    exact L54
theorem s_check {n r : Nat} (hM : MSh h.1 M) (ha : a < 40) (hr : isRi h M (nI a) = true) (hr2 : isRi (h.setI M 7 0) M (nI a) = true) (hn : h.i M 7 = nI n) (hn8 : n ≤ 180) (h5 : f 5 = lN r) (hr6 : r ≤ 60) : DI cx mX5_check 1 (mh h M a f) [.ref M, .int (nI a)] (fCheck h M n r f) (mh (h.setI M 7 0) M a f) := by
  refine Sp.ofQ 3 (by decide) (Nat.le_of_ble_eq_true rfl) rfl (fun Q hQ => ?_)
  have hM2 : MSh (h.setI M 7 0).1 M := hM
  refine j_aload0 (pc := 0) dX5_check_0 ?_
  refine g_X5_176 (pc := 1) rfl hM.1 dX5_check_1 ?_
  rw [show (mh h M a f).i M 7 = nI n from hn]
  refine j_istore2 (pc := 4) dX5_check_4 (by decide) trivial ?_
  refine j_aload0 (pc := 5) dX5_check_5 ?_
  refine j_iconst (pc := 6) (v := 0) dX5_check_6 (by decide) ?_
  refine p_X5_176 (pc := 7) rfl hM.1 dX5_check_7 ?_
  rw [mh_setI]
  have hM := hM2
  refine j_aload0 (pc := 10) dX5_check_10 ?_
  refine j_iload1 (pc := 11) dX5_check_11 ?_
  refine cd_X5_68 (pc := 12) rfl (s_isRing _ hM) hM.1 dX5_check_12 rfl rfl ?_
  refine j_bif_eq (pc := 15) (tgt := 34) dX5_check_15 (by decide) (fun c15 => by exact nb hr2 c15) (fun c15 => ?_)
  refine j_iload2 (pc := 18) dX5_check_18 ?_
  refine j_i2lN (pc := 19) (by first | decide | omega) dX5_check_19 ?_
  refine j_ldc2 (pc := 20) dX5_check_20 wT_kl_X5_93 ?_
  refine j_aload0 (pc := 23) dX5_check_23 ?_
  refine j_iload1 (pc := 24) dX5_check_24 ?_
  refine j_iconst (pc := 25) (v := nI 5) dX5_check_25 (by decide) ?_
  refine cd_X5_41 (pc := 26) rfl (s_get hM ha (by decide)) hM.1 dX5_check_26 rfl rfl ?_
  rw [h5]
  refine j_lmul (pc := 29) dX5_check_29 ?_
  rw [lNmul3]
  refine j_lcmpN_eq (pc := 30) (tgt := 37) (by first | decide | omega) (by first | decide | omega) dX5_check_30 dX5_check_31 (by decide) (fun c30 => ?_) (fun c30 => ?_)
  · refine j_iconst (pc := 37) (v := nI 0) dX5_check_37 (by decide) ?_
    refine j_istore3 (pc := 38) dX5_check_38 (by decide) trivial ?_
    exact check_39 hM ha h5 hr6 (fun v h' hv hh => hQ v h' ⟨_, hv, by unfold fCheck; rw [if_neg (fun z => z c30)]; rfl, hh⟩)
  · refine j_bipush (pc := 34) (v := (-2)) dX5_check_34 (by decide) ?_
    refine j_iret (pc := 36) dX5_check_36 rfl rfl ?_
    exact hQ _ _ ⟨_, rfl, by unfold fCheck; rw [if_pos c30], rfl⟩
def imS (h : Hp) (M a n m : Nat) : Hp := pl h (M + 4) (3000 * n) m (fun j => h.l (M + 4) (3000 * a + j))
theorem imS_get {n m j : Nat} (hne : a ≠ n) (hj : j < 3000) (hm : m ≤ 3000) : (imS h M a n m).l (M + 4) (3000 * a + j) = h.l (M + 4) (3000 * a + j) := if_neg (by omega)
theorem imS_0 {n : Nat} : imS h M a n 0 = h := pl_0
theorem sx_e (a i k : Nat) : sx a i k = 3000 * a + (5 * i + k) := by unfold sx; omega
theorem imS_set {n m : Nat} : (imS h M a n m).setL (M + 4) (3000 * n + m) (h.l (M + 4) (3000 * a + m)) = imS h M a n (m + 1) := pl_set (f := fun j => h.l (M + 4) (3000 * a + j))
theorem sb_image {r : Int32} (hM : MSh h.1 M) (hr : isRi h M r = false) : DI cx mX5_image 1 h [.ref M, .int r] (-1) h := by
  refine Sp.of 3 (by decide) (Nat.le_of_ble_eq_true rfl) rfl ?_
  refine j_aload0 (pc := 0) dX5_image_0 ?_
  refine j_iload1 (pc := 1) dX5_image_1 ?_
  refine cd_X5_68 (pc := 2) rfl (s_isRing _ hM) hM.1 dX5_image_2 rfl rfl ?_
  refine j_bif_eq (pc := 5) (tgt := 17) dX5_image_5 (by decide) (fun c5 => ?_) (fun c5 => by exact nb c5 hr)
  refine j_iconst (pc := 17) (v := (-1)) dX5_image_17 (by decide) ?_
  refine j_iret (pc := 18) dX5_image_18 rfl rfl ?_
  exact ⟨_, rfl, rfl, rfl⟩
theorem s_imageF {n : Nat} (hM : MSh h.1 M) (ha : a < 40) (hr : isRi h M (nI a) = true) (hn : h.i M 1 = nI n) (hn4 : n = 40) : DI cx mX5_image 1 (mh h M a f) [.ref M, .int (nI a)] (-1) (mh h M a f) := by
  refine Sp.of 3 (by decide) (Nat.le_of_ble_eq_true rfl) rfl ?_
  refine j_aload0 (pc := 0) dX5_image_0 ?_
  refine j_iload1 (pc := 1) dX5_image_1 ?_
  refine cd_X5_68 (pc := 2) rfl (s_isRing _ hM) hM.1 dX5_image_2 rfl rfl ?_
  refine j_bif_eq (pc := 5) (tgt := 17) dX5_image_5 (by decide) (fun c5 => by exact nb hr c5) (fun c5 => ?_)
  refine j_aload0 (pc := 8) dX5_image_8 ?_
  refine g_X5_29 (pc := 9) rfl hM.1 dX5_image_9 ?_
  rw [show (mh h M a f).i M 1 = nI n from hn]
  refine j_bipush (pc := 12) (v := nI 40) dX5_image_12 (by decide) ?_
  refine j_icmpN_ne (pc := 14) (tgt := 19) (by first | decide | omega) (by first | decide | omega) dX5_image_14 (by decide) (fun c14 => by exact absurd hn4 c14) (fun c14 => ?_)
  refine j_iconst (pc := 17) (v := (-1)) dX5_image_17 (by decide) ?_
  refine j_iret (pc := 18) dX5_image_18 rfl rfl ?_
  exact ⟨_, rfl, rfl, rfl⟩
end

