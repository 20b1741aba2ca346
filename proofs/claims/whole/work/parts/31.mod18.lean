/-! the reference: image, undo's pieces, the constructor -/
section
variable {cx : Cx} {h : Hp} {M a : Nat} {f : Fl}
theorem image_63 {n st : Nat} {Q : Option Value → Hp → Prop} (hM : MSh h.1 M) (ha : a < 40) (hn : n < 40) (hne : a ≠ n) (h8 : f 8 = lN st) (hst : st ≤ 600) (hQ : ∀ v h', v = some (.int (nI n)) → h' = mh (mh (imS h M a n (5 * st)) M a f) M n f → Q v h') :
    J cx mX5_image (Rm 1 0 0) (mh (mh (imS h M a n (5 * 0)) M a f) M n f) 63 [some (.ref M), some (.int (nI a)), some (.int (nI n)), some (.int (nI 0)), none] [] 0 0 Q := by
  refine dn (P := fun i => J cx mX5_image (Rm 1 0 0) (mh (mh (imS h M a n (5 * i)) M a f) M n f) 63 [some (.ref M), some (.int (nI a)), some (.int (nI n)), some (.int (nI i)), none] [] 0 0 Q) st ?_ ?_
  · refine j_iload3 (pc := 63) dX5_image_63 ?_
    refine j_i2lN (pc := 64) (by first | decide | omega) dX5_image_64 ?_
    refine j_aload0 (pc := 65) dX5_image_65 ?_
    refine j_iload2 (pc := 66) dX5_image_66 ?_
    refine j_bipush (pc := 67) (v := nI 8) dX5_image_67 (by decide) ?_
    refine cd_X5_41 (pc := 69) rfl (s_get hM hn (by decide)) hM.1 dX5_image_69 rfl rfl ?_
    rw [h8]
    refine j_lcmpN_ge (pc := 72) (tgt := 121) (by first | decide | omega) (by first | decide | omega) dX5_image_72 dX5_image_73 (by decide) (fun c72 => ?_) (fun c72 => by omega)
    refine j_iload2 (pc := 121) dX5_image_121 ?_
    refine j_iret (pc := 122) dX5_image_122 rfl rfl ?_
    exact hQ _ _ rfl rfl
  · intro i hi ih
    have L79 : ∀ N, N = 5 → J cx mX5_image (Rm 1 0 0) (mh (mh (imS h M a n (5 * i + 0)) M a f) M n f) 79 [some (.ref M), some (.int (nI a)), some (.int (nI n)), some (.int (nI i)), some (.int (nI 0))] [] 0 0 Q := by
      intro N hN
      refine dn (P := fun k => J cx mX5_image (Rm 1 0 0) (mh (mh (imS h M a n (5 * i + k)) M a f) M n f) 79 [some (.ref M), some (.int (nI a)), some (.int (nI n)), some (.int (nI i)), some (.int (nI k))] [] 0 0 Q) N ?_ ?_
      · rw [show 5 * i + N = 5 * (i + 1) by omega]
        refine j_iload4 (pc := 79) dX5_image_79 ?_
        refine j_iconst (pc := 81) (v := nI 5) dX5_image_81 (by decide) ?_
        refine j_icmpN_ge (pc := 82) (tgt := 115) (by first | decide | omega) (by first | decide | omega) dX5_image_82 (by decide) (fun c82 => ?_) (fun c82 => by omega)
        refine j_iincN3 (pc := 115) dX5_image_115 (by decide) trivial ?_
        refine j_goto (pc := 118) (tgt := 63) dX5_image_118 (by decide) ?_
        exact J.wk ih (by simp [lcw])
      · intro k hk ihk
        have hv : (mh (mh (imS h M a n (5 * i + k)) M a f) M n f).l (M + 4) (sx a i k) = h.l (M + 4) (3000 * a + (5 * i + k)) := by
          rw [sx_e]
          exact (if_neg (by omega)).trans ((if_neg (by omega)).trans (imS_get hne (by omega) (by omega)))
        refine j_iload4 (pc := 79) dX5_image_79 ?_
        refine j_iconst (pc := 81) (v := nI 5) dX5_image_81 (by decide) ?_
        refine j_icmpN_ge (pc := 82) (tgt := 115) (by first | decide | omega) (by first | decide | omega) dX5_image_82 (by decide) (fun c82 => by omega) (fun c82 => ?_)
        refine j_aload0 (pc := 85) dX5_image_85 ?_
        refine g_X5_23 (pc := 86) rfl hM.1 hM.2.2.2.2.1.1 dX5_image_86 ?_
        refine j_iload2 (pc := 89) dX5_image_89 ?_
        refine j_iload3 (pc := 90) dX5_image_90 ?_
        refine j_iload4 (pc := 91) dX5_image_91 ?_
        refine cd_X5_160 (pc := 93) rfl (s_stopAt) dX5_image_93 rfl rfl ?_
        refine j_aload0 (pc := 96) dX5_image_96 ?_
        refine g_X5_23 (pc := 97) rfl hM.1 hM.2.2.2.2.1.1 dX5_image_97 ?_
        refine j_iload1 (pc := 100) dX5_image_100 ?_
        refine j_iload3 (pc := 101) dX5_image_101 ?_
        refine j_iload4 (pc := 102) dX5_image_102 ?_
        refine cd_X5_160 (pc := 104) rfl (s_stopAt) dX5_image_104 rfl rfl ?_
        refine j_lald (pc := 107) hM.2.2.2.2.1.2 (pk_in (sx a i k) 120000 (sx_lt ha (by omega) (by omega)) rfl) dX5_image_107 ?_
        rw [nI_clamp (Nat.lt_trans (sx_lt ha (show i < 600 by omega) (show k < 5 by omega)) (by decide)), hv]
        refine j_last (pc := 108) hM.2.2.2.2.1.2 (pk_in (sx n i k) 120000 (sx_lt hn (by omega) (by omega)) rfl) dX5_image_108 ?_
        rw [nI_clamp (Nat.lt_trans (sx_lt hn (show i < 600 by omega) (show k < 5 by omega)) (by decide)), mh_setL (by omega), mh_setL (by omega), sx_e n i k, imS_set]
        refine j_iincN4 (pc := 109) dX5_image_109 (by decide) trivial ?_
        refine j_goto (pc := 112) (tgt := 79) dX5_image_112 (by decide) ?_
        exact ihk
    refine j_iload3 (pc := 63) dX5_image_63 ?_
    refine j_i2lN (pc := 64) (by first | decide | omega) dX5_image_64 ?_
    refine j_aload0 (pc := 65) dX5_image_65 ?_
    refine j_iload2 (pc := 66) dX5_image_66 ?_
    refine j_bipush (pc := 67) (v := nI 8) dX5_image_67 (by decide) ?_
    refine cd_X5_41 (pc := 69) rfl (s_get hM hn (by decide)) hM.1 dX5_image_69 rfl rfl ?_
    rw [h8]
    refine j_lcmpN_ge (pc := 72) (tgt := 121) (by first | decide | omega) (by first | decide | omega) dX5_image_72 dX5_image_73 (by decide) (fun c72 => by omega) (fun c72 => ?_)
    refine j_iconst (pc := 76) (v := nI 0) dX5_image_76 (by decide) ?_
    refine j_istore4 (pc := 77) dX5_image_77 (by decide) trivial ?_
    exact L79 5 rfl
theorem image_36 {n N : Nat} {g0 : Fl} {Q : Option Value → Hp → Prop} (hM : MSh h.1 M) (ha : a < 40) (hn : n < 40) (hne : a ≠ n) (hN : N = 1393)
    (K : J cx mX5_image (Rm 1 0 0) (mh (mh h M a f) M n f) 63 [some (.ref M), some (.int (nI a)), some (.int (nI n)), some (.int (nI 0)), none] [] 0 0 Q) :
    J cx mX5_image (Rm 1 0 0) (mh (mh h M n g0) M a f) 36 [some (.ref M), some (.int (nI a)), some (.int (nI n)), some (.int (nI 0)), none] [] 0 0 Q := by
  have hZ : mh (mh h M a f) M n f = mh (mh h M a f) M n (cpN f g0 N) := mh_cong (fun b hb => (if_pos (by omega)).symm)
  rw [hZ, mh_comm hne] at K
  rw [← cpN_0 f g0]
  refine dn (P := fun i => J cx mX5_image (Rm 1 0 0) (mh (mh h M n (cpN f g0 i)) M a f) 36 [some (.ref M), some (.int (nI a)), some (.int (nI n)), some (.int (nI i)), none] [] 0 0 Q) N ?_ ?_
  · refine j_iload3 (pc := 36) dX5_image_36 ?_
    refine j_sipush (pc := 37) (v := nI 1393) dX5_image_37 (by decide) ?_
    refine j_icmpN_ge (pc := 40) (tgt := 61) (by first | decide | omega) (by first | decide | omega) dX5_image_40 (by decide) (fun c40 => ?_) (fun c40 => by omega)
    refine j_iconst (pc := 61) (v := nI 0) dX5_image_61 (by decide) ?_
    refine j_istore3 (pc := 62) dX5_image_62 (by decide) trivial ?_
    exact K
  · intro i hi ih
    refine j_iload3 (pc := 36) dX5_image_36 ?_
    refine j_sipush (pc := 37) (v := nI 1393) dX5_image_37 (by decide) ?_
    refine j_icmpN_ge (pc := 40) (tgt := 61) (by first | decide | omega) (by first | decide | omega) dX5_image_40 (by decide) (fun c40 => by omega) (fun c40 => ?_)
    refine j_aload0 (pc := 43) dX5_image_43 ?_
    refine j_iload2 (pc := 44) dX5_image_44 ?_
    refine j_iload3 (pc := 45) dX5_image_45 ?_
    refine j_aload0 (pc := 46) dX5_image_46 ?_
    refine j_iload1 (pc := 47) dX5_image_47 ?_
    refine j_iload3 (pc := 48) dX5_image_48 ?_
    refine cd_X5_41 (pc := 49) rfl (s_get hM ha (by first | decide | exact ix_lt hs (by decide) | omega)) hM.1 dX5_image_49 rfl rfl ?_
    rw [← mh_comm hne]
    refine cd_X5_62 (pc := 52) rfl (s_set hM hn (by omega)) hM.1 dX5_image_52 rfl rfl ?_
    rw [cpN_s, mh_comm hne]
    refine j_iincN3 (pc := 55) dX5_image_55 (by decide) trivial ?_
    refine j_goto (pc := 58) (tgt := 36) dX5_image_58 (by decide) ?_
    exact ih
theorem s_image {n st : Nat} (hM : MSh h.1 M) (ha : a < 40) (hr : isRi h M (nI a) = true) (hn : h.i M 1 = nI n) (hn4 : n < 40) (hne : a ≠ n) (h8 : f 8 = lN st) (hst : st ≤ 600) : DI cx mX5_image 1 (mh h M a f) [.ref M, .int (nI a)] (nI n) (mh (mh (imS (h.setI M 1 (nI (n + 1))) M a n (5 * st)) M a f) M n f) := by
  refine Sp.ofQ 3 (by decide) (Nat.le_of_ble_eq_true rfl) rfl (fun Q hQ => ?_)
  have hM2 : MSh (h.setI M 1 (nI (n + 1))).1 M := hM
  have L36 : J cx mX5_image (Rm 1 0 0) (mh (h.setI M 1 (nI (n + 1))) M a f) 36 [some (.ref M), some (.int (nI a)), some (.int (nI n)), some (.int (nI 0)), none] [] 0 0 Q := by
    have hQ : ∀ v h', v = some (.int (nI n)) → h' = mh (mh (imS (h.setI M 1 (nI (n + 1))) M a n (5 * st)) M a f) M n f → Q v h' := fun v h' hv hh => hQ v h' ⟨_, hv, rfl, hh⟩
    generalize h.setI M 1 (nI (n + 1)) = h2 at hQ hM2
    have L := image_63 (cx := cx) (Q := Q) hM2 ha hn4 hne h8 hst hQ
    rw [Nat.mul_zero, imS_0] at L
    have L2 := image_36 (cx := cx) (g0 := fun b => h2.l (M + 1) (1393 * n + b)) hM2 ha hn4 hne rfl L
    rw [mh_self (fun _ _ => rfl)] at L2
    exact L2
  refine j_aload0 (pc := 0) dX5_image_0 ?_
  refine j_iload1 (pc := 1) dX5_image_1 ?_
  refine cd_X5_68 (pc := 2) rfl (s_isRing _ hM) hM.1 dX5_image_2 rfl rfl ?_
  refine j_bif_eq (pc := 5) (tgt := 17) dX5_image_5 (by decide) (fun c5 => by exact nb hr c5) (fun c5 => ?_)
  refine j_aload0 (pc := 8) dX5_image_8 ?_
  refine g_X5_29 (pc := 9) rfl hM.1 dX5_image_9 ?_
  rw [show (mh h M a f).i M 1 = nI n from hn]
  refine j_bipush (pc := 12) (v := nI 40) dX5_image_12 (by decide) ?_
  refine j_icmpN_ne (pc := 14) (tgt := 19) (by first | decide | omega) (by first | decide | omega) dX5_image_14 (by decide) (fun c14 => ?_) (fun c14 => by omega)
  refine j_aload0 (pc := 19) dX5_image_19 ?_
  refine g_X5_29 (pc := 20) rfl hM.1 dX5_image_20 ?_
  rw [show (mh h M a f).i M 1 = nI n from hn]
  refine j_istore2 (pc := 23) dX5_image_23 (by decide) trivial ?_
  refine j_aload0 (pc := 24) dX5_image_24 ?_
  refine j_dup (pc := 25) dX5_image_25 ?_
  refine g_X5_29 (pc := 26) rfl hM.1 dX5_image_26 ?_
  rw [show (mh h M a f).i M 1 = nI n from hn]
  refine j_iconst (pc := 29) (v := nI 1) dX5_image_29 (by decide) ?_
  refine j_iaddN (pc := 30) dX5_image_30 ?_
  refine p_X5_29 (pc := 31) rfl hM.1 dX5_image_31 ?_
  refine j_iconst (pc := 34) (v := nI 0) dX5_image_34 (by decide) ?_
  refine j_istore3 (pc := 35) dX5_image_35 (by decide) trivial ?_
  exact L36
end

