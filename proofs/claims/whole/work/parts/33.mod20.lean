/-! the reference: as, the constructor -/
def asP (h : Hp) (M : Nat) (r k : Int32) (c : Nat) : Bool := isC h M r c && decide (cpy h M c 5 = k.toInt64)
def fAs (h : Hp) (M cp : Nat) (r k : Int32) (so : Option Nat) (w : Int32) : Int64 := match so with
  | none => -1
  | some s => if w < 0 ∨ 11 < w then -1 else match fnd (asP h M r k) cp with
    | none => -1
    | some c => if 0 < w ∧ w < 11 ∧ cpy h M c (ix s 0) < 2 then -1 else cpy h M c (ix s (fldI w.toNatClampNeg))
theorem new_kd {h : Hp} {t n x : Nat} (hx : x ≠ h.n) : (h.new t n).kd x = h.kd x := if_neg hx
theorem new_kn {h : Hp} {t n : Nat} : (h.new t n).kd h.n = (t, n) := if_pos rfl
section
variable {cx : Cx} {h : Hp} {M a : Nat} {f : Fl}
theorem sb_as {r k s w : Int32} (hM : MSh h.1 M) (hr : isRi h M r = false) : DL cx mX5_as 1 h [.ref M, .int r, .int k, .int s, .int w] (-1) h := by
  refine Sp.of 1 (by decide) (Nat.le_of_ble_eq_true rfl) rfl ?_
  refine j_aload0 (pc := 0) dX5_as_0 ?_
  refine j_iload1 (pc := 1) dX5_as_1 ?_
  refine cd_X5_68 (pc := 2) rfl (s_isRing _ hM) hM.1 dX5_as_2 rfl rfl ?_
  refine j_bif_eq (pc := 5) (tgt := 27) dX5_as_5 (by decide) (fun c5 => ?_) (fun c5 => by exact nb c5 hr)
  refine j_ldc2 (pc := 27) dX5_as_27 wT_kl_X5_66 ?_
  refine j_lret (pc := 30) dX5_as_30 rfl ?_
  exact ⟨_, rfl, rfl, rfl⟩
theorem s_as {r k seat w : Int32} {cp : Nat} (hM : MSh h.1 M) (hr : isRi h M r = true) (hc : h.i M 4 = nI cp) (hc6 : cp ≤ 620) : DL cx mX5_as 1 h [.ref M, .int r, .int k, .int seat, .int w] (fAs h M cp r k (sN seat) w) h := by
  rcases sN_cases seat with ⟨hso, hsn⟩ | ⟨s, hs, rfl, hso⟩ <;> rw [hso]
  · refine Sp.of 1 (by decide) (Nat.le_of_ble_eq_true rfl) rfl ?_
    refine j_aload0 (pc := 0) dX5_as_0 ?_
    refine j_iload1 (pc := 1) dX5_as_1 ?_
    refine cd_X5_68 (pc := 2) rfl (s_isRing _ hM) hM.1 dX5_as_2 rfl rfl ?_
    refine j_bif_eq (pc := 5) (tgt := 27) dX5_as_5 (by decide) (fun c5 => by exact nb hr c5) (fun c5 => ?_)
    refine j_iload3 (pc := 8) dX5_as_8 ?_
    refine cd_X5_33 (pc := 9) rfl (s_isSeat _) dX5_as_9 rfl rfl ?_
    refine j_bif_eq (pc := 12) (tgt := 27) dX5_as_12 (by decide) (fun c12 => ?_) (fun c12 => by simp [hso] at c12)
    refine j_ldc2 (pc := 27) dX5_as_27 wT_kl_X5_66 ?_
    refine j_lret (pc := 30) dX5_as_30 rfl ?_
    exact ⟨_, rfl, rfl, rfl⟩
  · refine Sp.ofQ 1 (by decide) (Nat.le_of_ble_eq_true rfl) rfl (fun Q hQ => ?_)
    have L34 : ∀ ww, ww ≤ 11 → w = nI ww → J cx mX5_as (Rm 1 0 0) h 34 [some (.ref M), some (.int r), some (.int k), some (.int (nI s)), some (.int w), some (.int (nI 0))] [] 0 0 Q := by
      intro ww hww hwe
      subst hwe
      have hw0 : ¬ (nI ww < 0 ∨ 11 < nI ww) := by
        rintro (z | z)
        · exact nI_pos (by omega) z
        · exact absurd ((nI_ltI (a := 11) (by decide) (by omega)).mp z) (by omega)
      refine dnI (I := fun n => fnd (asP h M r k) n = none) (P := fun n => J cx mX5_as (Rm 1 0 0) h 34 [some (.ref M), some (.int r), some (.int k), some (.int (nI s)), some (.int (nI ww)), some (.int (nI n))] [] 0 0 Q) cp rfl ?_ ?_
      · intro hn
        refine j_iload5 (pc := 34) dX5_as_34 ?_
        refine j_aload0 (pc := 36) dX5_as_36 ?_
        refine g_X5_105 (pc := 37) rfl hM.1 dX5_as_37 ?_
        rw [hc]
        refine j_icmpN_ge (pc := 40) (tgt := 145) (by first | decide | omega) (by first | decide | omega) dX5_as_40 (by decide) (fun c40 => ?_) (fun c40 => by omega)
        refine j_ldc2 (pc := 145) dX5_as_145 wT_kl_X5_66 ?_
        refine j_lret (pc := 148) dX5_as_148 rfl ?_
        exact hQ _ _ ⟨_, rfl, by unfold fAs; dsimp only; rw [if_neg hw0, hn], rfl⟩
      · intro c hcn hf ih
        have hvy : ∀ j, h.l (M + 2) (1393 * c + j) = cpy h M c j := fun _ => rfl
        have hfin : isC h M r c = true → cpy h M c 5 = k.toInt64 → fAs h M cp r k (some s) (nI ww) = if 0 < nI ww ∧ nI ww < 11 ∧ cpy h M c (ix s 0) < 2 then -1 else cpy h M c (ix s (fldI ww)) := fun z1 z2 => by
          unfold fAs
          dsimp only
          rw [if_neg hw0, fnd_at hf (show asP h M r k c = true by unfold asP; rw [z1, decide_eq_true z2]; rfl) cp hcn]
          dsimp only
          rw [nI_clamp (show ww < 2 ^ 31 by omega)]
        have hskip : asP h M r k c = false → fnd (asP h M r k) (c + 1) = none := fun z => by unfold fnd; rw [hf]; dsimp only; rw [z]; rfl
        have L116 : isC h M r c = true → cpy h M c 5 = k.toInt64 → ¬ (0 < nI ww ∧ nI ww < 11 ∧ cpy h M c (ix s 0) < 2) → J cx mX5_as (Rm 1 0 0) h 116 [some (.ref M), some (.int r), some (.int k), some (.int (nI s)), some (.int (nI ww)), some (.int (nI c))] [] 0 0 Q := by
          intro z1 z2 z3
          refine j_aload0 (pc := 116) dX5_as_116 ?_
          refine g_X5_15 (pc := 117) rfl hM.1 hM.2.2.1.1 dX5_as_117 ?_
          refine j_sipush (pc := 120) (v := nI 1393) dX5_as_120 (by decide) ?_
          refine j_iload5 (pc := 123) dX5_as_123 ?_
          refine j_imulN (pc := 125) dX5_as_125 ?_
          refine j_iload3 (pc := 126) dX5_as_126 ?_
          refine j_gstF rfl dX5_as_127 ?_
          refine j_iload4 (pc := 130) dX5_as_130 ?_
          refine j_ialF (by omega) dX5_as_132 ?_
          refine j_fldN (by omega) ?_
          refine cd_X5_37 rfl s_at dX5_as_133 rfl rfl ?_
          refine j_iaddN dX5_as_136 ?_
          refine j_lald hM.2.2.1.2 (pk_in (1393 * c + ix s (fldI ww)) 863660 (by have := ix_lt hs (fldI_lt (show ww < 12 by omega)); omega) rfl) dX5_as_137 ?_
          rw [nI_clamp (show 1393 * c + ix s (fldI ww) < 2 ^ 31 by have := ix_lt hs (fldI_lt (show ww < 12 by omega)); omega), hvy]
          refine j_lret dX5_as_138 rfl ?_
          exact hQ _ _ ⟨_, rfl, by rw [hfin z1 z2, if_neg z3], rfl⟩
        refine j_iload5 (pc := 34) dX5_as_34 ?_
        refine j_aload0 (pc := 36) dX5_as_36 ?_
        refine g_X5_105 (pc := 37) rfl hM.1 dX5_as_37 ?_
        rw [hc]
        refine j_icmpN_ge (pc := 40) (tgt := 145) (by first | decide | omega) (by first | decide | omega) dX5_as_40 (by decide) (fun c40 => by omega) (fun c40 => ?_)
        refine j_aload0 (pc := 43) dX5_as_43 ?_
        refine g_X5_18 (pc := 44) rfl hM.1 hM.2.2.2.1.1 dX5_as_44 ?_
        refine j_iload5 (pc := 47) dX5_as_47 ?_
        refine j_iald (pc := 49) hM.2.2.2.1.2 (pk_in c 620 (by omega) rfl) dX5_as_49 ?_
        rw [nI_clamp (by omega)]
        refine j_iload1 (pc := 50) dX5_as_50 ?_
        refine j_icmp_ne (pc := 51) (tgt := 139) dX5_as_51 (by decide) (fun c51 => ?_) (fun c51 => ?_)
        · refine j_iincN5 (pc := 139) dX5_as_139 (by decide) trivial ?_
          refine j_goto (pc := 142) (tgt := 34) dX5_as_142 (by decide) ?_
          first | exact ih (hskip (by unfold asP isC; rw [decide_eq_false c51]; rfl)) | exact ih (hskip (by unfold asP; rw [decide_eq_false c69, Bool.and_false]))
        · refine j_aload0 (pc := 54) dX5_as_54 ?_
          refine g_X5_15 (pc := 55) rfl hM.1 hM.2.2.1.1 dX5_as_55 ?_
          refine j_sipush (pc := 58) (v := nI 1393) dX5_as_58 (by decide) ?_
          refine j_iload5 (pc := 61) dX5_as_61 ?_
          refine j_imulN (pc := 63) dX5_as_63 ?_
          refine j_iconst (pc := 64) (v := nI 5) dX5_as_64 (by decide) ?_
          refine j_iaddN (pc := 65) dX5_as_65 ?_
          refine j_lald (pc := 66) hM.2.2.1.2 (pk_in (1393 * c + 5) 863660 (by omega) rfl) dX5_as_66 ?_
          rw [nI_clamp (show 1393 * c + 5 < 2 ^ 31 by omega), hvy]
          refine j_iload2 (pc := 67) dX5_as_67 ?_
          refine j_i2l (pc := 68) dX5_as_68 ?_
          refine j_lcmp_eq (pc := 69) (tgt := 76) dX5_as_69 dX5_as_70 (by decide) (fun c69 => ?_) (fun c69 => ?_)
          · refine j_iload4 (pc := 76) dX5_as_76 ?_
            refine j_if_le (pc := 78) (tgt := 116) dX5_as_78 (by decide) (fun c78 => ?_) (fun c78 => ?_)
            · first | exact L116 (decide_eq_true c51) c69 (fun z => Int32.not_le.mpr z.1 c78) | exact L116 (decide_eq_true c51) c69 (fun z => Int32.not_le.mpr z.2.1 c85) | exact L116 (decide_eq_true c51) c69 (fun z => Int64.not_le.mpr z.2.2 c108)
            · refine j_iload4 (pc := 81) dX5_as_81 ?_
              refine j_bipush (pc := 83) (v := 11) dX5_as_83 (by decide) ?_
              refine j_icmp_ge (pc := 85) (tgt := 116) dX5_as_85 (by decide) (fun c85 => ?_) (fun c85 => ?_)
              · first | exact L116 (decide_eq_true c51) c69 (fun z => Int32.not_le.mpr z.1 c78) | exact L116 (decide_eq_true c51) c69 (fun z => Int32.not_le.mpr z.2.1 c85) | exact L116 (decide_eq_true c51) c69 (fun z => Int64.not_le.mpr z.2.2 c108)
              · refine j_aload0 (pc := 88) dX5_as_88 ?_
                refine g_X5_15 (pc := 89) rfl hM.1 hM.2.2.1.1 dX5_as_89 ?_
                refine j_sipush (pc := 92) (v := nI 1393) dX5_as_92 (by decide) ?_
                refine j_iload5 (pc := 95) dX5_as_95 ?_
                refine j_imulN (pc := 97) dX5_as_97 ?_
                refine j_iload3 (pc := 98) dX5_as_98 ?_
                refine j_iconst (pc := 99) (v := nI 0) dX5_as_99 (by decide) ?_
                refine cd_X5_37 (pc := 100) rfl (s_at) dX5_as_100 rfl rfl ?_
                refine j_iaddN (pc := 103) dX5_as_103 ?_
                refine j_lald (pc := 104) hM.2.2.1.2 (pk_in (1393 * c + ix s 0) 863660 (by have := ix_lt hs (show 0 < 17 by decide); omega) rfl) dX5_as_104 ?_
                rw [nI_clamp (show 1393 * c + ix s 0 < 2 ^ 31 by have := ix_lt hs (show 0 < 17 by decide); omega), hvy]
                refine j_ldc2 (pc := 105) dX5_as_105 wT_kl_X5_45 ?_
                refine j_lcmp_ge (pc := 108) (tgt := 116) dX5_as_108 dX5_as_109 (by decide) (fun c108 => ?_) (fun c108 => ?_)
                · first | exact L116 (decide_eq_true c51) c69 (fun z => Int32.not_le.mpr z.1 c78) | exact L116 (decide_eq_true c51) c69 (fun z => Int32.not_le.mpr z.2.1 c85) | exact L116 (decide_eq_true c51) c69 (fun z => Int64.not_le.mpr z.2.2 c108)
                · refine j_ldc2 (pc := 112) dX5_as_112 wT_kl_X5_66 ?_
                  refine j_lret (pc := 115) dX5_as_115 rfl ?_
                  exact hQ _ _ ⟨_, rfl, by rw [hfin (decide_eq_true c51) c69, if_pos ⟨Int32.not_le.mp c78, Int32.not_le.mp c85, Int64.not_le.mp c108⟩], rfl⟩
          · refine j_goto (pc := 73) (tgt := 139) dX5_as_73 (by decide) ?_
            refine j_iincN5 (pc := 139) dX5_as_139 (by decide) trivial ?_
            refine j_goto (pc := 142) (tgt := 34) dX5_as_142 (by decide) ?_
            first | exact ih (hskip (by unfold asP isC; rw [decide_eq_false c51]; rfl)) | exact ih (hskip (by unfold asP; rw [decide_eq_false c69, Bool.and_false]))
    refine j_aload0 (pc := 0) dX5_as_0 ?_
    refine j_iload1 (pc := 1) dX5_as_1 ?_
    refine cd_X5_68 (pc := 2) rfl (s_isRing _ hM) hM.1 dX5_as_2 rfl rfl ?_
    refine j_bif_eq (pc := 5) (tgt := 27) dX5_as_5 (by decide) (fun c5 => by exact nb hr c5) (fun c5 => ?_)
    refine j_iload3 (pc := 8) dX5_as_8 ?_
    refine cd_X5_33 (pc := 9) rfl (s_isSeat _) dX5_as_9 rfl rfl ?_
    refine j_bif_eq (pc := 12) (tgt := 27) dX5_as_12 (by decide) (fun c12 => by simp [hso] at c12) (fun c12 => ?_)
    refine j_iload4 (pc := 15) dX5_as_15 ?_
    refine j_if_lt (pc := 17) (tgt := 27) dX5_as_17 (by decide) (fun c17 => ?_) (fun c17 => ?_)
    · refine j_ldc2 (pc := 27) dX5_as_27 wT_kl_X5_66 ?_
      refine j_lret (pc := 30) dX5_as_30 rfl ?_
      exact hQ _ _ ⟨_, rfl, by simp_all [fAs, ← Int32.not_le], rfl⟩
    · refine j_iload4 (pc := 20) dX5_as_20 ?_
      refine j_bipush (pc := 22) (v := 11) dX5_as_22 (by decide) ?_
      refine j_icmp_le (pc := 24) (tgt := 31) dX5_as_24 (by decide) (fun c24 => ?_) (fun c24 => ?_)
      · obtain ⟨ww, hww, hwe⟩ := i_natc (n := 11) rfl (by decide) c17 c24
        refine j_iconst (pc := 31) (v := nI 0) dX5_as_31 (by decide) ?_
        refine j_istore5 (pc := 32) dX5_as_32 (by decide) trivial ?_
        exact L34 ww hww hwe
      · refine j_ldc2 (pc := 27) dX5_as_27 wT_kl_X5_66 ?_
        refine j_lret (pc := 30) dX5_as_30 rfl ?_
        exact hQ _ _ ⟨_, rfl, by simp_all [fAs, ← Int32.not_le], rfl⟩
end

