/-! the reference: undo, as -/
def zS (M a i : Nat) (h : Hp) : Hp := h.setL (M + 4) (sx a i 4) 0
theorem zS_sh {M a : Nat} (h : Hp) (n : Nat) : (itr (zS M a) n h).1 = h.1 := itr_keep (step := zS M a) (fun y : Hp => y.1) (fun _ _ => rfl) h n
theorem zS_i {M a : Nat} (h : Hp) (n : Nat) : (itr (zS M a) n h).2.1 = h.2.1 := itr_keep (step := zS M a) (fun y : Hp => y.2.1) (fun _ _ => rfl) h n
/-- copies behind q move down by one: numbers up to m, rings up to d -/
def ush (h : Hp) (M q m d : Nat) : Hp := (h.1, ((fun x y => if x = M + 3 ∧ q ≤ y ∧ y < d then h.2.1 x (y + 1) else h.2.1 x y), (fun x y => if x = M + 2 ∧ 1393 * q ≤ y ∧ y < m then h.2.2 x (y + 1393) else h.2.2 x y)))
theorem ush_0 {h : Hp} {M q : Nat} : ush h M q (1393 * q) q = h := by
  obtain ⟨s, i, l⟩ := h
  unfold ush
  congr 2
  · funext x y
    rw [if_neg (by omega)]
  · funext x y
    rw [if_neg (by omega)]
theorem ush_l {h : Hp} {M q m d y : Nat} (hy : m ≤ y) : (ush h M q m d).l (M + 2) y = h.l (M + 2) y := if_neg (by omega)
theorem ush_i {h : Hp} {M q m d y : Nat} (hy : d ≤ y) : (ush h M q m d).i (M + 3) y = h.i (M + 3) y := if_neg (by omega)
theorem ush_sl {h : Hp} {M q m d : Nat} (hm : 1393 * q ≤ m) : (ush h M q m d).setL (M + 2) m (h.l (M + 2) (m + 1393)) = ush h M q (m + 1) d := by
  unfold Hp.setL ush
  congr 2
  funext x y
  unfold up2
  dsimp only
  by_cases h1 : x = M + 2 ∧ y = m
  · obtain ⟨rfl, rfl⟩ := h1
    rw [if_pos ⟨rfl, rfl⟩, if_pos ⟨rfl, hm, by omega⟩]
  · rw [if_neg h1]
    by_cases h2 : x = M + 2 ∧ 1393 * q ≤ y ∧ y < m
    · rw [if_pos h2, if_pos ⟨h2.1, h2.2.1, by omega⟩]
    · rw [if_neg h2, if_neg (by omega)]
theorem ush_si {h : Hp} {M q m d : Nat} (hd : q ≤ d) : (ush h M q m d).setI (M + 3) d (h.i (M + 3) (d + 1)) = ush h M q m (d + 1) := by
  unfold Hp.setI ush
  congr 2
  funext x y
  unfold up2
  dsimp only
  by_cases h1 : x = M + 3 ∧ y = d
  · obtain ⟨rfl, rfl⟩ := h1
    rw [if_pos ⟨rfl, rfl⟩, if_pos ⟨rfl, hd, by omega⟩]
  · rw [if_neg h1]
    by_cases h2 : x = M + 3 ∧ q ≤ y ∧ y < d
    · rw [if_pos h2, if_pos ⟨h2.1, h2.2.1, by omega⟩]
    · rw [if_neg h2, if_neg (by omega)]
def cpy (h : Hp) (M q : Nat) : Fl := fun k => h.l (M + 2) (1393 * q + k)
def unH (h : Hp) (M a q c st : Nat) : Hp := ush ((itr (zS M a) st h).setI M 4 (nI (c - 1))) M q (1393 * (c - 1)) (c - 1)
section
variable {cx : Cx} {h : Hp} {M a : Nat} {f : Fl}
theorem sb_undo {r : Int32} (hM : MSh h.1 M) (hr : isRi h M r = false) : DI cx mX5_undo 1 h [.ref M, .int r] (-1) h := by
  refine Sp.of 3 (by decide) (Nat.le_of_ble_eq_true rfl) rfl ?_
  refine j_aload0 (pc := 0) dX5_undo_0 ?_
  refine j_iload1 (pc := 1) dX5_undo_1 ?_
  refine cd_X5_68 (pc := 2) rfl (s_isRing _ hM) hM.1 dX5_undo_2 rfl rfl ?_
  refine j_bif_eq (pc := 5) (tgt := 16) dX5_undo_5 (by decide) (fun c5 => ?_) (fun c5 => by exact nb c5 hr)
  refine j_iconst (pc := 16) (v := (-1)) dX5_undo_16 (by decide) ?_
  refine j_istore2 (pc := 17) dX5_undo_17 (by decide) trivial ?_
  refine j_iload2 (pc := 18) dX5_undo_18 ?_
  refine j_if_ge (pc := 19) (tgt := 24) dX5_undo_19 (by decide) (fun c19 => by exact absurd c19 (by decide)) (fun c19 => ?_)
  refine j_iconst (pc := 22) (v := (-1)) dX5_undo_22 (by decide) ?_
  refine j_iret (pc := 23) dX5_undo_23 rfl rfl ?_
  exact ⟨_, rfl, rfl, rfl⟩
theorem s_undoN {c : Nat} (hM : MSh h.1 M) (ha : a < 40) (hr : isRi h M (nI a) = true) (hc : h.i M 4 = nI c) (hc6 : c ≤ 620) (hl : lst (isC h M (nI a)) c = none) : DI cx mX5_undo 1 (mh h M a f) [.ref M, .int (nI a)] (-1) (mh h M a f) := by
  refine Sp.of 3 (by decide) (Nat.le_of_ble_eq_true rfl) rfl ?_
  refine j_aload0 (pc := 0) dX5_undo_0 ?_
  refine j_iload1 (pc := 1) dX5_undo_1 ?_
  refine cd_X5_68 (pc := 2) rfl (s_isRing _ hM) hM.1 dX5_undo_2 rfl rfl ?_
  refine j_bif_eq (pc := 5) (tgt := 16) dX5_undo_5 (by decide) (fun c5 => by exact nb hr c5) (fun c5 => ?_)
  refine j_aload0 (pc := 8) dX5_undo_8 ?_
  refine j_iload1 (pc := 9) dX5_undo_9 ?_
  refine cd_X5_173 (pc := 10) rfl (s_latestCopy (h := mh h M a f) (c := c) hM hc hc6) hM.1 dX5_undo_10 rfl rfl ?_
  rw [show woI (lst (isC (mh h M a f) M (nI a)) c) = -1 from by rw [show lst (isC (mh h M a f) M (nI a)) c = none from hl]; rfl]
  refine j_goto (pc := 13) (tgt := 17) dX5_undo_13 (by decide) ?_
  refine j_istore2 (pc := 17) dX5_undo_17 (by decide) trivial ?_
  refine j_iload2 (pc := 18) dX5_undo_18 ?_
  refine j_if_ge (pc := 19) (tgt := 24) dX5_undo_19 (by decide) (fun c19 => by exact absurd c19 (by decide)) (fun c19 => ?_)
  refine j_iconst (pc := 22) (v := (-1)) dX5_undo_22 (by decide) ?_
  refine j_iret (pc := 23) dX5_undo_23 rfl rfl ?_
  exact ⟨_, rfl, rfl, rfl⟩
theorem undo_113 {q d N : Nat} {m1 : Nat} {g : Fl} {Q : Option Value → Hp → Prop} (hM : MSh h.1 M) (ha : a < 40) (hN : N = 1393) (hqd : q ≤ d) (hd : d + 1 < 620)
    (K : J cx mX5_undo (Rm 1 0 0) (mh (ush h M q (1393 * (d + 1)) (d + 1)) M a g) 102 [some (.ref M), some (.int (nI a)), some (.int (nI q)), some (.int (nI (d + 1))), none] [] 0 0 Q) :
    J cx mX5_undo (Rm 1 0 0) (mh (ush h M q (1393 * d + 0) d) M a g) 113 [some (.ref M), some (.int (nI a)), some (.int (nI q)), some (.int (nI d)), some (.int (nI 0))] [] 0 0 Q := by
  refine dn (P := fun k => J cx mX5_undo (Rm 1 0 0) (mh (ush h M q (1393 * d + k) d) M a g) 113 [some (.ref M), some (.int (nI a)), some (.int (nI q)), some (.int (nI d)), some (.int (nI k))] [] 0 0 Q) N ?_ ?_
  · rw [show 1393 * d + N = 1393 * (d + 1) by omega]
    have hv : (mh (ush h M q (1393 * (d + 1)) d) M a g).i (M + 3) (d + 1) = h.i (M + 3) (d + 1) := ush_i (m := 1393 * (d + 1)) (by omega)
    refine j_iload4 (pc := 113) dX5_undo_113 ?_
    refine j_sipush (pc := 115) (v := nI 1393) dX5_undo_115 (by decide) ?_
    refine j_icmpN_ge (pc := 118) (tgt := 155) (by first | decide | omega) (by first | decide | omega) dX5_undo_118 (by decide) (fun c118 => ?_) (fun c118 => by omega)
    refine j_aload0 (pc := 155) dX5_undo_155 ?_
    refine g_X5_18 (pc := 156) rfl hM.1 hM.2.2.2.1.1 dX5_undo_156 ?_
    refine j_iload3 (pc := 159) dX5_undo_159 ?_
    refine j_aload0 (pc := 160) dX5_undo_160 ?_
    refine g_X5_18 (pc := 161) rfl hM.1 hM.2.2.2.1.1 dX5_undo_161 ?_
    refine j_iload3 (pc := 164) dX5_undo_164 ?_
    refine j_iconst (pc := 165) (v := nI 1) dX5_undo_165 (by decide) ?_
    refine j_iaddN (pc := 166) dX5_undo_166 ?_
    refine j_iald (pc := 167) hM.2.2.2.1.2 (pk_in (d + 1) 620 hd rfl) dX5_undo_167 ?_
    rw [nI_clamp (show d + 1 < 2 ^ 31 by omega), hv]
    refine j_iast (pc := 168) hM.2.2.2.1.2 (pk_in d 620 (by omega) rfl) dX5_undo_168 ?_
    rw [nI_clamp (show d < 2 ^ 31 by omega), mh_setI, ush_si hqd]
    refine j_iincN3 (pc := 169) dX5_undo_169 (by decide) trivial ?_
    refine j_goto (pc := 172) (tgt := 102) dX5_undo_172 (by decide) ?_
    exact J.wk K (by simp [lcw])
  · intro k hk ih
    have hv : (mh (ush h M q (1393 * d + k) d) M a g).l (M + 2) (1393 * (d + 1) + k) = h.l (M + 2) (1393 * d + k + 1393) := by
      rw [show 1393 * d + k + 1393 = 1393 * (d + 1) + k by omega]
      exact (if_neg (by omega)).trans (ush_l (by omega))
    refine j_iload4 (pc := 113) dX5_undo_113 ?_
    refine j_sipush (pc := 115) (v := nI 1393) dX5_undo_115 (by decide) ?_
    refine j_icmpN_ge (pc := 118) (tgt := 155) (by first | decide | omega) (by first | decide | omega) dX5_undo_118 (by decide) (fun c118 => by omega) (fun c118 => ?_)
    refine j_aload0 (pc := 121) dX5_undo_121 ?_
    refine g_X5_15 (pc := 122) rfl hM.1 hM.2.2.1.1 dX5_undo_122 ?_
    refine j_sipush (pc := 125) (v := nI 1393) dX5_undo_125 (by decide) ?_
    refine j_iload3 (pc := 128) dX5_undo_128 ?_
    refine j_imulN (pc := 129) dX5_undo_129 ?_
    refine j_iload4 (pc := 130) dX5_undo_130 ?_
    refine j_iaddN (pc := 132) dX5_undo_132 ?_
    refine j_aload0 (pc := 133) dX5_undo_133 ?_
    refine g_X5_15 (pc := 134) rfl hM.1 hM.2.2.1.1 dX5_undo_134 ?_
    refine j_sipush (pc := 137) (v := nI 1393) dX5_undo_137 (by decide) ?_
    refine j_iload3 (pc := 140) dX5_undo_140 ?_
    refine j_iconst (pc := 141) (v := nI 1) dX5_undo_141 (by decide) ?_
    refine j_iaddN (pc := 142) dX5_undo_142 ?_
    refine j_imulN (pc := 143) dX5_undo_143 ?_
    refine j_iload4 (pc := 144) dX5_undo_144 ?_
    refine j_iaddN (pc := 146) dX5_undo_146 ?_
    refine j_lald (pc := 147) hM.2.2.1.2 (pk_in (1393 * (d + 1) + k) 863660 (by omega) rfl) dX5_undo_147 ?_
    rw [nI_clamp (show 1393 * (d + 1) + k < 2 ^ 31 by omega), hv]
    refine j_last (pc := 148) hM.2.2.1.2 (pk_in (1393 * d + k) 863660 (by omega) rfl) dX5_undo_148 ?_
    rw [nI_clamp (show 1393 * d + k < 2 ^ 31 by omega), mh_setL (by omega), ush_sl (by omega)]
    refine j_iincN4 (pc := 149) dX5_undo_149 (by decide) trivial ?_
    refine j_goto (pc := 152) (tgt := 113) dX5_undo_152 (by decide) ?_
    exact ih
theorem undo_102 {q c : Nat} {g : Fl} {Q : Option Value → Hp → Prop} (hM : MSh h.1 M) (ha : a < 40) (hqc : q ≤ c) (hc6 : c < 620) (hc : h.i M 4 = nI c) (hQ : ∀ v h', v = some (.int (g 5).toInt32) → h' = mh (ush h M q (1393 * c) c) M a g → Q v h') :
    J cx mX5_undo (Rm 1 0 0) (mh (ush h M q (1393 * q) q) M a g) 102 [some (.ref M), some (.int (nI a)), some (.int (nI q)), some (.int (nI q)), none] [] 0 0 Q := by
  have key := dn (P := fun j => J cx mX5_undo (Rm 1 0 0) (mh (ush h M q (1393 * (q + j)) (q + j)) M a g) 102 [some (.ref M), some (.int (nI a)), some (.int (nI q)), some (.int (nI (q + j))), none] [] 0 0 Q) (c - q) ?_ ?_
  · exact key
  · rw [show q + (c - q) = c by omega]
    have hcv : (mh (ush h M q (1393 * c) c) M a g).i M 4 = nI c := (if_neg (by omega)).trans hc
    refine j_iload3 (pc := 102) dX5_undo_102 ?_
    refine j_aload0 (pc := 103) dX5_undo_103 ?_
    refine g_X5_105 (pc := 104) rfl hM.1 dX5_undo_104 ?_
    rw [hcv]
    refine j_icmpN_ge (pc := 107) (tgt := 175) (by first | decide | omega) (by first | decide | omega) dX5_undo_107 (by decide) (fun c107 => ?_) (fun c107 => by omega)
    refine j_aload0 (pc := 175) dX5_undo_175 ?_
    refine j_iload1 (pc := 176) dX5_undo_176 ?_
    refine j_iconst (pc := 177) (v := nI 5) dX5_undo_177 (by decide) ?_
    refine cd_X5_41 (pc := 178) rfl (s_get (h := ush h M q (1393 * c) c) hM ha (by decide)) hM.1 dX5_undo_178 rfl rfl ?_
    refine j_l2i (pc := 181) dX5_undo_181 ?_
    refine j_iret (pc := 182) dX5_undo_182 rfl rfl ?_
    exact hQ _ _ rfl rfl
  · intro j hj ih
    generalize hd : q + j = d at ih
    rw [show q + (j + 1) = d + 1 by omega] at ih
    have hcv : (mh (ush h M q (1393 * d) d) M a g).i M 4 = nI c := (if_neg (by omega)).trans hc
    have L := undo_113 (cx := cx) (N := 1393) (m1 := 0) hM ha rfl (show q ≤ d by omega) (by omega) ih
    refine j_iload3 (pc := 102) dX5_undo_102 ?_
    refine j_aload0 (pc := 103) dX5_undo_103 ?_
    refine g_X5_105 (pc := 104) rfl hM.1 dX5_undo_104 ?_
    rw [hcv]
    refine j_icmpN_ge (pc := 107) (tgt := 175) (by first | decide | omega) (by first | decide | omega) dX5_undo_107 (by decide) (fun c107 => by omega) (fun c107 => ?_)
    refine j_iconst (pc := 110) (v := nI 0) dX5_undo_110 (by decide) ?_
    refine j_istore4 (pc := 111) dX5_undo_111 (by decide) trivial ?_
    exact L
theorem undo_59 {q c st : Nat} {g : Fl} {Q : Option Value → Hp → Prop} (hM : MSh h.1 M) (ha : a < 40) (hqc : q < c) (hc6 : c ≤ 620) (hc : h.i M 4 = nI c) (h8 : g 8 = lN st) (hst : st ≤ 600) (hQ : ∀ v h', v = some (.int (g 5).toInt32) → h' = mh (unH h M a q c st) M a g → Q v h') :
    J cx mX5_undo (Rm 1 0 0) (mh h M a g) 59 [some (.ref M), some (.int (nI a)), some (.int (nI q)), some (.int (nI 0)), none] [] 0 0 Q := by
  refine dn (P := fun i => J cx mX5_undo (Rm 1 0 0) (mh (itr (zS M a) i h) M a g) 59 [some (.ref M), some (.int (nI a)), some (.int (nI q)), some (.int (nI i)), none] [] 0 0 Q) st ?_ ?_
  · unfold unH at hQ
    have hM2 : MSh (itr (zS M a) st h).1 M := by rw [zS_sh]; exact hM
    have hc2 : (itr (zS M a) st h).i M 4 = nI c := by show (itr (zS M a) st h).2.1 M 4 = nI c; rw [zS_i]; exact hc
    generalize itr (zS M a) st h = h2 at hQ hM2 hc2
    have hM := hM2
    have L := undo_102 (h := h2.setI M 4 (nI (c - 1))) (cx := cx) (a := a) (q := q) (c := c - 1) hM2 ha (by omega) (by omega) (up2_s _ _ _ _) hQ
    rw [ush_0] at L
    refine j_iload3 (pc := 59) dX5_undo_59 ?_
    refine j_i2lN (pc := 60) (by first | decide | omega) dX5_undo_60 ?_
    refine j_aload0 (pc := 61) dX5_undo_61 ?_
    refine j_iload1 (pc := 62) dX5_undo_62 ?_
    refine j_bipush (pc := 63) (v := nI 8) dX5_undo_63 (by decide) ?_
    refine cd_X5_41 (pc := 65) rfl (s_get hM ha (by decide)) hM.1 dX5_undo_65 rfl rfl ?_
    rw [h8]
    refine j_lcmpN_ge (pc := 68) (tgt := 90) (by first | decide | omega) (by first | decide | omega) dX5_undo_68 dX5_undo_69 (by decide) (fun c68 => ?_) (fun c68 => by omega)
    refine j_aload0 (pc := 90) dX5_undo_90 ?_
    refine j_dup (pc := 91) dX5_undo_91 ?_
    refine g_X5_105 (pc := 92) rfl hM.1 dX5_undo_92 ?_
    rw [show (mh h2 M a g).i M 4 = nI c from hc2]
    refine j_iconst (pc := 95) (v := nI 1) dX5_undo_95 (by decide) ?_
    refine j_isubN (pc := 96) (by omega) dX5_undo_96 ?_
    refine p_X5_105 (pc := 97) rfl hM.1 dX5_undo_97 ?_
    rw [mh_setI]
    refine j_iload2 (pc := 100) dX5_undo_100 ?_
    refine j_istore3 (pc := 101) dX5_undo_101 (by decide) trivial ?_
    exact L
  · intro i hi ih
    have hM2 : MSh (itr (zS M a) i h).1 M := by rw [zS_sh]; exact hM
    have ih : J cx mX5_undo (Rm 1 0 0) (mh (zS M a i (itr (zS M a) i h)) M a g) 59 [some (.ref M), some (.int (nI a)), some (.int (nI q)), some (.int (nI (i + 1))), none] [] 0 0 Q := ih
    generalize itr (zS M a) i h = h2 at ih hM2
    have hM := hM2
    refine j_iload3 (pc := 59) dX5_undo_59 ?_
    refine j_i2lN (pc := 60) (by first | decide | omega) dX5_undo_60 ?_
    refine j_aload0 (pc := 61) dX5_undo_61 ?_
    refine j_iload1 (pc := 62) dX5_undo_62 ?_
    refine j_bipush (pc := 63) (v := nI 8) dX5_undo_63 (by decide) ?_
    refine cd_X5_41 (pc := 65) rfl (s_get hM ha (by decide)) hM.1 dX5_undo_65 rfl rfl ?_
    rw [h8]
    refine j_lcmpN_ge (pc := 68) (tgt := 90) (by first | decide | omega) (by first | decide | omega) dX5_undo_68 dX5_undo_69 (by decide) (fun c68 => by omega) (fun c68 => ?_)
    refine j_aload0 (pc := 72) dX5_undo_72 ?_
    refine g_X5_23 (pc := 73) rfl hM.1 hM.2.2.2.2.1.1 dX5_undo_73 ?_
    refine j_iload1 (pc := 76) dX5_undo_76 ?_
    refine j_iload3 (pc := 77) dX5_undo_77 ?_
    refine j_iconst (pc := 78) (v := nI 4) dX5_undo_78 (by decide) ?_
    refine cd_X5_160 (pc := 79) rfl (s_stopAt) dX5_undo_79 rfl rfl ?_
    refine j_lconst (pc := 82) (v := 0) dX5_undo_82 (by decide) ?_
    refine j_last (pc := 83) hM.2.2.2.2.1.2 (pk_in (sx a i 4) 120000 (sx_lt ha (by omega) (by decide)) rfl) dX5_undo_83 ?_
    rw [nI_clamp (Nat.lt_trans (sx_lt ha (show i < 600 by omega) (show 4 < 5 by decide)) (by decide)), mh_setL (by omega)]
    refine j_iincN3 (pc := 84) dX5_undo_84 (by decide) trivial ?_
    refine j_goto (pc := 87) (tgt := 59) dX5_undo_87 (by decide) ?_
    exact ih
theorem undo_26 {q N : Nat} {Q : Option Value → Hp → Prop} (hM : MSh h.1 M) (ha : a < 40) (hq : q < 620) (hN : N = 1393)
    (K : J cx mX5_undo (Rm 1 0 0) (mh h M a (cpy h M q)) 57 [some (.ref M), some (.int (nI a)), some (.int (nI q)), none, none] [] 0 0 Q) :
    J cx mX5_undo (Rm 1 0 0) (mh h M a f) 26 [some (.ref M), some (.int (nI a)), some (.int (nI q)), some (.int (nI 0)), none] [] 0 0 Q := by
  have hZ : mh h M a (cpy h M q) = mh h M a (cpN (cpy h M q) f N) := mh_cong (fun b hb => (if_pos (by omega)).symm)
  rw [hZ] at K
  rw [← cpN_0 (cpy h M q) f]
  refine dn (P := fun i => J cx mX5_undo (Rm 1 0 0) (mh h M a (cpN (cpy h M q) f i)) 26 [some (.ref M), some (.int (nI a)), some (.int (nI q)), some (.int (nI i)), none] [] 0 0 Q) N ?_ ?_
  · refine j_iload3 (pc := 26) dX5_undo_26 ?_
    refine j_sipush (pc := 27) (v := nI 1393) dX5_undo_27 (by decide) ?_
    refine j_icmpN_ge (pc := 30) (tgt := 57) (by first | decide | omega) (by first | decide | omega) dX5_undo_30 (by decide) (fun c30 => ?_) (fun c30 => by omega)
    exact J.wk K (by simp [lcw])
  · intro i hi ih
    have hv : (mh h M a (cpN (cpy h M q) f i)).l (M + 2) (1393 * q + i) = cpy h M q i := if_neg (by omega)
    refine j_iload3 (pc := 26) dX5_undo_26 ?_
    refine j_sipush (pc := 27) (v := nI 1393) dX5_undo_27 (by decide) ?_
    refine j_icmpN_ge (pc := 30) (tgt := 57) (by first | decide | omega) (by first | decide | omega) dX5_undo_30 (by decide) (fun c30 => by omega) (fun c30 => ?_)
    refine j_aload0 (pc := 33) dX5_undo_33 ?_
    refine j_iload1 (pc := 34) dX5_undo_34 ?_
    refine j_iload3 (pc := 35) dX5_undo_35 ?_
    refine j_aload0 (pc := 36) dX5_undo_36 ?_
    refine g_X5_15 (pc := 37) rfl hM.1 hM.2.2.1.1 dX5_undo_37 ?_
    refine j_sipush (pc := 40) (v := nI 1393) dX5_undo_40 (by decide) ?_
    refine j_iload2 (pc := 43) dX5_undo_43 ?_
    refine j_imulN (pc := 44) dX5_undo_44 ?_
    refine j_iload3 (pc := 45) dX5_undo_45 ?_
    refine j_iaddN (pc := 46) dX5_undo_46 ?_
    refine j_lald (pc := 47) hM.2.2.1.2 (pk_in (1393 * q + i) 863660 (by omega) rfl) dX5_undo_47 ?_
    rw [nI_clamp (show 1393 * q + i < 2 ^ 31 by omega), hv]
    refine cd_X5_62 (pc := 48) rfl (s_set hM ha (by first | decide | exact ix_lt hs (by decide) | omega)) hM.1 dX5_undo_48 rfl rfl ?_
    rw [cpN_s]
    refine j_iincN3 (pc := 51) dX5_undo_51 (by decide) trivial ?_
    refine j_goto (pc := 54) (tgt := 26) dX5_undo_54 (by decide) ?_
    exact ih
theorem s_undo {c q st : Nat} (hM : MSh h.1 M) (ha : a < 40) (hr : isRi h M (nI a) = true) (hc : h.i M 4 = nI c) (hc6 : c ≤ 620) (hq : q < c) (hl : lst (isC h M (nI a)) c = some q) (h8 : cpy h M q 8 = lN st) (hst : st ≤ 600) : DI cx mX5_undo 1 (mh h M a f) [.ref M, .int (nI a)] (cpy h M q 5).toInt32 (mh (unH h M a q c st) M a (cpy h M q)) := by
  refine Sp.ofQ 3 (by decide) (Nat.le_of_ble_eq_true rfl) rfl (fun Q hQ => ?_)
  have L59 := undo_59 (cx := cx) (Q := Q) hM ha hq hc6 hc h8 hst (fun v h' hv hh => hQ v h' ⟨_, hv, rfl, hh⟩)
  have L57 : J cx mX5_undo (Rm 1 0 0) (mh h M a (cpy h M q)) 57 [some (.ref M), some (.int (nI a)), some (.int (nI q)), none, none] [] 0 0 Q := by
    refine j_iconst (pc := 57) (v := nI 0) dX5_undo_57 (by decide) ?_
    refine j_istore3 (pc := 58) dX5_undo_58 (by decide) trivial ?_
    exact L59
  have L26 := undo_26 (f := f) hM ha (by omega) rfl L57
  refine j_aload0 (pc := 0) dX5_undo_0 ?_
  refine j_iload1 (pc := 1) dX5_undo_1 ?_
  refine cd_X5_68 (pc := 2) rfl (s_isRing _ hM) hM.1 dX5_undo_2 rfl rfl ?_
  refine j_bif_eq (pc := 5) (tgt := 16) dX5_undo_5 (by decide) (fun c5 => by exact nb hr c5) (fun c5 => ?_)
  refine j_aload0 (pc := 8) dX5_undo_8 ?_
  refine j_iload1 (pc := 9) dX5_undo_9 ?_
  refine cd_X5_173 (pc := 10) rfl (s_latestCopy (h := mh h M a f) (c := c) hM hc hc6) hM.1 dX5_undo_10 rfl rfl ?_
  rw [show woI (lst (isC (mh h M a f) M (nI a)) c) = nI q from by rw [show lst (isC (mh h M a f) M (nI a)) c = some q from hl]; rfl]
  refine j_goto (pc := 13) (tgt := 17) dX5_undo_13 (by decide) ?_
  refine j_istore2 (pc := 17) dX5_undo_17 (by decide) trivial ?_
  refine j_iload2 (pc := 18) dX5_undo_18 ?_
  refine j_if_ge (pc := 19) (tgt := 24) dX5_undo_19 (by decide) (fun c19 => ?_) (fun c19 => by exact absurd (nI_pos' (by omega)) c19)
  refine j_iconst (pc := 24) (v := nI 0) dX5_undo_24 (by decide) ?_
  refine j_istore3 (pc := 25) dX5_undo_25 (by decide) trivial ?_
  exact L26
end

