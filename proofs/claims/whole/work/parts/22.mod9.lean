/-! the reference: the one that draws; keeping a copy -/
theorem itr_keep {α : Type} {σ : Type} {step : Nat → σ → σ} (v : σ → α) (h : ∀ n x, v (step n x) = v x) (x : σ) : ∀ n, v (itr step n x) = v x
  | 0 => rfl
  | n + 1 => (h n _).trans (itr_keep v h x n)
theorem shS_o {b n x : Nat} {part : Int64} (hx : ∀ s, x ≠ ix s 10) (k : Fl) : shS b part n k x = k x := by
  unfold shS
  split
  · exact upF_n _ _ (hx n)
  · rfl
theorem s1S_o {b n x : Nat} {ne : Bool} (hx : ∀ s, x ≠ ix s 10) (y : Fl × Int64) : (s1S b ne n y).1 x = y.1 x := by
  unfold s1S
  split
  · split
    · exact upF_n _ _ (hx n)
    · rfl
  · rfl
theorem shares_o {f : Fl} {b x : Nat} {bid oth : Int64} (hx : ∀ s, x ≠ ix s 10) : shares f b bid oth x = f x := by
  unfold shares
  generalize hN : 60 = N
  have h1 := itr_keep (step := s1S b false) (fun y : Fl × Int64 => y.1 x) (fun n y => s1S_o hx y) (itr (s1S b true) N (itr (shS b (bid / oth)) N f, bid - bid / oth * oth)) N
  have h2 := itr_keep (step := s1S b true) (fun y : Fl × Int64 => y.1 x) (fun n y => s1S_o hx y) (itr (shS b (bid / oth)) N f, bid - bid / oth * oth) N
  have h3 := itr_keep (step := shS b (bid / oth)) (fun y : Fl => y x) (fun n y => shS_o hx y) f N
  exact h1.trans (h2.trans h3)
def pl (h : Hp) (X o n : Nat) (f : Fl) : Hp := (h.1, (h.2.1, fun x y => if x = X ∧ o ≤ y ∧ y < o + n then f (y - o) else h.2.2 x y))
theorem pl_0 {h : Hp} {X o : Nat} {f : Fl} : pl h X o 0 f = h := by
  obtain ⟨s, i, l⟩ := h
  unfold pl
  congr 2
  funext x y
  rw [if_neg (by omega)]
theorem pl_set {h : Hp} {X o n : Nat} {f : Fl} : (pl h X o n f).setL X (o + n) (f n) = pl h X o (n + 1) f := by
  unfold Hp.setL pl
  congr 2
  funext x y
  unfold up2
  dsimp only
  by_cases h1 : x = X ∧ y = o + n
  · obtain ⟨rfl, rfl⟩ := h1
    rw [if_pos ⟨rfl, rfl⟩, if_pos ⟨rfl, by omega, by omega⟩, Nat.add_sub_cancel_left]
  · rw [if_neg h1]
    by_cases h2 : x = X ∧ o ≤ y ∧ y < o + n
    · rw [if_pos h2, if_pos ⟨h2.1, by omega, by omega⟩]
    · rw [if_neg h2, if_neg (by omega)]
theorem mh_setL {h : Hp} {M a X k : Nat} {f : Fl} {v : Int64} (hX : X ≠ M + 1) : (mh h M a f).setL X k v = mh (h.setL X k v) M a f := by
  unfold Hp.setL mh
  congr 2
  funext x y
  unfold up2
  dsimp only
  by_cases h1 : x = X ∧ y = k
  · obtain ⟨rfl, rfl⟩ := h1
    rw [if_pos ⟨rfl, rfl⟩, if_neg (fun z => hX z.1), if_pos ⟨rfl, rfl⟩]
  · rw [if_neg h1]
    by_cases h2 : x = M + 1 ∧ 1393 * a ≤ y ∧ y < 1393 * a + 1393
    · rw [if_pos h2, if_pos h2]
    · rw [if_neg h2, if_neg h2, if_neg h1]
theorem mh_setI {h : Hp} {M a X k : Nat} {f : Fl} {v : Int32} : (mh h M a f).setI X k v = mh (h.setI X k v) M a f := rfl
def keep (h : Hp) (M c a : Nat) (f : Fl) : Hp := ((pl h (M + 2) (1393 * c) 1393 f).setI (M + 3) c (nI a)).setI M 4 (nI (c + 1))
section
variable {cx : Cx} {h : Hp} {M a : Nat} {f : Fl}
theorem s_draws {b : Nat} {given : Int64} (hM : MSh h.1 M) (ha : a < 40) (hb : b < 60) (hsu : suOK f) (hcl : f (ix b 2) = -1 → f (ix b 6) = 0) : Sp cx mX5_draws 5 0 0 (mh h M a f) [.ref M, .int (nI a), .int (nI b), .long given] (Rl fun y g => y = dBid f b given ∧ g = mh h M a (draws f b given)) := by
  refine Sp.ofQ 6 (by decide) (Nat.le_of_ble_eq_true rfl) rfl (fun Q hQ => ?_)
  have hs := hb
  have hc60 := cnt_le (isOt f b) 60
  have hl0 : lN (cnt (isOt f b) 60) = 0 ↔ cnt (isOt f b) 60 = 0 := lN_eq (show cnt (isOt f b) 60 < 2 ^ 31 by omega) (show 0 < 2 ^ 31 by decide)
  have hres : ∀ (bid : Int64) (g g1 : Fl) (claim : Int64), dBid f b given = bid → (if 0 < bid then shares f b bid (lN (cnt (isOt f b) 60)) else f) = g → (if g (ix b 6) ≤ given - bid then g (ix b 6) else given - bid) = claim → (if 0 < claim then upF g (ix (g (ix b 2)).toInt.toNat 7) (g (ix (g (ix b 2)).toInt.toNat 7) + claim) else g) = g1 → draws f b given = upF (upF (upF g1 (ix b 6) (g1 (ix b 6) + -claim)) (ix b 9) (upF g1 (ix b 6) (g1 (ix b 6) + -claim) (ix b 9) + (given - bid - claim))) (ix b 3) 1 := by
    intro bid g g1 claim h1 h2 h3 h4
    subst h1; subst h2; subst h3; subst h4
    rfl
  have L98 : ∀ (bid : Int64) (g : Fl) (e5 e6 : Option Value), nol e6 → dBid f b given = bid → (if 0 < bid then shares f b bid (lN (cnt (isOt f b) 60)) else f) = g → J cx mX5_draws (Rm 5 0 0) (mh h M a g) 98 [some (.ref M), some (.int (nI a)), some (.int (nI b)), some (.long given), none, e5, e6, some (.long bid), none, none, none] [] 0 0 Q := by
    intro bid g e5 e6 hn6 h1 h2
    have hg2 : g (ix b 2) = f (ix b 2) := by
      rw [← h2]
      split
      · exact shares_o (fun s => by unfold ix; omega)
      · rfl
    have hg6 : g (ix b 6) = f (ix b 6) := by
      rw [← h2]
      split
      · exact shares_o (fun s => by unfold ix; omega)
      · rfl
    have hr2 := hres bid g
    rcases hsu b hb with hm | ⟨q, hq, hqe⟩
    · have hz : ¬ 0 < (if g (ix b 6) ≤ given - bid then g (ix b 6) else given - bid) := by
        rw [hg6, hcl hm]
        split
        · decide
        · rename_i z
          exact fun y => z (Int64.le_of_lt y)
      refine j_aload0 (pc := 98) dX5_draws_98 ?_
      refine j_iload1 (pc := 99) dX5_draws_99 ?_
      refine j_iload2 (pc := 100) dX5_draws_100 ?_
      refine j_bipush (pc := 101) (v := nI 6) dX5_draws_101 (by decide) ?_
      refine cd_X5_37 (pc := 103) rfl (s_at) dX5_draws_103 rfl rfl ?_
      refine cd_X5_41 (pc := 106) rfl (s_get hM ha (by first | decide | exact ix_lt hs (by decide) | omega)) hM.1 dX5_draws_106 rfl rfl ?_
      refine j_lload3 (pc := 109) dX5_draws_109 ?_
      refine j_lload7 (pc := 110) dX5_draws_110 ?_
      refine j_lsub (pc := 112) dX5_draws_112 ?_
      refine cd_X5_108 (pc := 113) rfl (s_min _ _) dX5_draws_113 rfl rfl ?_
      refine j_lstore9 (pc := 116) dX5_draws_116 (by decide) trivial ?_
      refine j_lload9 (pc := 118) dX5_draws_118 ?_
      refine j_lconst (pc := 120) (v := 0) dX5_draws_120 (by decide) ?_
      refine j_lcmp_le (pc := 121) (tgt := 148) dX5_draws_121 dX5_draws_122 (by decide) (fun c121 => ?_) (fun c121 => by exact absurd (Int64.not_le.mp c121) hz)
      refine j_aload0 (pc := 148) dX5_draws_148 ?_
      refine j_iload1 (pc := 149) dX5_draws_149 ?_
      refine j_iload2 (pc := 150) dX5_draws_150 ?_
      refine j_bipush (pc := 151) (v := nI 6) dX5_draws_151 (by decide) ?_
      refine cd_X5_37 (pc := 153) rfl (s_at) dX5_draws_153 rfl rfl ?_
      refine j_lload9 (pc := 156) dX5_draws_156 ?_
      refine j_lneg (pc := 158) dX5_draws_158 ?_
      refine cd_X5_76 (pc := 159) rfl (s_more hM ha (by first | decide | exact ix_lt hs (by decide) | omega)) hM.1 dX5_draws_159 rfl rfl ?_
      refine j_aload0 (pc := 162) dX5_draws_162 ?_
      refine j_iload1 (pc := 163) dX5_draws_163 ?_
      refine j_iload2 (pc := 164) dX5_draws_164 ?_
      refine j_bipush (pc := 165) (v := nI 9) dX5_draws_165 (by decide) ?_
      refine cd_X5_37 (pc := 167) rfl (s_at) dX5_draws_167 rfl rfl ?_
      refine j_lload3 (pc := 170) dX5_draws_170 ?_
      refine j_lload7 (pc := 171) dX5_draws_171 ?_
      refine j_lsub (pc := 173) dX5_draws_173 ?_
      refine j_lload9 (pc := 174) dX5_draws_174 ?_
      refine j_lsub (pc := 176) dX5_draws_176 ?_
      refine cd_X5_76 (pc := 177) rfl (s_more hM ha (by first | decide | exact ix_lt hs (by decide) | omega)) hM.1 dX5_draws_177 rfl rfl ?_
      refine j_aload0 (pc := 180) dX5_draws_180 ?_
      refine j_iload1 (pc := 181) dX5_draws_181 ?_
      refine j_iload2 (pc := 182) dX5_draws_182 ?_
      refine j_iconst (pc := 183) (v := nI 3) dX5_draws_183 (by decide) ?_
      refine cd_X5_37 (pc := 184) rfl (s_at) dX5_draws_184 rfl rfl ?_
      refine j_lconst (pc := 187) (v := 1) dX5_draws_187 (by decide) ?_
      refine cd_X5_62 (pc := 188) rfl (s_set hM ha (by first | decide | exact ix_lt hs (by decide) | omega)) hM.1 dX5_draws_188 rfl rfl ?_
      refine j_lload7 (pc := 191) dX5_draws_191 ?_
      refine j_lret (pc := 193) dX5_draws_193 rfl ?_
      exact hQ _ _ ⟨_, rfl, h1.symm, by rw [hr2 g _ h1 h2 rfl (if_neg hz)]⟩
    · rw [hqe] at hg2
      have hqn : (g (ix b 2)).toInt.toNat = q := by rw [hg2, lN_nat (by omega)]
      refine j_aload0 (pc := 98) dX5_draws_98 ?_
      refine j_iload1 (pc := 99) dX5_draws_99 ?_
      refine j_iload2 (pc := 100) dX5_draws_100 ?_
      refine j_bipush (pc := 101) (v := nI 6) dX5_draws_101 (by decide) ?_
      refine cd_X5_37 (pc := 103) rfl (s_at) dX5_draws_103 rfl rfl ?_
      refine cd_X5_41 (pc := 106) rfl (s_get hM ha (by first | decide | exact ix_lt hs (by decide) | omega)) hM.1 dX5_draws_106 rfl rfl ?_
      refine j_lload3 (pc := 109) dX5_draws_109 ?_
      refine j_lload7 (pc := 110) dX5_draws_110 ?_
      refine j_lsub (pc := 112) dX5_draws_112 ?_
      refine cd_X5_108 (pc := 113) rfl (s_min _ _) dX5_draws_113 rfl rfl ?_
      refine j_lstore9 (pc := 116) dX5_draws_116 (by decide) trivial ?_
      refine j_lload9 (pc := 118) dX5_draws_118 ?_
      refine j_lconst (pc := 120) (v := 0) dX5_draws_120 (by decide) ?_
      refine j_lcmp_le (pc := 121) (tgt := 148) dX5_draws_121 dX5_draws_122 (by decide) (fun c121 => ?_) (fun c121 => ?_)
      · refine j_aload0 (pc := 148) dX5_draws_148 ?_
        refine j_iload1 (pc := 149) dX5_draws_149 ?_
        refine j_iload2 (pc := 150) dX5_draws_150 ?_
        refine j_bipush (pc := 151) (v := nI 6) dX5_draws_151 (by decide) ?_
        refine cd_X5_37 (pc := 153) rfl (s_at) dX5_draws_153 rfl rfl ?_
        refine j_lload9 (pc := 156) dX5_draws_156 ?_
        refine j_lneg (pc := 158) dX5_draws_158 ?_
        refine cd_X5_76 (pc := 159) rfl (s_more hM ha (by first | decide | exact ix_lt hs (by decide) | omega)) hM.1 dX5_draws_159 rfl rfl ?_
        refine j_aload0 (pc := 162) dX5_draws_162 ?_
        refine j_iload1 (pc := 163) dX5_draws_163 ?_
        refine j_iload2 (pc := 164) dX5_draws_164 ?_
        refine j_bipush (pc := 165) (v := nI 9) dX5_draws_165 (by decide) ?_
        refine cd_X5_37 (pc := 167) rfl (s_at) dX5_draws_167 rfl rfl ?_
        refine j_lload3 (pc := 170) dX5_draws_170 ?_
        refine j_lload7 (pc := 171) dX5_draws_171 ?_
        refine j_lsub (pc := 173) dX5_draws_173 ?_
        refine j_lload9 (pc := 174) dX5_draws_174 ?_
        refine j_lsub (pc := 176) dX5_draws_176 ?_
        refine cd_X5_76 (pc := 177) rfl (s_more hM ha (by first | decide | exact ix_lt hs (by decide) | omega)) hM.1 dX5_draws_177 rfl rfl ?_
        refine j_aload0 (pc := 180) dX5_draws_180 ?_
        refine j_iload1 (pc := 181) dX5_draws_181 ?_
        refine j_iload2 (pc := 182) dX5_draws_182 ?_
        refine j_iconst (pc := 183) (v := nI 3) dX5_draws_183 (by decide) ?_
        refine cd_X5_37 (pc := 184) rfl (s_at) dX5_draws_184 rfl rfl ?_
        refine j_lconst (pc := 187) (v := 1) dX5_draws_187 (by decide) ?_
        refine cd_X5_62 (pc := 188) rfl (s_set hM ha (by first | decide | exact ix_lt hs (by decide) | omega)) hM.1 dX5_draws_188 rfl rfl ?_
        refine j_lload7 (pc := 191) dX5_draws_191 ?_
        refine j_lret (pc := 193) dX5_draws_193 rfl ?_
        first | exact hQ _ _ ⟨_, rfl, h1.symm, by rw [hr2 g _ h1 h2 rfl (if_neg (Int64.not_lt.mpr c121))]⟩ | exact hQ _ _ ⟨_, rfl, h1.symm, by rw [hr2 _ _ h1 h2 rfl (by rw [if_pos (Int64.not_le.mp c121), hqn])]⟩
      · refine j_aload0 (pc := 125) dX5_draws_125 ?_
        refine j_iload1 (pc := 126) dX5_draws_126 ?_
        refine j_aload0 (pc := 127) dX5_draws_127 ?_
        refine j_iload1 (pc := 128) dX5_draws_128 ?_
        refine j_iload2 (pc := 129) dX5_draws_129 ?_
        refine j_iconst (pc := 130) (v := nI 2) dX5_draws_130 (by decide) ?_
        refine cd_X5_37 (pc := 131) rfl (s_at) dX5_draws_131 rfl rfl ?_
        refine cd_X5_41 (pc := 134) rfl (s_get hM ha (by first | decide | exact ix_lt hs (by decide) | omega)) hM.1 dX5_draws_134 rfl rfl ?_
        rw [hg2]
        refine j_l2iN (pc := 137) dX5_draws_137 ?_
        refine j_bipush (pc := 138) (v := nI 7) dX5_draws_138 (by decide) ?_
        refine cd_X5_37 (pc := 140) rfl (s_at) dX5_draws_140 rfl rfl ?_
        refine j_lload9 (pc := 143) dX5_draws_143 ?_
        refine cd_X5_76 (pc := 145) rfl (s_more hM ha (ix_lt hq (by decide))) hM.1 dX5_draws_145 rfl rfl ?_
        refine j_aload0 (pc := 148) dX5_draws_148 ?_
        refine j_iload1 (pc := 149) dX5_draws_149 ?_
        refine j_iload2 (pc := 150) dX5_draws_150 ?_
        refine j_bipush (pc := 151) (v := nI 6) dX5_draws_151 (by decide) ?_
        refine cd_X5_37 (pc := 153) rfl (s_at) dX5_draws_153 rfl rfl ?_
        refine j_lload9 (pc := 156) dX5_draws_156 ?_
        refine j_lneg (pc := 158) dX5_draws_158 ?_
        refine cd_X5_76 (pc := 159) rfl (s_more hM ha (by first | decide | exact ix_lt hs (by decide) | omega)) hM.1 dX5_draws_159 rfl rfl ?_
        refine j_aload0 (pc := 162) dX5_draws_162 ?_
        refine j_iload1 (pc := 163) dX5_draws_163 ?_
        refine j_iload2 (pc := 164) dX5_draws_164 ?_
        refine j_bipush (pc := 165) (v := nI 9) dX5_draws_165 (by decide) ?_
        refine cd_X5_37 (pc := 167) rfl (s_at) dX5_draws_167 rfl rfl ?_
        refine j_lload3 (pc := 170) dX5_draws_170 ?_
        refine j_lload7 (pc := 171) dX5_draws_171 ?_
        refine j_lsub (pc := 173) dX5_draws_173 ?_
        refine j_lload9 (pc := 174) dX5_draws_174 ?_
        refine j_lsub (pc := 176) dX5_draws_176 ?_
        refine cd_X5_76 (pc := 177) rfl (s_more hM ha (by first | decide | exact ix_lt hs (by decide) | omega)) hM.1 dX5_draws_177 rfl rfl ?_
        refine j_aload0 (pc := 180) dX5_draws_180 ?_
        refine j_iload1 (pc := 181) dX5_draws_181 ?_
        refine j_iload2 (pc := 182) dX5_draws_182 ?_
        refine j_iconst (pc := 183) (v := nI 3) dX5_draws_183 (by decide) ?_
        refine cd_X5_37 (pc := 184) rfl (s_at) dX5_draws_184 rfl rfl ?_
        refine j_lconst (pc := 187) (v := 1) dX5_draws_187 (by decide) ?_
        refine cd_X5_62 (pc := 188) rfl (s_set hM ha (by first | decide | exact ix_lt hs (by decide) | omega)) hM.1 dX5_draws_188 rfl rfl ?_
        refine j_lload7 (pc := 191) dX5_draws_191 ?_
        refine j_lret (pc := 193) dX5_draws_193 rfl ?_
        first | exact hQ _ _ ⟨_, rfl, h1.symm, by rw [hr2 g _ h1 h2 rfl (if_neg (Int64.not_lt.mpr c121))]⟩ | exact hQ _ _ ⟨_, rfl, h1.symm, by rw [hr2 _ _ h1 h2 rfl (by rw [if_pos (Int64.not_le.mp c121), hqn])]⟩
  have L79 : ∀ bid : Int64, dBid f b given = bid → J cx mX5_draws (Rm 5 0 0) (mh h M a f) 79 [some (.ref M), some (.int (nI a)), some (.int (nI b)), some (.long given), none, some (.long (lN (cnt (isOt f b) 60))), none, some (.int (nI 60)), none, none, none] [.long bid] 0 0 Q := by
    intro bid h1
    refine j_lstore7 (pc := 79) dX5_draws_79 (by decide) trivial ?_
    refine j_lload7 (pc := 81) dX5_draws_81 ?_
    refine j_lconst (pc := 83) (v := 0) dX5_draws_83 (by decide) ?_
    refine j_lcmp_le (pc := 84) (tgt := 98) dX5_draws_84 dX5_draws_85 (by decide) (fun c84 => by exact L98 bid f _ _ trivial h1 (if_neg (Int64.not_lt.mpr c84))) (fun c84 => ?_)
    refine j_aload0 (pc := 88) dX5_draws_88 ?_
    refine j_iload1 (pc := 89) dX5_draws_89 ?_
    refine j_iload2 (pc := 90) dX5_draws_90 ?_
    refine j_lload7 (pc := 91) dX5_draws_91 ?_
    refine j_lload5 (pc := 93) dX5_draws_93 ?_
    refine cd_X5_143 (pc := 95) rfl (s_shares hM ha hb (fun z => c84 (by have e := h1; unfold dBid at e; rw [if_pos (hl0.mp z)] at e; split at e <;> (rw [← e]; decide)))) hM.1 dX5_draws_95 rfl rfl ?_
    exact L98 bid _ _ _ trivial h1 (if_pos (Int64.not_le.mp c84))
  have L6 : J cx mX5_draws (Rm 5 0 0) (mh h M a f) 6 [some (.ref M), some (.int (nI a)), some (.int (nI b)), some (.long given), none, some (.long (lN 0)), none, some (.int (nI 0)), none, none, none] [] 0 0 Q := by
    refine dn (P := fun n => J cx mX5_draws (Rm 5 0 0) (mh h M a f) 6 [some (.ref M), some (.int (nI a)), some (.int (nI b)), some (.long given), none, some (.long (lN (cnt (isOt f b) n))), none, some (.int (nI n)), none, none, none] [] 0 0 Q) 60 ?_ ?_
    · refine j_iload7 (pc := 6) dX5_draws_6 ?_
      refine j_bipush (pc := 8) (v := nI 60) dX5_draws_8 (by decide) ?_
      refine j_icmpN_ge (pc := 10) (tgt := 40) (by first | decide | omega) (by first | decide | omega) dX5_draws_10 (by decide) (fun c10 => ?_) (fun c10 => by omega)
      refine j_aload0 (pc := 40) dX5_draws_40 ?_
      refine j_iload1 (pc := 41) dX5_draws_41 ?_
      refine j_iconst (pc := 42) (v := nI 0) dX5_draws_42 (by decide) ?_
      refine cd_X5_41 (pc := 43) rfl (s_get hM ha (by first | decide | exact ix_lt hs (by decide) | omega)) hM.1 dX5_draws_43 rfl rfl ?_
      refine j_ldc2 (pc := 46) dX5_draws_46 wT_kl_X5_45 ?_
      refine j_lcmp_ne (pc := 49) (tgt := 60) dX5_draws_49 dX5_draws_50 (by decide) (fun c49 => ?_) (fun c49 => ?_)
      · refine j_lconst (pc := 60) (v := 0) dX5_draws_60 (by decide) ?_
        refine j_goto (pc := 61) (tgt := 79) dX5_draws_61 (by decide) ?_
        first | exact L79 _ (by unfold dBid; rw [if_pos c49]) | exact L79 _ (by unfold dBid; rw [if_neg (fun z => z c49), if_pos (hl0.mp c56)]) | exact L79 _ (by unfold dBid; rw [if_neg (fun z => z c49), if_neg (fun z => c56 (hl0.mpr z))])
      · refine j_lload5 (pc := 53) dX5_draws_53 ?_
        refine j_lconst (pc := 55) (v := 0) dX5_draws_55 (by decide) ?_
        refine j_lcmp_ne (pc := 56) (tgt := 64) dX5_draws_56 dX5_draws_57 (by decide) (fun c56 => ?_) (fun c56 => ?_)
        · refine j_lload3 (pc := 64) dX5_draws_64 ?_
          refine j_aload0 (pc := 65) dX5_draws_65 ?_
          refine j_iload1 (pc := 66) dX5_draws_66 ?_
          refine j_iload2 (pc := 67) dX5_draws_67 ?_
          refine j_bipush (pc := 68) (v := nI 15) dX5_draws_68 (by decide) ?_
          refine cd_X5_37 (pc := 70) rfl (s_at) dX5_draws_70 rfl rfl ?_
          refine cd_X5_41 (pc := 73) rfl (s_get hM ha (by first | decide | exact ix_lt hs (by decide) | omega)) hM.1 dX5_draws_73 rfl rfl ?_
          refine cd_X5_108 (pc := 76) rfl (s_min _ _) dX5_draws_76 rfl rfl ?_
          first | exact L79 _ (by unfold dBid; rw [if_pos c49]) | exact L79 _ (by unfold dBid; rw [if_neg (fun z => z c49), if_pos (hl0.mp c56)]) | exact L79 _ (by unfold dBid; rw [if_neg (fun z => z c49), if_neg (fun z => c56 (hl0.mpr z))])
        · refine j_lconst (pc := 60) (v := 0) dX5_draws_60 (by decide) ?_
          refine j_goto (pc := 61) (tgt := 79) dX5_draws_61 (by decide) ?_
          first | exact L79 _ (by unfold dBid; rw [if_pos c49]) | exact L79 _ (by unfold dBid; rw [if_neg (fun z => z c49), if_pos (hl0.mp c56)]) | exact L79 _ (by unfold dBid; rw [if_neg (fun z => z c49), if_neg (fun z => c56 (hl0.mpr z))])
    · intro s hs ih
      have e : cnt (isOt f b) (s + 1) = cnt (isOt f b) s + (if isOt f b s then 1 else 0) := rfl
      rw [e, ← lN_add] at ih
      refine j_iload7 (pc := 6) dX5_draws_6 ?_
      refine j_bipush (pc := 8) (v := nI 60) dX5_draws_8 (by decide) ?_
      refine j_icmpN_ge (pc := 10) (tgt := 40) (by first | decide | omega) (by first | decide | omega) dX5_draws_10 (by decide) (fun c10 => by omega) (fun c10 => ?_)
      refine j_lload5 (pc := 13) dX5_draws_13 ?_
      refine j_aload0 (pc := 15) dX5_draws_15 ?_
      refine j_iload1 (pc := 16) dX5_draws_16 ?_
      refine j_iload7 (pc := 17) dX5_draws_17 ?_
      refine j_iload2 (pc := 19) dX5_draws_19 ?_
      refine cd_X5_139 (pc := 20) rfl (s_isOther hM ha hs hb) hM.1 dX5_draws_20 rfl rfl ?_
      refine j_bif_eq (pc := 23) (tgt := 30) dX5_draws_23 (by decide) (fun c23 => ?_) (fun c23 => ?_)
      · refine j_lconst (pc := 30) (v := 0) dX5_draws_30 (by decide) ?_
        refine j_ladd (pc := 31) dX5_draws_31 ?_
        refine j_lstore5 (pc := 32) dX5_draws_32 (by decide) trivial ?_
        refine j_iincN7 (pc := 34) dX5_draws_34 (by decide) trivial ?_
        refine j_goto (pc := 37) (tgt := 6) dX5_draws_37 (by decide) ?_
        simpa [c23, lN_0, lN_o] using ih
      · refine j_lconst (pc := 26) (v := 1) dX5_draws_26 (by decide) ?_
        refine j_goto (pc := 27) (tgt := 31) dX5_draws_27 (by decide) ?_
        refine j_ladd (pc := 31) dX5_draws_31 ?_
        refine j_lstore5 (pc := 32) dX5_draws_32 (by decide) trivial ?_
        refine j_iincN7 (pc := 34) dX5_draws_34 (by decide) trivial ?_
        refine j_goto (pc := 37) (tgt := 6) dX5_draws_37 (by decide) ?_
        simpa [c23, lN_0, lN_o] using ih
  refine j_lconst (pc := 0) (v := 0) dX5_draws_0 (by decide) ?_
  refine j_lstore5 (pc := 1) dX5_draws_1 (by decide) trivial ?_
  refine j_iconst (pc := 3) (v := nI 0) dX5_draws_3 (by decide) ?_
  refine j_istore7 (pc := 4) dX5_draws_4 (by decide) trivial ?_
  exact L6
theorem s_keeps {c : Nat} (hM : MSh h.1 M) (ha : a < 40) (hc : h.i M 4 = nI c) (hc6 : c < 620) : DV cx mX5_keeps 1 (mh h M a f) [.ref M, .int (nI a)] (mh (keep h M c a f) M a f) := by
  refine Sp.ofQ 1 (by decide) (Nat.le_of_ble_eq_true rfl) rfl (fun Q hQ => ?_)
  have L2 : J cx mX5_keeps (Rm 1 0 0) (mh (pl h (M + 2) (1393 * c) 0 f) M a f) 2 [some (.ref M), some (.int (nI a)), some (.int (nI 0))] [] 0 0 Q := by
    refine dn (P := fun n => J cx mX5_keeps (Rm 1 0 0) (mh (pl h (M + 2) (1393 * c) n f) M a f) 2 [some (.ref M), some (.int (nI a)), some (.int (nI n))] [] 0 0 Q) 1393 ?_ ?_
    · refine j_iload2 (pc := 2) dX5_keeps_2 ?_
      refine j_sipush (pc := 3) (v := nI 1393) dX5_keeps_3 (by decide) ?_
      refine j_icmpN_ge (pc := 6) (tgt := 36) (by first | decide | omega) (by first | decide | omega) dX5_keeps_6 (by decide) (fun c6 => ?_) (fun c6 => by omega)
      refine j_aload0 (pc := 36) dX5_keeps_36 ?_
      refine g_X5_18 (pc := 37) rfl hM.1 hM.2.2.2.1.1 dX5_keeps_37 ?_
      refine j_aload0 (pc := 40) dX5_keeps_40 ?_
      refine g_X5_105 (pc := 41) rfl hM.1 dX5_keeps_41 ?_
      rw [show (mh (pl h (M + 2) (1393 * c) 1393 f) M a f).i M 4 = nI c from hc]
      refine j_iload1 (pc := 44) dX5_keeps_44 ?_
      refine j_iast (pc := 45) hM.2.2.2.1.2 (pk_in c 620 hc6 rfl) dX5_keeps_45 ?_
      rw [nI_clamp (by omega), mh_setI]
      refine j_aload0 (pc := 46) dX5_keeps_46 ?_
      refine j_dup (pc := 47) dX5_keeps_47 ?_
      refine g_X5_105 (pc := 48) rfl hM.1 dX5_keeps_48 ?_
      rw [show (mh ((pl h (M + 2) (1393 * c) 1393 f).setI (M + 3) c (nI a)) M a f).i M 4 = nI c from (up2_a _ _ (by omega)).trans hc]
      refine j_iconst (pc := 51) (v := nI 1) dX5_keeps_51 (by decide) ?_
      refine j_iaddN (pc := 52) dX5_keeps_52 ?_
      refine p_X5_105 (pc := 53) rfl hM.1 dX5_keeps_53 ?_
      refine j_vret (pc := 56) dX5_keeps_56 rfl ?_
      exact hQ _ _ ⟨rfl, rfl⟩
    · intro n hn ih
      refine j_iload2 (pc := 2) dX5_keeps_2 ?_
      refine j_sipush (pc := 3) (v := nI 1393) dX5_keeps_3 (by decide) ?_
      refine j_icmpN_ge (pc := 6) (tgt := 36) (by first | decide | omega) (by first | decide | omega) dX5_keeps_6 (by decide) (fun c6 => by omega) (fun c6 => ?_)
      refine j_aload0 (pc := 9) dX5_keeps_9 ?_
      refine g_X5_15 (pc := 10) rfl hM.1 hM.2.2.1.1 dX5_keeps_10 ?_
      refine j_sipush (pc := 13) (v := nI 1393) dX5_keeps_13 (by decide) ?_
      refine j_aload0 (pc := 16) dX5_keeps_16 ?_
      refine g_X5_105 (pc := 17) rfl hM.1 dX5_keeps_17 ?_
      rw [show (mh (pl h (M + 2) (1393 * c) n f) M a f).i M 4 = nI c from hc]
      refine j_imulN (pc := 20) dX5_keeps_20 ?_
      refine j_iload2 (pc := 21) dX5_keeps_21 ?_
      refine j_iaddN (pc := 22) dX5_keeps_22 ?_
      refine j_aload0 (pc := 23) dX5_keeps_23 ?_
      refine j_iload1 (pc := 24) dX5_keeps_24 ?_
      refine j_iload2 (pc := 25) dX5_keeps_25 ?_
      refine cd_X5_41 (pc := 26) rfl (s_get hM ha (by first | decide | exact ix_lt hs (by decide) | omega)) hM.1 dX5_keeps_26 rfl rfl ?_
      refine j_last (pc := 29) hM.2.2.1.2 (pk_in (1393 * c + n) 863660 (by omega) rfl) dX5_keeps_29 ?_
      rw [nI_clamp (by omega), mh_setL (by omega), pl_set]
      refine j_iincN2 (pc := 30) dX5_keeps_30 (by decide) trivial ?_
      refine j_goto (pc := 33) (tgt := 2) dX5_keeps_33 (by decide) ?_
      exact ih
  rw [pl_0] at L2
  refine j_iconst (pc := 0) (v := nI 0) dX5_keeps_0 (by decide) ?_
  refine j_istore2 (pc := 1) dX5_keeps_1 (by decide) trivial ?_
  exact L2
end

