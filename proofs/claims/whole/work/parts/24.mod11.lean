/-! the reference: draw, the method -/
theorem m1_l : (-1 : Int32).toInt64 = -1 := by decide
theorem who_lt {f : Fl} {b : Nat} (h : dwOK f) (hw : who f = some b) : b < 60 := by
  obtain ⟨h1, ⟨t, h2a, h2b, h2c⟩, -, h4, -⟩ := h
  unfold who at hw
  have hf : ∀ {p : Nat → Bool}, fnd p 60 = some b → b < 60 := fun z => (fnd_some z).1
  split at hw
  · split at hw
    · rename_i k hk
      rw [h2b, lN_nat (by omega)] at hk
      obtain ⟨q, hq, hqe⟩ := h2c k (fnd_some hk).1
      rw [hqe, lN_nat (by omega)] at hw
      cases hw
      exact hq
    · exact hf hw
  · split at hw
    · split at hw
      · cases hw
      · exact hf hw
    · split at hw
      · have key : ∀ n q, itr (bbS f) n none = some q → q < n := by
          intro n
          induction n with
          | zero => intro q hq; cases hq
          | succ n ih =>
            intro q hq
            rcases bbS_lt (show bbS f n (itr (bbS f) n none) = some q from hq) with z | z
            · omega
            · have := ih q z; omega
        exact key 60 b hw
      · split at hw
        · exact hf hw
        · split at hw
          · rename_i z1 _
            rcases h4 with h9 | ⟨q, hq, h9⟩
            · rw [h9] at z1; exact absurd m1_i z1
            · rw [h9, lN_nat (by omega)] at hw; cases hw; exact hq
          · exact hf hw
section
variable {cx : Cx} {h : Hp} {M a : Nat} {f : Fl}
theorem sb_draw {r : Int32} (hM : MSh h.1 M) (hr : isRi h M r = false) : DI cx mX5_draw 8 h [.ref M, .int r] 1 h := by
  refine Sp.of 10 (by decide) (Nat.le_of_ble_eq_true rfl) rfl ?_
  refine j_aload0 (pc := 0) dX5_draw_0 ?_
  refine j_iload1 (pc := 1) dX5_draw_1 ?_
  refine cd_X5_68 (pc := 2) rfl (s_isRing _ hM) hM.1 dX5_draw_2 rfl rfl ?_
  refine j_bif_ne (pc := 5) (tgt := 10) dX5_draw_5 (by decide) (fun c5 => by exact nb c5 hr) (fun c5 => ?_)
  refine j_iconst (pc := 8) (v := 1) dX5_draw_8 (by decide) ?_
  refine j_iret (pc := 9) dX5_draw_9 rfl rfl ?_
  exact ⟨_, rfl, rfl, rfl⟩
theorem s_draw {c : Nat} (hM : MSh h.1 M) (ha : a < 40) (hr : isRi h M (nI a) = true) (hc : h.i M 4 = nI c) (hc6 : c < 620) (hd : dwOK f) :
    DI cx mX5_draw 8 (mh h M a f) [.ref M, .int (nI a)] (fDraw f).1 (if (fDraw f).1 = 0 then mh (keep h M c a f) M a (fDraw f).2 else mh h M a f) := by
  refine Sp.ofQ 10 (by decide) (Nat.le_of_ble_eq_true rfl) rfl (fun Q hQ => ?_)
  obtain ⟨r, p, hrp, hp6, h5, h6⟩ := hd.2.2.2.2.2.2
  have hM2 : MSh (keep h M c a f).1 M := hM
  have L156 : r < 60 → ∀ (g : Fl) (w : Int32) (inn gave bid : Int64), g 5 = lN r → (∀ v h', v = some (.int 0) → h' = mh (keep h M c a f) M a (endR g w.toInt64 (inn + gave) bid gave) → Q v h') →
      J cx mX5_draw (Rm 8 0 0) (mh (keep h M c a f) M a g) 156 [some (.ref M), some (.int (nI a)), some (.int (nI a)), some (.long inn), none, some (.long gave), none, some (.int w), some (.long bid), none, none, none] [] 0 0 Q := by
    intro hr6 g w inn gave bid hg5 hK
    generalize keep h M c a f = h2 at hK hM2
    have hM := hM2
    have e : endR g w.toInt64 (inn + gave) bid gave = (let g2 := itr nsS 60 (itr frS 60 (upF (upF (upF (upF g (1153 + 4 * r) w.toInt64) (1153 + 4 * r + 1) (inn + gave)) (1153 + 4 * r + 2) bid) (1153 + 4 * r + 3) gave)); upF (upF (upF g2 7 (-1)) 9 (-1)) 5 (upF (upF g2 7 (-1)) 9 (-1) 5 + 1)) := by
      unfold endR
      rw [hg5, lN_nat (by omega)]
    rw [e] at hK
    have L219 : ∀ G : Fl, (∀ v h', v = some (.int 0) → h' = mh h2 M a (let g2 := itr nsS 60 (itr frS 60 G); upF (upF (upF g2 7 (-1)) 9 (-1)) 5 (upF (upF g2 7 (-1)) 9 (-1) 5 + 1)) → Q v h') → J cx mX5_draw (Rm 8 0 0) (mh h2 M a G) 219 [some (.ref M), some (.int (nI a)), some (.int (nI a)), some (.long inn), none, some (.long gave), none, some (.int w), some (.long bid), none, none, some (.int (nI 0))] [] 0 0 Q := by
      intro G hG
      refine dn (P := fun n => J cx mX5_draw (Rm 8 0 0) (mh h2 M a (itr frS n G)) 219 [some (.ref M), some (.int (nI a)), some (.int (nI a)), some (.long inn), none, some (.long gave), none, some (.int w), some (.long bid), none, none, some (.int (nI n))] [] 0 0 Q) 60 ?_ ?_
      · generalize itr frS 60 G = G2 at hG
        refine j_iload11 (pc := 219) dX5_draw_219 ?_
        refine j_bipush (pc := 221) (v := nI 60) dX5_draw_221 (by decide) ?_
        refine j_icmpN_ge (pc := 223) (tgt := 271) (by first | decide | omega) (by first | decide | omega) dX5_draw_223 (by decide) (fun c223 => ?_) (fun c223 => by omega)
        refine j_aload0 (pc := 271) dX5_draw_271 ?_
        refine j_iload2 (pc := 272) dX5_draw_272 ?_
        refine cd_X5_102 (pc := 273) rfl (s_nobodySays hM ha) hM.1 dX5_draw_273 rfl rfl ?_
        refine j_aload0 (pc := 276) dX5_draw_276 ?_
        refine j_iload2 (pc := 277) dX5_draw_277 ?_
        refine j_bipush (pc := 278) (v := nI 7) dX5_draw_278 (by decide) ?_
        refine j_ldc2 (pc := 280) dX5_draw_280 wT_kl_X5_66 ?_
        refine cd_X5_62 (pc := 283) rfl (s_set hM ha (by first | decide | exact ix_lt hs (by decide) | omega)) hM.1 dX5_draw_283 rfl rfl ?_
        refine j_aload0 (pc := 286) dX5_draw_286 ?_
        refine j_iload2 (pc := 287) dX5_draw_287 ?_
        refine j_bipush (pc := 288) (v := nI 9) dX5_draw_288 (by decide) ?_
        refine j_ldc2 (pc := 290) dX5_draw_290 wT_kl_X5_66 ?_
        refine cd_X5_62 (pc := 293) rfl (s_set hM ha (by first | decide | exact ix_lt hs (by decide) | omega)) hM.1 dX5_draw_293 rfl rfl ?_
        refine j_aload0 (pc := 296) dX5_draw_296 ?_
        refine j_iload2 (pc := 297) dX5_draw_297 ?_
        refine j_iconst (pc := 298) (v := nI 5) dX5_draw_298 (by decide) ?_
        refine j_lconst (pc := 299) (v := 1) dX5_draw_299 (by decide) ?_
        refine cd_X5_76 (pc := 300) rfl (s_more hM ha (by first | decide | exact ix_lt hs (by decide) | omega)) hM.1 dX5_draw_300 rfl rfl ?_
        refine j_iconst (pc := 303) (v := 0) dX5_draw_303 (by decide) ?_
        refine j_iret (pc := 304) dX5_draw_304 rfl rfl ?_
        exact hG _ _ rfl rfl
      · intro s hs ih
        have ih : J cx mX5_draw (Rm 8 0 0) (mh h2 M a (frS s (itr frS s G))) 219 [some (.ref M), some (.int (nI a)), some (.int (nI a)), some (.long inn), none, some (.long gave), none, some (.int w), some (.long bid), none, none, some (.int (nI (s + 1)))] [] 0 0 Q := ih
        generalize itr frS s G = k at ih
        refine j_iload11 (pc := 219) dX5_draw_219 ?_
        refine j_bipush (pc := 221) (v := nI 60) dX5_draw_221 (by decide) ?_
        refine j_icmpN_ge (pc := 223) (tgt := 271) (by first | decide | omega) (by first | decide | omega) dX5_draw_223 (by decide) (fun c223 => by omega) (fun c223 => ?_)
        refine j_aload0 (pc := 226) dX5_draw_226 ?_
        refine j_iload2 (pc := 227) dX5_draw_227 ?_
        refine j_iload11 (pc := 228) dX5_draw_228 ?_
        refine j_bipush (pc := 230) (v := nI 13) dX5_draw_230 (by decide) ?_
        refine cd_X5_37 (pc := 232) rfl (s_at) dX5_draw_232 rfl rfl ?_
        refine j_lconst (pc := 235) (v := 0) dX5_draw_235 (by decide) ?_
        refine cd_X5_62 (pc := 236) rfl (s_set hM ha (by first | decide | exact ix_lt hs (by decide) | omega)) hM.1 dX5_draw_236 rfl rfl ?_
        refine j_aload0 (pc := 239) dX5_draw_239 ?_
        refine j_iload2 (pc := 240) dX5_draw_240 ?_
        refine j_iload11 (pc := 241) dX5_draw_241 ?_
        refine j_bipush (pc := 243) (v := nI 14) dX5_draw_243 (by decide) ?_
        refine cd_X5_37 (pc := 245) rfl (s_at) dX5_draw_245 rfl rfl ?_
        refine j_lconst (pc := 248) (v := 0) dX5_draw_248 (by decide) ?_
        refine cd_X5_62 (pc := 249) rfl (s_set hM ha (by first | decide | exact ix_lt hs (by decide) | omega)) hM.1 dX5_draw_249 rfl rfl ?_
        refine j_aload0 (pc := 252) dX5_draw_252 ?_
        refine j_iload2 (pc := 253) dX5_draw_253 ?_
        refine j_iload11 (pc := 254) dX5_draw_254 ?_
        refine j_bipush (pc := 256) (v := nI 15) dX5_draw_256 (by decide) ?_
        refine cd_X5_37 (pc := 258) rfl (s_at) dX5_draw_258 rfl rfl ?_
        refine j_lconst (pc := 261) (v := 0) dX5_draw_261 (by decide) ?_
        refine cd_X5_62 (pc := 262) rfl (s_set hM ha (by first | decide | exact ix_lt hs (by decide) | omega)) hM.1 dX5_draw_262 rfl rfl ?_
        refine j_iincN11 (pc := 265) dX5_draw_265 (by decide) trivial ?_
        refine j_goto (pc := 268) (tgt := 219) dX5_draw_268 (by decide) ?_
        exact ih
    refine j_sipush (pc := 156) (v := nI 1153) dX5_draw_156 (by decide) ?_
    refine j_iconst (pc := 159) (v := nI 4) dX5_draw_159 (by decide) ?_
    refine j_aload0 (pc := 160) dX5_draw_160 ?_
    refine j_iload2 (pc := 161) dX5_draw_161 ?_
    refine j_iconst (pc := 162) (v := nI 5) dX5_draw_162 (by decide) ?_
    refine cd_X5_41 (pc := 163) rfl (s_get hM ha (by first | decide | exact ix_lt hs (by decide) | omega)) hM.1 dX5_draw_163 rfl rfl ?_
    rw [hg5]
    refine j_l2iN (pc := 166) dX5_draw_166 ?_
    refine j_imulN (pc := 167) dX5_draw_167 ?_
    refine j_iaddN (pc := 168) dX5_draw_168 ?_
    refine j_istore10 (pc := 169) dX5_draw_169 (by decide) trivial ?_
    refine j_aload0 (pc := 171) dX5_draw_171 ?_
    refine j_iload2 (pc := 172) dX5_draw_172 ?_
    refine j_iload10 (pc := 173) dX5_draw_173 ?_
    refine j_iload7 (pc := 175) dX5_draw_175 ?_
    refine j_i2l (pc := 177) dX5_draw_177 ?_
    refine cd_X5_62 (pc := 178) rfl (s_set hM ha (by first | decide | exact ix_lt hs (by decide) | omega)) hM.1 dX5_draw_178 rfl rfl ?_
    refine j_aload0 (pc := 181) dX5_draw_181 ?_
    refine j_iload2 (pc := 182) dX5_draw_182 ?_
    refine j_iload10 (pc := 183) dX5_draw_183 ?_
    refine j_iconst (pc := 185) (v := nI 1) dX5_draw_185 (by decide) ?_
    refine j_iaddN (pc := 186) dX5_draw_186 ?_
    refine j_lload3 (pc := 187) dX5_draw_187 ?_
    refine j_lload5 (pc := 188) dX5_draw_188 ?_
    refine j_ladd (pc := 190) dX5_draw_190 ?_
    refine cd_X5_62 (pc := 191) rfl (s_set hM ha (by first | decide | exact ix_lt hs (by decide) | omega)) hM.1 dX5_draw_191 rfl rfl ?_
    refine j_aload0 (pc := 194) dX5_draw_194 ?_
    refine j_iload2 (pc := 195) dX5_draw_195 ?_
    refine j_iload10 (pc := 196) dX5_draw_196 ?_
    refine j_iconst (pc := 198) (v := nI 2) dX5_draw_198 (by decide) ?_
    refine j_iaddN (pc := 199) dX5_draw_199 ?_
    refine j_lload8 (pc := 200) dX5_draw_200 ?_
    refine cd_X5_62 (pc := 202) rfl (s_set hM ha (by first | decide | exact ix_lt hs (by decide) | omega)) hM.1 dX5_draw_202 rfl rfl ?_
    refine j_aload0 (pc := 205) dX5_draw_205 ?_
    refine j_iload2 (pc := 206) dX5_draw_206 ?_
    refine j_iload10 (pc := 207) dX5_draw_207 ?_
    refine j_iconst (pc := 209) (v := nI 3) dX5_draw_209 (by decide) ?_
    refine j_iaddN (pc := 210) dX5_draw_210 ?_
    refine j_lload5 (pc := 211) dX5_draw_211 ?_
    refine cd_X5_62 (pc := 213) rfl (s_set hM ha (by first | decide | exact ix_lt hs (by decide) | omega)) hM.1 dX5_draw_213 rfl rfl ?_
    refine j_iconst (pc := 216) (v := nI 0) dX5_draw_216 (by decide) ?_
    refine j_istore11 (pc := 217) dX5_draw_217 (by decide) trivial ?_
    exact J.wk (L219 _ hK) (by simp [lcw])
  have L87 : r < 60 → ¬ f 5 = f 6 → f 4 = 1 → J cx mX5_draw (Rm 8 0 0) (mh (keep h M c a f) M a (lacks f 60).1) 87 [some (.ref M), some (.int (nI a)), some (.int (nI a)), some (.long (cellSum (lacks f 60).1 (lacks f 60).2 60)), none, none, none, none, none, none, none, none] [] 0 0 Q := by
    intro hr6 h56 h41
    have hfd : fDraw f = (0, drawF f) := by unfold fDraw; rw [if_neg (fun z => z h41), if_neg h56]
    have aux : ∀ D : Fl, fDraw f = (0, D) → ∀ v h', v = some (.int 0) → h' = mh (keep h M c a f) M a D → Q v h' := fun D hD v h' hv hh => hQ v h' ⟨_, hv, by rw [hD], by rw [hD, hh]; rfl⟩
    have hQ := aux _ hfd
    have hdl := dw_lacks hd
    unfold drawF at hQ
    dsimp only at hQ
    have hl5 : (lacks f 60).1 5 = lN r := (lacks_o (fun t => by unfold ix; omega) 60).trans h5
    generalize lacks f 60 = x at hQ hdl hl5
    generalize cellSum x.1 x.2 60 = inn at hQ
    generalize hgv : (if x.1 3 ≤ pur x.1 - inn then x.1 3 else pur x.1 - inn) = gave at hQ
    have hdg := hdl (x.1 3 + -gave)
    have hg5 : upF x.1 3 (x.1 3 + -gave) 5 = lN r := (upF_n _ _ (by omega)).trans hl5
    generalize hg : upF x.1 3 (x.1 3 + -gave) = g at hQ hdg hg5
    obtain ⟨k1, k2, k3, k4, k5, k6, k7⟩ := id hdg
    have hM := hM2
    have hwl := fun b => who_lt (b := b) hdg
    cases hwo : who g with
    | none =>
      rw [hwo] at hQ
      refine j_aload0 (pc := 87) dX5_draw_87 ?_
      refine j_iload2 (pc := 88) dX5_draw_88 ?_
      refine j_iconst (pc := 89) (v := nI 3) dX5_draw_89 (by decide) ?_
      refine cd_X5_41 (pc := 90) rfl (s_get hM ha (by first | decide | exact ix_lt hs (by decide) | omega)) hM.1 dX5_draw_90 rfl rfl ?_
      refine j_aload0 (pc := 93) dX5_draw_93 ?_
      refine j_iload2 (pc := 94) dX5_draw_94 ?_
      refine cd_X5_98 (pc := 95) rfl (s_purse hM ha) hM.1 dX5_draw_95 rfl rfl ?_
      refine j_lload3 (pc := 98) dX5_draw_98 ?_
      refine j_lsub (pc := 99) dX5_draw_99 ?_
      refine cd_X5_108 (pc := 100) rfl (s_min _ _) dX5_draw_100 rfl rfl ?_
      rw [hgv]
      refine j_lstore5 (pc := 103) dX5_draw_103 (by decide) trivial ?_
      refine j_aload0 (pc := 105) dX5_draw_105 ?_
      refine j_iload2 (pc := 106) dX5_draw_106 ?_
      refine j_iconst (pc := 107) (v := nI 3) dX5_draw_107 (by decide) ?_
      refine j_lload5 (pc := 108) dX5_draw_108 ?_
      refine j_lneg (pc := 110) dX5_draw_110 ?_
      refine cd_X5_76 (pc := 111) rfl (s_more hM ha (by first | decide | exact ix_lt hs (by decide) | omega)) hM.1 dX5_draw_111 rfl rfl ?_
      rw [hg]
      refine j_aload0 (pc := 114) dX5_draw_114 ?_
      refine j_iload2 (pc := 115) dX5_draw_115 ?_
      refine cd_X5_153 (pc := 116) rfl (s_who hM ha k1 k2 k3 ⟨r, by omega, hg5⟩ k4) hM.1 dX5_draw_116 rfl rfl ?_
      rw [hwo]
      refine j_istore7 (pc := 119) dX5_draw_119 (by decide) trivial ?_
      refine j_lconst (pc := 121) (v := 0) dX5_draw_121 (by decide) ?_
      refine j_lstore8 (pc := 122) dX5_draw_122 (by decide) trivial ?_
      refine j_iload7 (pc := 124) dX5_draw_124 ?_
      refine j_iconst (pc := 126) (v := (-1)) dX5_draw_126 (by decide) ?_
      refine j_icmp_ne (pc := 127) (tgt := 143) dX5_draw_127 (by decide) (fun c127 => by exact absurd rfl c127) (fun c127 => ?_)
      refine j_aload0 (pc := 130) dX5_draw_130 ?_
      refine j_iload2 (pc := 131) dX5_draw_131 ?_
      refine j_iconst (pc := 132) (v := nI 3) dX5_draw_132 (by decide) ?_
      refine j_lload3 (pc := 133) dX5_draw_133 ?_
      refine j_lload5 (pc := 134) dX5_draw_134 ?_
      refine j_ladd (pc := 136) dX5_draw_136 ?_
      refine cd_X5_76 (pc := 137) rfl (s_more hM ha (by first | decide | exact ix_lt hs (by decide) | omega)) hM.1 dX5_draw_137 rfl rfl ?_
      refine j_goto (pc := 140) (tgt := 156) dX5_draw_140 (by decide) ?_
      exact L156 hr6 _ (-1) inn gave 0 ((upF_n _ _ (by omega)).trans hg5) (fun v h' hv hh => hQ v h' hv (by rw [hh, m1_l]))
    | some b =>
      rw [hwo] at hQ
      have hb := hwl b hwo
      refine j_aload0 (pc := 87) dX5_draw_87 ?_
      refine j_iload2 (pc := 88) dX5_draw_88 ?_
      refine j_iconst (pc := 89) (v := nI 3) dX5_draw_89 (by decide) ?_
      refine cd_X5_41 (pc := 90) rfl (s_get hM ha (by first | decide | exact ix_lt hs (by decide) | omega)) hM.1 dX5_draw_90 rfl rfl ?_
      refine j_aload0 (pc := 93) dX5_draw_93 ?_
      refine j_iload2 (pc := 94) dX5_draw_94 ?_
      refine cd_X5_98 (pc := 95) rfl (s_purse hM ha) hM.1 dX5_draw_95 rfl rfl ?_
      refine j_lload3 (pc := 98) dX5_draw_98 ?_
      refine j_lsub (pc := 99) dX5_draw_99 ?_
      refine cd_X5_108 (pc := 100) rfl (s_min _ _) dX5_draw_100 rfl rfl ?_
      rw [hgv]
      refine j_lstore5 (pc := 103) dX5_draw_103 (by decide) trivial ?_
      refine j_aload0 (pc := 105) dX5_draw_105 ?_
      refine j_iload2 (pc := 106) dX5_draw_106 ?_
      refine j_iconst (pc := 107) (v := nI 3) dX5_draw_107 (by decide) ?_
      refine j_lload5 (pc := 108) dX5_draw_108 ?_
      refine j_lneg (pc := 110) dX5_draw_110 ?_
      refine cd_X5_76 (pc := 111) rfl (s_more hM ha (by first | decide | exact ix_lt hs (by decide) | omega)) hM.1 dX5_draw_111 rfl rfl ?_
      rw [hg]
      refine j_aload0 (pc := 114) dX5_draw_114 ?_
      refine j_iload2 (pc := 115) dX5_draw_115 ?_
      refine cd_X5_153 (pc := 116) rfl (s_who hM ha k1 k2 k3 ⟨r, by omega, hg5⟩ k4) hM.1 dX5_draw_116 rfl rfl ?_
      rw [hwo, woI_s]
      refine j_istore7 (pc := 119) dX5_draw_119 (by decide) trivial ?_
      refine j_lconst (pc := 121) (v := 0) dX5_draw_121 (by decide) ?_
      refine j_lstore8 (pc := 122) dX5_draw_122 (by decide) trivial ?_
      refine j_iload7 (pc := 124) dX5_draw_124 ?_
      refine j_iconst (pc := 126) (v := (-1)) dX5_draw_126 (by decide) ?_
      refine j_icmp_ne (pc := 127) (tgt := 143) dX5_draw_127 (by decide) (fun c127 => ?_) (fun c127 => by exact absurd c127 (nI_ne hb))
      refine j_aload0 (pc := 143) dX5_draw_143 ?_
      refine j_iload2 (pc := 144) dX5_draw_144 ?_
      refine j_iload7 (pc := 145) dX5_draw_145 ?_
      refine j_lload3 (pc := 147) dX5_draw_147 ?_
      refine j_lload5 (pc := 148) dX5_draw_148 ?_
      refine j_ladd (pc := 150) dX5_draw_150 ?_
      refine cd_X5_156 (pc := 151) rfl (s_draws hM ha hb k5 (k6 b hb)) hM.1 dX5_draw_151 rfl rfl ?_
      refine j_lstore8 (pc := 154) dX5_draw_154 (by decide) trivial ?_
      exact L156 hr6 _ (nI b) inn gave _ ((draws_o (fun t => by unfold ix; omega)).trans hg5) (fun v h' hv hh => hQ v h' hv (by rw [hh, nI_l (by omega)]))
  have L59 : r < 60 → ¬ f 5 = f 6 → f 4 = 1 → J cx mX5_draw (Rm 8 0 0) (mh (keep h M c a f) M a (lacks f 60).1) 59 [some (.ref M), some (.int (nI a)), some (.int (nI a)), some (.long (lacks f 60).2), none, some (.int (nI 0)), none, none, none, none, none, none] [] 0 0 Q := by
    intro hr6 h56 h41
    have L := L87 hr6 h56 h41
    generalize lacks f 60 = x at L
    generalize keep h M c a f = h2 at L hM2
    have hM := hM2
    refine dn (P := fun n => J cx mX5_draw (Rm 8 0 0) (mh h2 M a x.1) 59 [some (.ref M), some (.int (nI a)), some (.int (nI a)), some (.long (cellSum x.1 x.2 n)), none, some (.int (nI n)), none, none, none, none, none, none] [] 0 0 Q) 60 ?_ ?_
    · refine j_iload5 (pc := 59) dX5_draw_59 ?_
      refine j_bipush (pc := 61) (v := nI 60) dX5_draw_61 (by decide) ?_
      refine j_icmpN_ge (pc := 63) (tgt := 87) (by first | decide | omega) (by first | decide | omega) dX5_draw_63 (by decide) (fun c63 => ?_) (fun c63 => by omega)
      exact J.wk L (by simp [lcw])
    · intro s hs ih
      refine j_iload5 (pc := 59) dX5_draw_59 ?_
      refine j_bipush (pc := 61) (v := nI 60) dX5_draw_61 (by decide) ?_
      refine j_icmpN_ge (pc := 63) (tgt := 87) (by first | decide | omega) (by first | decide | omega) dX5_draw_63 (by decide) (fun c63 => by omega) (fun c63 => ?_)
      refine j_lload3 (pc := 66) dX5_draw_66 ?_
      refine j_aload0 (pc := 67) dX5_draw_67 ?_
      refine j_iload2 (pc := 68) dX5_draw_68 ?_
      refine j_iload5 (pc := 69) dX5_draw_69 ?_
      refine j_bipush (pc := 71) (v := nI 13) dX5_draw_71 (by decide) ?_
      refine cd_X5_37 (pc := 73) rfl (s_at) dX5_draw_73 rfl rfl ?_
      refine cd_X5_41 (pc := 76) rfl (s_get hM ha (by first | decide | exact ix_lt hs (by decide) | omega)) hM.1 dX5_draw_76 rfl rfl ?_
      refine j_ladd (pc := 79) dX5_draw_79 ?_
      refine j_lstore3 (pc := 80) dX5_draw_80 (by decide) trivial ?_
      refine j_iincN5 (pc := 81) dX5_draw_81 (by decide) trivial ?_
      refine j_goto (pc := 84) (tgt := 59) dX5_draw_84 (by decide) ?_
      exact ih
  refine j_aload0 (pc := 0) dX5_draw_0 ?_
  refine j_iload1 (pc := 1) dX5_draw_1 ?_
  refine cd_X5_68 (pc := 2) rfl (s_isRing _ hM) hM.1 dX5_draw_2 rfl rfl ?_
  refine j_bif_ne (pc := 5) (tgt := 10) dX5_draw_5 (by decide) (fun c5 => ?_) (fun c5 => by exact nb hr c5)
  refine j_aload0 (pc := 10) dX5_draw_10 ?_
  refine j_iload1 (pc := 11) dX5_draw_11 ?_
  refine j_iconst (pc := 12) (v := nI 4) dX5_draw_12 (by decide) ?_
  refine cd_X5_41 (pc := 13) rfl (s_get hM ha (by first | decide | exact ix_lt hs (by decide) | omega)) hM.1 dX5_draw_13 rfl rfl ?_
  refine j_lconst (pc := 16) (v := 1) dX5_draw_16 (by decide) ?_
  refine j_lcmp_eq (pc := 17) (tgt := 23) dX5_draw_17 dX5_draw_18 (by decide) (fun c17 => ?_) (fun c17 => ?_)
  · refine j_aload0 (pc := 23) dX5_draw_23 ?_
    refine j_iload1 (pc := 24) dX5_draw_24 ?_
    refine j_iconst (pc := 25) (v := nI 5) dX5_draw_25 (by decide) ?_
    refine cd_X5_41 (pc := 26) rfl (s_get hM ha (by first | decide | exact ix_lt hs (by decide) | omega)) hM.1 dX5_draw_26 rfl rfl ?_
    refine j_aload0 (pc := 29) dX5_draw_29 ?_
    refine j_iload1 (pc := 30) dX5_draw_30 ?_
    refine j_bipush (pc := 31) (v := nI 6) dX5_draw_31 (by decide) ?_
    refine cd_X5_41 (pc := 33) rfl (s_get hM ha (by first | decide | exact ix_lt hs (by decide) | omega)) hM.1 dX5_draw_33 rfl rfl ?_
    refine j_lcmp_ne (pc := 36) (tgt := 43) dX5_draw_36 dX5_draw_37 (by decide) (fun c36 => ?_) (fun c36 => ?_)
    · have hr6 : r < 60 := by rcases Nat.lt_or_ge r p with z | z; omega; exact absurd (by rw [h5, h6, show r = p by omega]) c36
      refine j_iload1 (pc := 43) dX5_draw_43 ?_
      refine j_istore2 (pc := 44) dX5_draw_44 (by decide) trivial ?_
      refine j_aload0 (pc := 45) dX5_draw_45 ?_
      refine j_iload2 (pc := 46) dX5_draw_46 ?_
      refine cd_X5_147 (pc := 47) rfl (s_keeps hM ha hc hc6) hM.1 dX5_draw_47 rfl rfl ?_
      refine j_aload0 (pc := 50) dX5_draw_50 ?_
      refine j_iload2 (pc := 51) dX5_draw_51 ?_
      refine cd_X5_150 (pc := 52) rfl (s_lacks hM2 ha hd.2.2.2.2.1) hM.1 dX5_draw_52 rfl rfl ?_
      refine j_lstore3 (pc := 55) dX5_draw_55 (by decide) trivial ?_
      refine j_iconst (pc := 56) (v := nI 0) dX5_draw_56 (by decide) ?_
      refine j_istore5 (pc := 57) dX5_draw_57 (by decide) trivial ?_
      exact L59 hr6 c36 c17
    · refine j_bipush (pc := 40) (v := 8) dX5_draw_40 (by decide) ?_
      have e8 : fDraw f = (8, f) := by unfold fDraw; rw [if_neg (fun z => z c17), if_pos c36]
      refine j_iret (pc := 42) dX5_draw_42 rfl rfl ?_
      exact hQ _ _ ⟨_, rfl, by rw [e8], by rw [e8]; rfl⟩
  · refine j_iconst (pc := 21) (v := 2) dX5_draw_21 (by decide) ?_
    refine j_iret (pc := 22) dX5_draw_22 rfl rfl ?_
    exact hQ _ _ ⟨_, rfl, by unfold fDraw; rw [if_pos c17], by unfold fDraw; rw [if_pos c17]; rfl⟩
end

