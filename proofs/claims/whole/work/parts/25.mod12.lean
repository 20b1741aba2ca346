/-! the reference: stop, stops, close -/
def stW (h : Hp) (M a i s : Nat) (g : Fl) : Hp := ((((h.setL (M + 4) (sx a i 0) (lN s)).setL (M + 4) (sx a i 1) (g 5)).setL (M + 4) (sx a i 2) (stOwed g s)).setL (M + 4) (sx a i 3) (stOwes g s)).setL (M + 4) (sx a i 4) 0
theorem sx_lt {a i k : Nat} (ha : a < 40) (hi : i < 600) (hk : k < 5) : sx a i k < 120000 := by unfold sx; omega
theorem stop1_o {f : Fl} {s x : Nat} (hx : x ≠ 9 ∧ x ≠ ix s 8 ∧ x ≠ ix s 13 ∧ x ≠ ix s 14 ∧ x ≠ ix s 15 ∧ x ≠ ix s 16) : stop1 f s x = f x := by
  have h0 : upF (upF (cbS s f) (ix s 15) 0) (ix s 16) 0 x = f x := by
    rw [upF_n _ _ hx.2.2.2.2.2, upF_n _ _ hx.2.2.2.2.1]
    unfold cbS
    rw [upF_n _ _ hx.2.2.2.1, upF_n _ _ hx.2.2.1, upF_n _ _ hx.2.1]
  unfold stop1
  split
  · rw [upF_n _ _ hx.1]; exact h0
  · exact h0
def fStop (h : Hp) (M a i : Nat) (f : Fl) (so : Option Nat) : Int32 × Hp :=
  if ¬ ag f so = 0 then (ag f so, mh h M a f) else match so with
  | none => (0, mh h M a f)
  | some s => (0, mh (stW h M a i s (stop1 f s)) M a (stop2 (stop1 f s) s))
/-- the stops are paid -/
def csS (M a i : Nat) (y : Hp × Fl) : Hp × Fl :=
  let owed := y.1.l (M + 4) (sx a i 2)
  let gives := if owed ≤ y.2 3 then owed else y.2 3
  (y.1.setL (M + 4) (sx a i 4) (owed - gives), upF y.2 3 (y.2 3 + -gives))
def fClose (h : Hp) (M a st : Nat) (f : Fl) : Int32 × Hp :=
  if ¬ f 4 = 1 then (2, mh h M a f) else if f 5 < f 6 then (8, mh h M a f) else
    (0, mh (itr (csS M a) st (h, itr bcS 60 f)).1 M a (clEnd (itr (csS M a) st (h, itr bcS 60 f)).2))
theorem bcS_o {x : Nat} (hx : ∀ t, x ≠ ix t 7 ∧ x ≠ ix t 11) (n : Nat) (y : Fl) : bcS n y x = y x := by
  unfold bcS
  rw [upF_n _ _ (hx n).1, upF_n _ _ (hx n).2]
section
variable {cx : Cx} {h : Hp} {M a : Nat} {f : Fl}
theorem sb_stop {r s : Int32} (hM : MSh h.1 M) (hr : isRi h M r = false) : DI cx mX5_stop 4 h [.ref M, .int r, .int s] 1 h := by
  refine Sp.of 4 (by decide) (Nat.le_of_ble_eq_true rfl) rfl ?_
  refine j_aload0 (pc := 0) dX5_stop_0 ?_
  refine j_iload1 (pc := 1) dX5_stop_1 ?_
  refine j_iload2 (pc := 2) dX5_stop_2 ?_
  refine cd_X5_81 (pc := 3) rfl (sb_against hM hr) hM.1 dX5_stop_3 rfl rfl ?_
  refine j_istore3 (pc := 6) dX5_stop_6 (by decide) trivial ?_
  refine j_iload3 (pc := 7) dX5_stop_7 ?_
  refine j_if_eq (pc := 8) (tgt := 13) dX5_stop_8 (by decide) (fun c8 => by simp at c8) (fun c8 => ?_)
  refine j_iload3 (pc := 11) dX5_stop_11 ?_
  refine j_iret (pc := 12) dX5_stop_12 rfl rfl ?_
  exact ⟨_, rfl, rfl, rfl⟩
theorem s_stop {seat : Int32} {i : Nat} (hM : MSh h.1 M) (ha : a < 40) (hr : isRi h M (nI a) = true) (h8 : f 8 = lN i) (hi : i < 600) : DI cx mX5_stop 4 (mh h M a f) [.ref M, .int (nI a), .int seat] (fStop h M a i f (sN seat)).1 (fStop h M a i f (sN seat)).2 := by
  rcases sN_cases seat with ⟨hso, hsn⟩ | ⟨s, hs, rfl, hso⟩ <;> rw [hso]
  · refine Sp.of 4 (by decide) (Nat.le_of_ble_eq_true rfl) rfl ?_
    refine j_aload0 (pc := 0) dX5_stop_0 ?_
    refine j_iload1 (pc := 1) dX5_stop_1 ?_
    refine j_iload2 (pc := 2) dX5_stop_2 ?_
    refine cd_X5_81 (pc := 3) rfl (s_against hM ha hr) hM.1 dX5_stop_3 rfl rfl ?_
    refine j_istore3 (pc := 6) dX5_stop_6 (by decide) trivial ?_
    refine j_iload3 (pc := 7) dX5_stop_7 ?_
    refine j_if_eq (pc := 8) (tgt := 13) dX5_stop_8 (by decide) (fun c8 => by simp [hso, ag] at c8; split at c8 <;> simp at c8) (fun c8 => ?_)
    refine j_iload3 (pc := 11) dX5_stop_11 ?_
    refine j_iret (pc := 12) dX5_stop_12 rfl rfl ?_
    exact ⟨_, rfl, by simp_all [fStop], by simp_all [fStop]⟩
  · refine Sp.ofQ 4 (by decide) (Nat.le_of_ble_eq_true rfl) rfl (fun Q hQ => ?_)
    have hg8 : stop1 f s 8 = lN i := (stop1_o (by unfold ix; omega)).trans h8
    have L74 : ag f (some s) = 0 → ∀ (g : Fl) (e3 : Option Value), nol e3 → stop1 f s = g → J cx mX5_stop (Rm 4 0 0) (mh h M a g) 74 [some (.ref M), some (.int (nI a)), some (.int (nI s)), e3, some (.int (nI a)), none, none] [] 0 0 Q := by
      intro hag g e3 he3 hg
      have hf : fStop h M a i f (some s) = (0, mh (stW h M a i s g) M a (stop2 g s)) := by unfold fStop; rw [if_neg (fun z => z hag)]; dsimp only; rw [hg]
      rw [hf] at hQ
      rw [hg] at hg8
      by_cases hdr : g (ix s 3) = 1
      · have ho1 : stOwed g s = 0 := if_pos hdr
        have ho2 : stOwes g s = g 1 * (g 6 - g 5) + g (ix s 5) := if_pos hdr
        unfold stW at hQ
        rw [ho1, ho2] at hQ
        refine j_aload0 (pc := 74) dX5_stop_74 ?_
        refine j_iload4 (pc := 75) dX5_stop_75 ?_
        refine j_iload2 (pc := 77) dX5_stop_77 ?_
        refine j_iconst (pc := 78) (v := nI 3) dX5_stop_78 (by decide) ?_
        refine cd_X5_37 (pc := 79) rfl (s_at) dX5_stop_79 rfl rfl ?_
        refine cd_X5_41 (pc := 82) rfl (s_get hM ha (by first | decide | exact ix_lt hs (by decide) | omega)) hM.1 dX5_stop_82 rfl rfl ?_
        refine j_lconst (pc := 85) (v := 1) dX5_stop_85 (by decide) ?_
        refine j_lcmp_ne (pc := 86) (tgt := 94) dX5_stop_86 dX5_stop_87 (by decide) (fun c86 => by exact absurd hdr c86) (fun c86 => ?_)
        refine j_iconst (pc := 90) (v := 1) dX5_stop_90 (by decide) ?_
        refine j_goto (pc := 91) (tgt := 95) dX5_stop_91 (by decide) ?_
        refine j_istore5 (pc := 95) dX5_stop_95 (by decide) trivial ?_
        refine j_aload0 (pc := 97) dX5_stop_97 ?_
        refine j_iload4 (pc := 98) dX5_stop_98 ?_
        refine j_bipush (pc := 100) (v := nI 8) dX5_stop_100 (by decide) ?_
        refine cd_X5_41 (pc := 102) rfl (s_get hM ha (by first | decide | exact ix_lt hs (by decide) | omega)) hM.1 dX5_stop_102 rfl rfl ?_
        rw [hg8]
        refine j_l2iN (pc := 105) dX5_stop_105 ?_
        refine j_istore6 (pc := 106) dX5_stop_106 (by decide) trivial ?_
        refine j_aload0 (pc := 108) dX5_stop_108 ?_
        refine g_X5_23 (pc := 109) rfl hM.1 hM.2.2.2.2.1.1 dX5_stop_109 ?_
        refine j_iload4 (pc := 112) dX5_stop_112 ?_
        refine j_iload6 (pc := 114) dX5_stop_114 ?_
        refine j_iconst (pc := 116) (v := nI 0) dX5_stop_116 (by decide) ?_
        refine cd_X5_160 (pc := 117) rfl (s_stopAt) dX5_stop_117 rfl rfl ?_
        refine j_iload2 (pc := 120) dX5_stop_120 ?_
        refine j_i2lN (pc := 121) (by first | decide | omega) dX5_stop_121 ?_
        refine j_last (pc := 122) hM.2.2.2.2.1.2 (pk_in (sx a i 0) 120000 (sx_lt ha hi (by decide)) rfl) dX5_stop_122 ?_
        rw [nI_clamp (Nat.lt_trans (sx_lt ha hi (by decide)) (by decide)), mh_setL (by omega)]
        refine j_aload0 (pc := 123) dX5_stop_123 ?_
        refine g_X5_23 (pc := 124) rfl hM.1 hM.2.2.2.2.1.1 dX5_stop_124 ?_
        refine j_iload4 (pc := 127) dX5_stop_127 ?_
        refine j_iload6 (pc := 129) dX5_stop_129 ?_
        refine j_iconst (pc := 131) (v := nI 1) dX5_stop_131 (by decide) ?_
        refine cd_X5_160 (pc := 132) rfl (s_stopAt) dX5_stop_132 rfl rfl ?_
        refine j_aload0 (pc := 135) dX5_stop_135 ?_
        refine j_iload4 (pc := 136) dX5_stop_136 ?_
        refine j_iconst (pc := 138) (v := nI 5) dX5_stop_138 (by decide) ?_
        refine cd_X5_41 (pc := 139) rfl (s_get hM ha (by first | decide | exact ix_lt hs (by decide) | omega)) hM.1 dX5_stop_139 rfl rfl ?_
        refine j_last (pc := 142) hM.2.2.2.2.1.2 (pk_in (sx a i 1) 120000 (sx_lt ha hi (by decide)) rfl) dX5_stop_142 ?_
        rw [nI_clamp (Nat.lt_trans (sx_lt ha hi (by decide)) (by decide)), mh_setL (by omega)]
        refine j_aload0 (pc := 143) dX5_stop_143 ?_
        refine g_X5_23 (pc := 144) rfl hM.1 hM.2.2.2.2.1.1 dX5_stop_144 ?_
        refine j_iload4 (pc := 147) dX5_stop_147 ?_
        refine j_iload6 (pc := 149) dX5_stop_149 ?_
        refine j_iconst (pc := 151) (v := nI 2) dX5_stop_151 (by decide) ?_
        refine cd_X5_160 (pc := 152) rfl (s_stopAt) dX5_stop_152 rfl rfl ?_
        refine j_iload5 (pc := 155) dX5_stop_155 ?_
        refine j_if_eq (pc := 157) (tgt := 164) dX5_stop_157 (by decide) (fun c157 => by exact absurd c157 (by decide)) (fun c157 => ?_)
        refine j_lconst (pc := 160) (v := 0) dX5_stop_160 (by decide) ?_
        refine j_goto (pc := 161) (tgt := 188) dX5_stop_161 (by decide) ?_
        refine j_last (pc := 188) hM.2.2.2.2.1.2 (pk_in (sx a i 2) 120000 (sx_lt ha hi (by decide)) rfl) dX5_stop_188 ?_
        rw [nI_clamp (Nat.lt_trans (sx_lt ha hi (by decide)) (by decide)), mh_setL (by omega)]
        refine j_aload0 (pc := 189) dX5_stop_189 ?_
        refine g_X5_23 (pc := 190) rfl hM.1 hM.2.2.2.2.1.1 dX5_stop_190 ?_
        refine j_iload4 (pc := 193) dX5_stop_193 ?_
        refine j_iload6 (pc := 195) dX5_stop_195 ?_
        refine j_iconst (pc := 197) (v := nI 3) dX5_stop_197 (by decide) ?_
        refine cd_X5_160 (pc := 198) rfl (s_stopAt) dX5_stop_198 rfl rfl ?_
        refine j_iload5 (pc := 201) dX5_stop_201 ?_
        refine j_if_eq (pc := 203) (tgt := 245) dX5_stop_203 (by decide) (fun c203 => by exact absurd c203 (by decide)) (fun c203 => ?_)
        refine j_aload0 (pc := 206) dX5_stop_206 ?_
        refine j_iload4 (pc := 207) dX5_stop_207 ?_
        refine j_iconst (pc := 209) (v := nI 1) dX5_stop_209 (by decide) ?_
        refine cd_X5_41 (pc := 210) rfl (s_get hM ha (by first | decide | exact ix_lt hs (by decide) | omega)) hM.1 dX5_stop_210 rfl rfl ?_
        refine j_aload0 (pc := 213) dX5_stop_213 ?_
        refine j_iload4 (pc := 214) dX5_stop_214 ?_
        refine j_bipush (pc := 216) (v := nI 6) dX5_stop_216 (by decide) ?_
        refine cd_X5_41 (pc := 218) rfl (s_get hM ha (by first | decide | exact ix_lt hs (by decide) | omega)) hM.1 dX5_stop_218 rfl rfl ?_
        refine j_aload0 (pc := 221) dX5_stop_221 ?_
        refine j_iload4 (pc := 222) dX5_stop_222 ?_
        refine j_iconst (pc := 224) (v := nI 5) dX5_stop_224 (by decide) ?_
        refine cd_X5_41 (pc := 225) rfl (s_get hM ha (by first | decide | exact ix_lt hs (by decide) | omega)) hM.1 dX5_stop_225 rfl rfl ?_
        refine j_lsub (pc := 228) dX5_stop_228 ?_
        refine j_lmul (pc := 229) dX5_stop_229 ?_
        refine j_aload0 (pc := 230) dX5_stop_230 ?_
        refine j_iload4 (pc := 231) dX5_stop_231 ?_
        refine j_iload2 (pc := 233) dX5_stop_233 ?_
        refine j_iconst (pc := 234) (v := nI 5) dX5_stop_234 (by decide) ?_
        refine cd_X5_37 (pc := 235) rfl (s_at) dX5_stop_235 rfl rfl ?_
        refine cd_X5_41 (pc := 238) rfl (s_get hM ha (by first | decide | exact ix_lt hs (by decide) | omega)) hM.1 dX5_stop_238 rfl rfl ?_
        refine j_ladd (pc := 241) dX5_stop_241 ?_
        refine j_goto (pc := 242) (tgt := 246) dX5_stop_242 (by decide) ?_
        refine j_last (pc := 246) hM.2.2.2.2.1.2 (pk_in (sx a i 3) 120000 (sx_lt ha hi (by decide)) rfl) dX5_stop_246 ?_
        rw [nI_clamp (Nat.lt_trans (sx_lt ha hi (by decide)) (by decide)), mh_setL (by omega)]
        refine j_aload0 (pc := 247) dX5_stop_247 ?_
        refine g_X5_23 (pc := 248) rfl hM.1 hM.2.2.2.2.1.1 dX5_stop_248 ?_
        refine j_iload4 (pc := 251) dX5_stop_251 ?_
        refine j_iload6 (pc := 253) dX5_stop_253 ?_
        refine j_iconst (pc := 255) (v := nI 4) dX5_stop_255 (by decide) ?_
        refine cd_X5_160 (pc := 256) rfl (s_stopAt) dX5_stop_256 rfl rfl ?_
        refine j_lconst (pc := 259) (v := 0) dX5_stop_259 (by decide) ?_
        refine j_last (pc := 260) hM.2.2.2.2.1.2 (pk_in (sx a i 4) 120000 (sx_lt ha hi (by decide)) rfl) dX5_stop_260 ?_
        rw [nI_clamp (Nat.lt_trans (sx_lt ha hi (by decide)) (by decide)), mh_setL (by omega)]
        refine j_aload0 (pc := 261) dX5_stop_261 ?_
        refine j_iload4 (pc := 262) dX5_stop_262 ?_
        refine j_bipush (pc := 264) (v := nI 8) dX5_stop_264 (by decide) ?_
        refine j_lconst (pc := 266) (v := 1) dX5_stop_266 (by decide) ?_
        refine cd_X5_76 (pc := 267) rfl (s_more hM ha (by first | decide | exact ix_lt hs (by decide) | omega)) hM.1 dX5_stop_267 rfl rfl ?_
        refine j_aload0 (pc := 270) dX5_stop_270 ?_
        refine j_iload4 (pc := 271) dX5_stop_271 ?_
        refine j_iload2 (pc := 273) dX5_stop_273 ?_
        refine j_iconst (pc := 274) (v := nI 4) dX5_stop_274 (by decide) ?_
        refine cd_X5_37 (pc := 275) rfl (s_at) dX5_stop_275 rfl rfl ?_
        refine j_lconst (pc := 278) (v := 1) dX5_stop_278 (by decide) ?_
        refine cd_X5_62 (pc := 279) rfl (s_set hM ha (by first | decide | exact ix_lt hs (by decide) | omega)) hM.1 dX5_stop_279 rfl rfl ?_
        refine j_aload0 (pc := 282) dX5_stop_282 ?_
        refine j_iload4 (pc := 283) dX5_stop_283 ?_
        refine j_iload2 (pc := 285) dX5_stop_285 ?_
        refine j_bipush (pc := 286) (v := nI 12) dX5_stop_286 (by decide) ?_
        refine cd_X5_37 (pc := 288) rfl (s_at) dX5_stop_288 rfl rfl ?_
        refine j_lconst (pc := 291) (v := 0) dX5_stop_291 (by decide) ?_
        refine cd_X5_62 (pc := 292) rfl (s_set hM ha (by first | decide | exact ix_lt hs (by decide) | omega)) hM.1 dX5_stop_292 rfl rfl ?_
        refine j_aload0 (pc := 295) dX5_stop_295 ?_
        refine j_iload4 (pc := 296) dX5_stop_296 ?_
        refine j_iload2 (pc := 298) dX5_stop_298 ?_
        refine j_iconst (pc := 299) (v := nI 5) dX5_stop_299 (by decide) ?_
        refine cd_X5_37 (pc := 300) rfl (s_at) dX5_stop_300 rfl rfl ?_
        refine j_lconst (pc := 303) (v := 0) dX5_stop_303 (by decide) ?_
        refine cd_X5_62 (pc := 304) rfl (s_set hM ha (by first | decide | exact ix_lt hs (by decide) | omega)) hM.1 dX5_stop_304 rfl rfl ?_
        refine j_aload0 (pc := 307) dX5_stop_307 ?_
        refine j_iload4 (pc := 308) dX5_stop_308 ?_
        refine j_iload2 (pc := 310) dX5_stop_310 ?_
        refine cd_X5_167 (pc := 311) rfl (s_backComes hM ha hs) hM.1 dX5_stop_311 rfl rfl ?_
        refine j_iconst (pc := 314) (v := 0) dX5_stop_314 (by decide) ?_
        refine j_iret (pc := 315) dX5_stop_315 rfl rfl ?_
        exact hQ _ _ ⟨_, rfl, rfl, rfl⟩
      · have ho1 : stOwed g s = if 0 < g (ix s 8) - g 2 then g (ix s 8) - g 2 else 0 := if_neg hdr
        have ho2 : stOwes g s = 0 := if_neg hdr
        unfold stW at hQ
        rw [ho1, ho2] at hQ
        refine j_aload0 (pc := 74) dX5_stop_74 ?_
        refine j_iload4 (pc := 75) dX5_stop_75 ?_
        refine j_iload2 (pc := 77) dX5_stop_77 ?_
        refine j_iconst (pc := 78) (v := nI 3) dX5_stop_78 (by decide) ?_
        refine cd_X5_37 (pc := 79) rfl (s_at) dX5_stop_79 rfl rfl ?_
        refine cd_X5_41 (pc := 82) rfl (s_get hM ha (by first | decide | exact ix_lt hs (by decide) | omega)) hM.1 dX5_stop_82 rfl rfl ?_
        refine j_lconst (pc := 85) (v := 1) dX5_stop_85 (by decide) ?_
        refine j_lcmp_ne (pc := 86) (tgt := 94) dX5_stop_86 dX5_stop_87 (by decide) (fun c86 => ?_) (fun c86 => by exact absurd c86 hdr)
        refine j_iconst (pc := 94) (v := 0) dX5_stop_94 (by decide) ?_
        refine j_istore5 (pc := 95) dX5_stop_95 (by decide) trivial ?_
        refine j_aload0 (pc := 97) dX5_stop_97 ?_
        refine j_iload4 (pc := 98) dX5_stop_98 ?_
        refine j_bipush (pc := 100) (v := nI 8) dX5_stop_100 (by decide) ?_
        refine cd_X5_41 (pc := 102) rfl (s_get hM ha (by first | decide | exact ix_lt hs (by decide) | omega)) hM.1 dX5_stop_102 rfl rfl ?_
        rw [hg8]
        refine j_l2iN (pc := 105) dX5_stop_105 ?_
        refine j_istore6 (pc := 106) dX5_stop_106 (by decide) trivial ?_
        refine j_aload0 (pc := 108) dX5_stop_108 ?_
        refine g_X5_23 (pc := 109) rfl hM.1 hM.2.2.2.2.1.1 dX5_stop_109 ?_
        refine j_iload4 (pc := 112) dX5_stop_112 ?_
        refine j_iload6 (pc := 114) dX5_stop_114 ?_
        refine j_iconst (pc := 116) (v := nI 0) dX5_stop_116 (by decide) ?_
        refine cd_X5_160 (pc := 117) rfl (s_stopAt) dX5_stop_117 rfl rfl ?_
        refine j_iload2 (pc := 120) dX5_stop_120 ?_
        refine j_i2lN (pc := 121) (by first | decide | omega) dX5_stop_121 ?_
        refine j_last (pc := 122) hM.2.2.2.2.1.2 (pk_in (sx a i 0) 120000 (sx_lt ha hi (by decide)) rfl) dX5_stop_122 ?_
        rw [nI_clamp (Nat.lt_trans (sx_lt ha hi (by decide)) (by decide)), mh_setL (by omega)]
        refine j_aload0 (pc := 123) dX5_stop_123 ?_
        refine g_X5_23 (pc := 124) rfl hM.1 hM.2.2.2.2.1.1 dX5_stop_124 ?_
        refine j_iload4 (pc := 127) dX5_stop_127 ?_
        refine j_iload6 (pc := 129) dX5_stop_129 ?_
        refine j_iconst (pc := 131) (v := nI 1) dX5_stop_131 (by decide) ?_
        refine cd_X5_160 (pc := 132) rfl (s_stopAt) dX5_stop_132 rfl rfl ?_
        refine j_aload0 (pc := 135) dX5_stop_135 ?_
        refine j_iload4 (pc := 136) dX5_stop_136 ?_
        refine j_iconst (pc := 138) (v := nI 5) dX5_stop_138 (by decide) ?_
        refine cd_X5_41 (pc := 139) rfl (s_get hM ha (by first | decide | exact ix_lt hs (by decide) | omega)) hM.1 dX5_stop_139 rfl rfl ?_
        refine j_last (pc := 142) hM.2.2.2.2.1.2 (pk_in (sx a i 1) 120000 (sx_lt ha hi (by decide)) rfl) dX5_stop_142 ?_
        rw [nI_clamp (Nat.lt_trans (sx_lt ha hi (by decide)) (by decide)), mh_setL (by omega)]
        refine j_aload0 (pc := 143) dX5_stop_143 ?_
        refine g_X5_23 (pc := 144) rfl hM.1 hM.2.2.2.2.1.1 dX5_stop_144 ?_
        refine j_iload4 (pc := 147) dX5_stop_147 ?_
        refine j_iload6 (pc := 149) dX5_stop_149 ?_
        refine j_iconst (pc := 151) (v := nI 2) dX5_stop_151 (by decide) ?_
        refine cd_X5_160 (pc := 152) rfl (s_stopAt) dX5_stop_152 rfl rfl ?_
        refine j_iload5 (pc := 155) dX5_stop_155 ?_
        refine j_if_eq (pc := 157) (tgt := 164) dX5_stop_157 (by decide) (fun c157 => ?_) (fun c157 => by exact absurd rfl c157)
        refine j_lconst (pc := 164) (v := 0) dX5_stop_164 (by decide) ?_
        refine j_aload0 (pc := 165) dX5_stop_165 ?_
        refine j_iload4 (pc := 166) dX5_stop_166 ?_
        refine j_iload2 (pc := 168) dX5_stop_168 ?_
        refine j_bipush (pc := 169) (v := nI 8) dX5_stop_169 (by decide) ?_
        refine cd_X5_37 (pc := 171) rfl (s_at) dX5_stop_171 rfl rfl ?_
        refine cd_X5_41 (pc := 174) rfl (s_get hM ha (by first | decide | exact ix_lt hs (by decide) | omega)) hM.1 dX5_stop_174 rfl rfl ?_
        refine j_aload0 (pc := 177) dX5_stop_177 ?_
        refine j_iload4 (pc := 178) dX5_stop_178 ?_
        refine j_iconst (pc := 180) (v := nI 2) dX5_stop_180 (by decide) ?_
        refine cd_X5_41 (pc := 181) rfl (s_get hM ha (by first | decide | exact ix_lt hs (by decide) | omega)) hM.1 dX5_stop_181 rfl rfl ?_
        refine j_lsub (pc := 184) dX5_stop_184 ?_
        refine cd_X5_164 (pc := 185) rfl (s_max _ _) dX5_stop_185 rfl rfl ?_
        refine j_last (pc := 188) hM.2.2.2.2.1.2 (pk_in (sx a i 2) 120000 (sx_lt ha hi (by decide)) rfl) dX5_stop_188 ?_
        rw [nI_clamp (Nat.lt_trans (sx_lt ha hi (by decide)) (by decide)), mh_setL (by omega)]
        refine j_aload0 (pc := 189) dX5_stop_189 ?_
        refine g_X5_23 (pc := 190) rfl hM.1 hM.2.2.2.2.1.1 dX5_stop_190 ?_
        refine j_iload4 (pc := 193) dX5_stop_193 ?_
        refine j_iload6 (pc := 195) dX5_stop_195 ?_
        refine j_iconst (pc := 197) (v := nI 3) dX5_stop_197 (by decide) ?_
        refine cd_X5_160 (pc := 198) rfl (s_stopAt) dX5_stop_198 rfl rfl ?_
        refine j_iload5 (pc := 201) dX5_stop_201 ?_
        refine j_if_eq (pc := 203) (tgt := 245) dX5_stop_203 (by decide) (fun c203 => ?_) (fun c203 => by exact absurd rfl c203)
        refine j_lconst (pc := 245) (v := 0) dX5_stop_245 (by decide) ?_
        refine j_last (pc := 246) hM.2.2.2.2.1.2 (pk_in (sx a i 3) 120000 (sx_lt ha hi (by decide)) rfl) dX5_stop_246 ?_
        rw [nI_clamp (Nat.lt_trans (sx_lt ha hi (by decide)) (by decide)), mh_setL (by omega)]
        refine j_aload0 (pc := 247) dX5_stop_247 ?_
        refine g_X5_23 (pc := 248) rfl hM.1 hM.2.2.2.2.1.1 dX5_stop_248 ?_
        refine j_iload4 (pc := 251) dX5_stop_251 ?_
        refine j_iload6 (pc := 253) dX5_stop_253 ?_
        refine j_iconst (pc := 255) (v := nI 4) dX5_stop_255 (by decide) ?_
        refine cd_X5_160 (pc := 256) rfl (s_stopAt) dX5_stop_256 rfl rfl ?_
        refine j_lconst (pc := 259) (v := 0) dX5_stop_259 (by decide) ?_
        refine j_last (pc := 260) hM.2.2.2.2.1.2 (pk_in (sx a i 4) 120000 (sx_lt ha hi (by decide)) rfl) dX5_stop_260 ?_
        rw [nI_clamp (Nat.lt_trans (sx_lt ha hi (by decide)) (by decide)), mh_setL (by omega)]
        refine j_aload0 (pc := 261) dX5_stop_261 ?_
        refine j_iload4 (pc := 262) dX5_stop_262 ?_
        refine j_bipush (pc := 264) (v := nI 8) dX5_stop_264 (by decide) ?_
        refine j_lconst (pc := 266) (v := 1) dX5_stop_266 (by decide) ?_
        refine cd_X5_76 (pc := 267) rfl (s_more hM ha (by first | decide | exact ix_lt hs (by decide) | omega)) hM.1 dX5_stop_267 rfl rfl ?_
        refine j_aload0 (pc := 270) dX5_stop_270 ?_
        refine j_iload4 (pc := 271) dX5_stop_271 ?_
        refine j_iload2 (pc := 273) dX5_stop_273 ?_
        refine j_iconst (pc := 274) (v := nI 4) dX5_stop_274 (by decide) ?_
        refine cd_X5_37 (pc := 275) rfl (s_at) dX5_stop_275 rfl rfl ?_
        refine j_lconst (pc := 278) (v := 1) dX5_stop_278 (by decide) ?_
        refine cd_X5_62 (pc := 279) rfl (s_set hM ha (by first | decide | exact ix_lt hs (by decide) | omega)) hM.1 dX5_stop_279 rfl rfl ?_
        refine j_aload0 (pc := 282) dX5_stop_282 ?_
        refine j_iload4 (pc := 283) dX5_stop_283 ?_
        refine j_iload2 (pc := 285) dX5_stop_285 ?_
        refine j_bipush (pc := 286) (v := nI 12) dX5_stop_286 (by decide) ?_
        refine cd_X5_37 (pc := 288) rfl (s_at) dX5_stop_288 rfl rfl ?_
        refine j_lconst (pc := 291) (v := 0) dX5_stop_291 (by decide) ?_
        refine cd_X5_62 (pc := 292) rfl (s_set hM ha (by first | decide | exact ix_lt hs (by decide) | omega)) hM.1 dX5_stop_292 rfl rfl ?_
        refine j_aload0 (pc := 295) dX5_stop_295 ?_
        refine j_iload4 (pc := 296) dX5_stop_296 ?_
        refine j_iload2 (pc := 298) dX5_stop_298 ?_
        refine j_iconst (pc := 299) (v := nI 5) dX5_stop_299 (by decide) ?_
        refine cd_X5_37 (pc := 300) rfl (s_at) dX5_stop_300 rfl rfl ?_
        refine j_lconst (pc := 303) (v := 0) dX5_stop_303 (by decide) ?_
        refine cd_X5_62 (pc := 304) rfl (s_set hM ha (by first | decide | exact ix_lt hs (by decide) | omega)) hM.1 dX5_stop_304 rfl rfl ?_
        refine j_aload0 (pc := 307) dX5_stop_307 ?_
        refine j_iload4 (pc := 308) dX5_stop_308 ?_
        refine j_iload2 (pc := 310) dX5_stop_310 ?_
        refine cd_X5_167 (pc := 311) rfl (s_backComes hM ha hs) hM.1 dX5_stop_311 rfl rfl ?_
        refine j_iconst (pc := 314) (v := 0) dX5_stop_314 (by decide) ?_
        refine j_iret (pc := 315) dX5_stop_315 rfl rfl ?_
        exact hQ _ _ ⟨_, rfl, rfl, rfl⟩
    refine j_aload0 (pc := 0) dX5_stop_0 ?_
    refine j_iload1 (pc := 1) dX5_stop_1 ?_
    refine j_iload2 (pc := 2) dX5_stop_2 ?_
    refine cd_X5_81 (pc := 3) rfl (s_against hM ha hr) hM.1 dX5_stop_3 rfl rfl ?_
    refine j_istore3 (pc := 6) dX5_stop_6 (by decide) trivial ?_
    refine j_iload3 (pc := 7) dX5_stop_7 ?_
    refine j_if_eq (pc := 8) (tgt := 13) dX5_stop_8 (by decide) (fun c8 => ?_) (fun c8 => ?_)
    · refine j_iload1 (pc := 13) dX5_stop_13 ?_
      refine j_istore4 (pc := 14) dX5_stop_14 (by decide) trivial ?_
      refine j_aload0 (pc := 16) dX5_stop_16 ?_
      refine j_iload4 (pc := 17) dX5_stop_17 ?_
      refine j_iload2 (pc := 19) dX5_stop_19 ?_
      have hag : ag f (some s) = 0 := by rw [← hso]; exact c8
      refine cd_X5_85 (pc := 20) rfl (s_comesBack hM ha hs) hM.1 dX5_stop_20 rfl rfl ?_
      refine j_aload0 (pc := 23) dX5_stop_23 ?_
      refine j_iload4 (pc := 24) dX5_stop_24 ?_
      refine j_iload2 (pc := 26) dX5_stop_26 ?_
      refine j_bipush (pc := 27) (v := nI 15) dX5_stop_27 (by decide) ?_
      refine cd_X5_37 (pc := 29) rfl (s_at) dX5_stop_29 rfl rfl ?_
      refine j_lconst (pc := 32) (v := 0) dX5_stop_32 (by decide) ?_
      refine cd_X5_62 (pc := 33) rfl (s_set hM ha (by first | decide | exact ix_lt hs (by decide) | omega)) hM.1 dX5_stop_33 rfl rfl ?_
      refine j_aload0 (pc := 36) dX5_stop_36 ?_
      refine j_iload4 (pc := 37) dX5_stop_37 ?_
      refine j_iload2 (pc := 39) dX5_stop_39 ?_
      refine j_bipush (pc := 40) (v := nI 16) dX5_stop_40 (by decide) ?_
      refine cd_X5_37 (pc := 42) rfl (s_at) dX5_stop_42 rfl rfl ?_
      refine j_lconst (pc := 45) (v := 0) dX5_stop_45 (by decide) ?_
      refine cd_X5_62 (pc := 46) rfl (s_set hM ha (by first | decide | exact ix_lt hs (by decide) | omega)) hM.1 dX5_stop_46 rfl rfl ?_
      refine j_aload0 (pc := 49) dX5_stop_49 ?_
      refine j_iload4 (pc := 50) dX5_stop_50 ?_
      refine j_bipush (pc := 52) (v := nI 9) dX5_stop_52 (by decide) ?_
      refine cd_X5_41 (pc := 54) rfl (s_get hM ha (by first | decide | exact ix_lt hs (by decide) | omega)) hM.1 dX5_stop_54 rfl rfl ?_
      refine j_iload2 (pc := 57) dX5_stop_57 ?_
      refine j_i2lN (pc := 58) (by first | decide | omega) dX5_stop_58 ?_
      refine j_lcmp_ne (pc := 59) (tgt := 74) dX5_stop_59 dX5_stop_60 (by decide) (fun c59 => ?_) (fun c59 => ?_)
      · first | exact L74 hag _ _ trivial (if_pos c59) | exact L74 hag _ _ trivial (if_neg c59)
      · refine j_aload0 (pc := 63) dX5_stop_63 ?_
        refine j_iload4 (pc := 64) dX5_stop_64 ?_
        refine j_bipush (pc := 66) (v := nI 9) dX5_stop_66 (by decide) ?_
        refine j_ldc2 (pc := 68) dX5_stop_68 wT_kl_X5_66 ?_
        refine cd_X5_62 (pc := 71) rfl (s_set hM ha (by first | decide | exact ix_lt hs (by decide) | omega)) hM.1 dX5_stop_71 rfl rfl ?_
        first | exact L74 hag _ _ trivial (if_pos c59) | exact L74 hag _ _ trivial (if_neg c59)
    · refine j_iload3 (pc := 11) dX5_stop_11 ?_
      refine j_iret (pc := 12) dX5_stop_12 rfl rfl ?_
      exact hQ _ _ ⟨_, rfl, by simp [fStop, hso] at c8 ⊢; rw [if_neg c8], by simp [fStop, hso] at c8 ⊢; rw [if_neg c8]⟩
theorem sb_stops {r k w : Int32} (hM : MSh h.1 M) (hr : isRi h M r = false) : DL cx mX5_stops 1 h [.ref M, .int r, .int k, .int w] (-1) h := by
  refine Sp.of 0 (by decide) (Nat.le_of_ble_eq_true rfl) rfl ?_
  refine j_aload0 (pc := 0) dX5_stops_0 ?_
  refine j_iload1 (pc := 1) dX5_stops_1 ?_
  refine cd_X5_68 (pc := 2) rfl (s_isRing _ hM) hM.1 dX5_stops_2 rfl rfl ?_
  refine j_bif_eq (pc := 5) (tgt := 34) dX5_stops_5 (by decide) (fun c5 => ?_) (fun c5 => by exact nb c5 hr)
  refine j_ldc2 (pc := 34) dX5_stops_34 wT_kl_X5_66 ?_
  refine j_goto (pc := 37) (tgt := 51) dX5_stops_37 (by decide) ?_
  refine j_lret (pc := 51) dX5_stops_51 rfl ?_
  exact ⟨_, rfl, rfl, rfl⟩
def fStops (h : Hp) (M a : Nat) (f : Fl) (k w : Int32) : Int64 := if k < 0 then -1 else if f 8 ≤ k.toInt64 then -1 else if w < 0 then -1 else if 4 < w then -1 else h.l (M + 4) (sx a k.toNatClampNeg w.toNatClampNeg)
theorem s_stops {k w : Int32} {i : Nat} (hM : MSh h.1 M) (ha : a < 40) (hr : isRi h M (nI a) = true) (h8 : f 8 = lN i) (hi : i ≤ 600) : DL cx mX5_stops 1 (mh h M a f) [.ref M, .int (nI a), .int k, .int w] (fStops h M a f k w) (mh h M a f) := by
  refine Sp.of 0 (by decide) (Nat.le_of_ble_eq_true rfl) rfl ?_
  refine j_aload0 (pc := 0) dX5_stops_0 ?_
  refine j_iload1 (pc := 1) dX5_stops_1 ?_
  refine cd_X5_68 (pc := 2) rfl (s_isRing _ hM) hM.1 dX5_stops_2 rfl rfl ?_
  refine j_bif_eq (pc := 5) (tgt := 34) dX5_stops_5 (by decide) (fun c5 => by exact nb hr c5) (fun c5 => ?_)
  refine j_iload2 (pc := 8) dX5_stops_8 ?_
  refine j_if_lt (pc := 9) (tgt := 34) dX5_stops_9 (by decide) (fun c9 => ?_) (fun c9 => ?_)
  · refine j_ldc2 dX5_stops_34 wT_kl_X5_66 ?_
    refine j_goto (tgt := 51) dX5_stops_37 (by decide) ?_
    refine j_lret dX5_stops_51 rfl ?_
    exact ⟨_, rfl, by simp_all [fStops, ← Int32.not_le], rfl⟩
  · refine j_iload2 (pc := 12) dX5_stops_12 ?_
    refine j_i2l (pc := 13) dX5_stops_13 ?_
    refine j_aload0 (pc := 14) dX5_stops_14 ?_
    refine j_iload1 (pc := 15) dX5_stops_15 ?_
    refine j_bipush (pc := 16) (v := nI 8) dX5_stops_16 (by decide) ?_
    refine cd_X5_41 (pc := 18) rfl (s_get hM ha (by first | decide | exact ix_lt hs (by decide) | omega)) hM.1 dX5_stops_18 rfl rfl ?_
    refine j_lcmp_ge (pc := 21) (tgt := 34) dX5_stops_21 dX5_stops_22 (by decide) (fun c21 => ?_) (fun c21 => ?_)
    · refine j_ldc2 dX5_stops_34 wT_kl_X5_66 ?_
      refine j_goto (tgt := 51) dX5_stops_37 (by decide) ?_
      refine j_lret dX5_stops_51 rfl ?_
      exact ⟨_, rfl, by simp_all [fStops, ← Int32.not_le], rfl⟩
    · refine j_iload3 (pc := 25) dX5_stops_25 ?_
      refine j_if_lt (pc := 26) (tgt := 34) dX5_stops_26 (by decide) (fun c26 => ?_) (fun c26 => ?_)
      · refine j_ldc2 dX5_stops_34 wT_kl_X5_66 ?_
        refine j_goto (tgt := 51) dX5_stops_37 (by decide) ?_
        refine j_lret dX5_stops_51 rfl ?_
        exact ⟨_, rfl, by simp_all [fStops, ← Int32.not_le], rfl⟩
      · refine j_iload3 (pc := 29) dX5_stops_29 ?_
        refine j_iconst (pc := 30) (v := 4) dX5_stops_30 (by decide) ?_
        refine j_icmp_le (pc := 31) (tgt := 40) dX5_stops_31 (by decide) (fun c31 => ?_) (fun c31 => ?_)
        · have c21' := c21
          rw [h8] at c21'
          obtain ⟨kk, hkk, rfl⟩ := i_nat (by omega) c9 c21'
          obtain ⟨ww, hww, rfl⟩ := i_natc (n := 4) rfl (by decide) c26 c31
          refine j_aload0 (pc := 40) dX5_stops_40 ?_
          refine g_X5_23 (pc := 41) rfl hM.1 hM.2.2.2.2.1.1 dX5_stops_41 ?_
          refine j_iload1 (pc := 44) dX5_stops_44 ?_
          refine j_iload2 (pc := 45) dX5_stops_45 ?_
          refine j_iload3 (pc := 46) dX5_stops_46 ?_
          refine cd_X5_160 (pc := 47) rfl (s_stopAt) dX5_stops_47 rfl rfl ?_
          refine j_lald (pc := 50) hM.2.2.2.2.1.2 (pk_in (sx a kk ww) 120000 (sx_lt ha (by omega) (by omega)) rfl) dX5_stops_50 ?_
          rw [nI_clamp (Nat.lt_trans (sx_lt ha (show kk < 600 by omega) (show ww < 5 by omega)) (by decide)), show (mh h M a f).l (M + 4) (sx a kk ww) = h.l (M + 4) (sx a kk ww) from if_neg (by omega)]
          refine j_lret (pc := 51) dX5_stops_51 rfl ?_
          exact ⟨_, rfl, by unfold fStops; rw [if_neg c9, if_neg c21, if_neg c26, if_neg (Int32.not_lt.mpr c31), nI_clamp (show kk < 2 ^ 31 by omega), nI_clamp (show ww < 2 ^ 31 by omega)], rfl⟩
        · refine j_ldc2 dX5_stops_34 wT_kl_X5_66 ?_
          refine j_goto (tgt := 51) dX5_stops_37 (by decide) ?_
          refine j_lret dX5_stops_51 rfl ?_
          exact ⟨_, rfl, by simp_all [fStops, ← Int32.not_le], rfl⟩
end

