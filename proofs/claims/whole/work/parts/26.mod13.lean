/-! the reference: close -/
theorem clS_n {each left : Int64} {s : Nat} {k : Fl} (h : isFu k s = false) : clS each s (k, left) = (k, left) := if_neg (by rw [h]; decide)
theorem clS_y0 {each left : Int64} {s : Nat} {k : Fl} (h : isFu k s = true) (h0 : left ≤ 0) : clS each s (k, left) = (upF k (ix s 11) (k (ix s 11) + (each + 0)), left - 0) := by
  refine (if_pos h).trans ?_
  dsimp only
  rw [if_neg (Int64.not_lt.mpr h0)]
theorem clS_y1 {each left : Int64} {s : Nat} {k : Fl} (h : isFu k s = true) (h0 : ¬ left ≤ 0) : clS each s (k, left) = (upF k (ix s 11) (k (ix s 11) + (each + 1)), left - 1) := by
  refine (if_pos h).trans ?_
  dsimp only
  rw [if_pos (Int64.not_le.mp h0)]
theorem one_l : (1 : Int32).toInt64 = 1 := by decide
theorem zero_l : (0 : Int32).toInt64 = 0 := by decide
section
variable {cx : Cx} {h : Hp} {M a : Nat} {f : Fl}
theorem sb_close {r : Int32} (hM : MSh h.1 M) (hr : isRi h M r = false) : DI cx mX5_close 4 h [.ref M, .int r] 1 h := by
  refine Sp.of 8 (by decide) (Nat.le_of_ble_eq_true rfl) rfl ?_
  refine j_aload0 (pc := 0) dX5_close_0 ?_
  refine j_iload1 (pc := 1) dX5_close_1 ?_
  refine cd_X5_68 (pc := 2) rfl (s_isRing _ hM) hM.1 dX5_close_2 rfl rfl ?_
  refine j_bif_ne (pc := 5) (tgt := 10) dX5_close_5 (by decide) (fun c5 => by exact nb c5 hr) (fun c5 => ?_)
  refine j_iconst (pc := 8) (v := 1) dX5_close_8 (by decide) ?_
  refine j_iret (pc := 9) dX5_close_9 rfl rfl ?_
  exact ⟨_, rfl, rfl, rfl⟩
theorem close_287 {n : Int64} {k : Fl} {Q : Option Value → Hp → Prop} (hM : MSh h.1 M) (ha : a < 40) (hK : ∀ v h', v = some (.int 0) → h' = mh h M a (upF (if 0 < n then upF k 3 0 else k) 4 2) → Q v h') : J cx mX5_close (Rm 4 0 0) (mh h M a k) 287 [some (.ref M), some (.int (nI a)), some (.int (nI a)), some (.long n), none, none, none, none, none, none] [] 0 0 Q := by
  by_cases hn : 0 < n
  · rw [if_pos hn] at hK
    refine j_lload3 (pc := 287) dX5_close_287 ?_
    refine j_lconst (pc := 288) (v := 0) dX5_close_288 (by decide) ?_
    refine j_lcmp_le (pc := 289) (tgt := 300) dX5_close_289 dX5_close_290 (by decide) (fun c289 => by exact absurd hn (Int64.not_lt.mpr c289)) (fun c289 => ?_)
    refine j_aload0 (pc := 293) dX5_close_293 ?_
    refine j_iload2 (pc := 294) dX5_close_294 ?_
    refine j_iconst (pc := 295) (v := nI 3) dX5_close_295 (by decide) ?_
    refine j_lconst (pc := 296) (v := 0) dX5_close_296 (by decide) ?_
    refine cd_X5_62 (pc := 297) rfl (s_set hM ha (by first | decide | exact ix_lt hs (by decide) | omega)) hM.1 dX5_close_297 rfl rfl ?_
    refine j_aload0 (pc := 300) dX5_close_300 ?_
    refine j_iload2 (pc := 301) dX5_close_301 ?_
    refine j_iconst (pc := 302) (v := nI 4) dX5_close_302 (by decide) ?_
    refine j_ldc2 (pc := 303) dX5_close_303 wT_kl_X5_45 ?_
    refine cd_X5_62 (pc := 306) rfl (s_set hM ha (by first | decide | exact ix_lt hs (by decide) | omega)) hM.1 dX5_close_306 rfl rfl ?_
    refine j_iconst (pc := 309) (v := 0) dX5_close_309 (by decide) ?_
    refine j_iret (pc := 310) dX5_close_310 rfl rfl ?_
    exact hK _ _ rfl rfl
  · rw [if_neg hn] at hK
    refine j_lload3 (pc := 287) dX5_close_287 ?_
    refine j_lconst (pc := 288) (v := 0) dX5_close_288 (by decide) ?_
    refine j_lcmp_le (pc := 289) (tgt := 300) dX5_close_289 dX5_close_290 (by decide) (fun c289 => ?_) (fun c289 => by exact absurd (Int64.not_le.mp c289) hn)
    refine j_aload0 (pc := 300) dX5_close_300 ?_
    refine j_iload2 (pc := 301) dX5_close_301 ?_
    refine j_iconst (pc := 302) (v := nI 4) dX5_close_302 (by decide) ?_
    refine j_ldc2 (pc := 303) dX5_close_303 wT_kl_X5_45 ?_
    refine cd_X5_62 (pc := 306) rfl (s_set hM ha (by first | decide | exact ix_lt hs (by decide) | omega)) hM.1 dX5_close_306 rfl rfl ?_
    refine j_iconst (pc := 309) (v := 0) dX5_close_309 (by decide) ?_
    refine j_iret (pc := 310) dX5_close_310 rfl rfl ?_
    exact hK _ _ rfl rfl
theorem close_216 {n left each : Int64} {k : Fl} {Q : Option Value → Hp → Prop} (hM : MSh h.1 M) (ha : a < 40) (hK : ∀ v h', v = some (.int 0) → h' = mh h M a (upF (if 0 < n then upF (itr (clS each) 60 (k, left)).1 3 0 else (itr (clS each) 60 (k, left)).1) 4 2) → Q v h') : J cx mX5_close (Rm 4 0 0) (mh h M a k) 216 [some (.ref M), some (.int (nI a)), some (.int (nI a)), some (.long n), none, some (.long left), none, some (.long each), none, some (.int (nI 0))] [] 0 0 Q := by
  refine dn (P := fun i => J cx mX5_close (Rm 4 0 0) (mh h M a (itr (clS each) i (k, left)).1) 216 [some (.ref M), some (.int (nI a)), some (.int (nI a)), some (.long n), none, some (.long (itr (clS each) i (k, left)).2), none, some (.long each), none, some (.int (nI i))] [] 0 0 Q) 60 ?_ ?_
  · generalize itr (clS each) 60 (k, left) = x at hK
    refine j_iload9 (pc := 216) dX5_close_216 ?_
    refine j_bipush (pc := 218) (v := nI 60) dX5_close_218 (by decide) ?_
    refine j_icmpN_ge (pc := 220) (tgt := 287) (by first | decide | omega) (by first | decide | omega) dX5_close_220 (by decide) (fun c220 => ?_) (fun c220 => by omega)
    exact J.wk (close_287 hM ha hK) (by simp [lcw])
  · intro s hs ih
    have ih : J cx mX5_close (Rm 4 0 0) (mh h M a (clS each s (itr (clS each) s (k, left))).1) 216 [some (.ref M), some (.int (nI a)), some (.int (nI a)), some (.long n), none, some (.long (clS each s (itr (clS each) s (k, left))).2), none, some (.long each), none, some (.int (nI (s + 1)))] [] 0 0 Q := ih
    generalize itr (clS each) s (k, left) = x at ih
    obtain ⟨k, left⟩ := x
    refine j_iload9 (pc := 216) dX5_close_216 ?_
    refine j_bipush (pc := 218) (v := nI 60) dX5_close_218 (by decide) ?_
    refine j_icmpN_ge (pc := 220) (tgt := 287) (by first | decide | omega) (by first | decide | omega) dX5_close_220 (by decide) (fun c220 => by omega) (fun c220 => ?_)
    refine j_aload0 (pc := 223) dX5_close_223 ?_
    refine j_iload2 (pc := 224) dX5_close_224 ?_
    refine j_iload9 (pc := 225) dX5_close_225 ?_
    refine cd_X5_170 (pc := 227) rfl (s_isFull hM ha hs) hM.1 dX5_close_227 rfl rfl ?_
    refine j_bif_ne (pc := 230) (tgt := 236) dX5_close_230 (by decide) (fun c230 => ?_) (fun c230 => ?_)
    · refine j_aload0 (pc := 236) dX5_close_236 ?_
      refine j_iload2 (pc := 237) dX5_close_237 ?_
      refine j_iload9 (pc := 238) dX5_close_238 ?_
      refine j_bipush (pc := 240) (v := nI 11) dX5_close_240 (by decide) ?_
      refine cd_X5_37 (pc := 242) rfl (s_at) dX5_close_242 rfl rfl ?_
      refine j_lload7 (pc := 245) dX5_close_245 ?_
      refine j_lload5 (pc := 247) dX5_close_247 ?_
      refine j_lconst (pc := 249) (v := 0) dX5_close_249 (by decide) ?_
      refine j_lcmp_le (pc := 250) (tgt := 258) dX5_close_250 dX5_close_251 (by decide) (fun c250 => ?_) (fun c250 => ?_)
      · refine j_iconst (pc := 258) (v := 0) dX5_close_258 (by decide) ?_
        refine j_i2l (pc := 259) dX5_close_259 ?_
        first | rw [one_l] | rw [zero_l]
        refine j_ladd (pc := 260) dX5_close_260 ?_
        refine cd_X5_76 (pc := 261) rfl (s_more hM ha (by first | decide | exact ix_lt hs (by decide) | omega)) hM.1 dX5_close_261 rfl rfl ?_
        refine j_lload5 (pc := 264) dX5_close_264 ?_
        refine j_lload5 (pc := 266) dX5_close_266 ?_
        refine j_lconst (pc := 268) (v := 0) dX5_close_268 (by decide) ?_
        refine j_lcmp_le (pc := 269) (tgt := 277) dX5_close_269 dX5_close_270 (by decide) (fun c269 => ?_) (fun c269 => ?_)
        · refine j_lconst (pc := 277) (v := 0) dX5_close_277 (by decide) ?_
          refine j_lsub (pc := 278) dX5_close_278 ?_
          refine j_lstore5 (pc := 279) dX5_close_279 (by decide) trivial ?_
          refine j_iincN9 (pc := 281) dX5_close_281 (by decide) trivial ?_
          refine j_goto (pc := 284) (tgt := 216) dX5_close_284 (by decide) ?_
          first | (rw [clS_n c230] at ih; exact ih) | (rw [clS_y0 c230 c250] at ih; first | exact ih | exact absurd c250 c269) | (rw [clS_y1 c230 c250] at ih; first | exact ih | exact absurd c269 c250)
        · refine j_lconst (pc := 273) (v := 1) dX5_close_273 (by decide) ?_
          refine j_goto (pc := 274) (tgt := 278) dX5_close_274 (by decide) ?_
          refine j_lsub (pc := 278) dX5_close_278 ?_
          refine j_lstore5 (pc := 279) dX5_close_279 (by decide) trivial ?_
          refine j_iincN9 (pc := 281) dX5_close_281 (by decide) trivial ?_
          refine j_goto (pc := 284) (tgt := 216) dX5_close_284 (by decide) ?_
          first | (rw [clS_n c230] at ih; exact ih) | (rw [clS_y0 c230 c250] at ih; first | exact ih | exact absurd c250 c269) | (rw [clS_y1 c230 c250] at ih; first | exact ih | exact absurd c269 c250)
      · refine j_iconst (pc := 254) (v := 1) dX5_close_254 (by decide) ?_
        refine j_goto (pc := 255) (tgt := 259) dX5_close_255 (by decide) ?_
        refine j_i2l (pc := 259) dX5_close_259 ?_
        first | rw [one_l] | rw [zero_l]
        refine j_ladd (pc := 260) dX5_close_260 ?_
        refine cd_X5_76 (pc := 261) rfl (s_more hM ha (by first | decide | exact ix_lt hs (by decide) | omega)) hM.1 dX5_close_261 rfl rfl ?_
        refine j_lload5 (pc := 264) dX5_close_264 ?_
        refine j_lload5 (pc := 266) dX5_close_266 ?_
        refine j_lconst (pc := 268) (v := 0) dX5_close_268 (by decide) ?_
        refine j_lcmp_le (pc := 269) (tgt := 277) dX5_close_269 dX5_close_270 (by decide) (fun c269 => ?_) (fun c269 => ?_)
        · refine j_lconst (pc := 277) (v := 0) dX5_close_277 (by decide) ?_
          refine j_lsub (pc := 278) dX5_close_278 ?_
          refine j_lstore5 (pc := 279) dX5_close_279 (by decide) trivial ?_
          refine j_iincN9 (pc := 281) dX5_close_281 (by decide) trivial ?_
          refine j_goto (pc := 284) (tgt := 216) dX5_close_284 (by decide) ?_
          first | (rw [clS_n c230] at ih; exact ih) | (rw [clS_y0 c230 c250] at ih; first | exact ih | exact absurd c250 c269) | (rw [clS_y1 c230 c250] at ih; first | exact ih | exact absurd c269 c250)
        · refine j_lconst (pc := 273) (v := 1) dX5_close_273 (by decide) ?_
          refine j_goto (pc := 274) (tgt := 278) dX5_close_274 (by decide) ?_
          refine j_lsub (pc := 278) dX5_close_278 ?_
          refine j_lstore5 (pc := 279) dX5_close_279 (by decide) trivial ?_
          refine j_iincN9 (pc := 281) dX5_close_281 (by decide) trivial ?_
          refine j_goto (pc := 284) (tgt := 216) dX5_close_284 (by decide) ?_
          first | (rw [clS_n c230] at ih; exact ih) | (rw [clS_y0 c230 c250] at ih; first | exact ih | exact absurd c250 c269) | (rw [clS_y1 c230 c250] at ih; first | exact ih | exact absurd c269 c250)
    · refine j_goto (pc := 233) (tgt := 281) dX5_close_233 (by decide) ?_
      refine j_iincN9 (pc := 281) dX5_close_281 (by decide) trivial ?_
      refine j_goto (pc := 284) (tgt := 216) dX5_close_284 (by decide) ?_
      first | (rw [clS_n c230] at ih; exact ih) | (rw [clS_y0 c230 c250] at ih; first | exact ih | exact absurd c250 c269) | (rw [clS_y1 c230 c250] at ih; first | exact ih | exact absurd c269 c250)
theorem close_142 {k : Fl} {Q : Option Value → Hp → Prop} (hM : MSh h.1 M) (ha : a < 40) (hK : ∀ v h', v = some (.int 0) → h' = mh h M a (clEnd k) → Q v h') : J cx mX5_close (Rm 4 0 0) (mh h M a k) 142 [some (.ref M), some (.int (nI a)), some (.int (nI a)), some (.long (lN 0)), none, some (.int (nI 0)), none, none, none, none] [] 0 0 Q := by
  have hc60 := cnt_le (isFu k) 60
  have hl0 : lN (cnt (isFu k) 60) = 0 ↔ cnt (isFu k) 60 = 0 := lN_eq (show cnt (isFu k) 60 < 2 ^ 31 by omega) (show 0 < 2 ^ 31 by decide)
  refine dn (P := fun n => J cx mX5_close (Rm 4 0 0) (mh h M a k) 142 [some (.ref M), some (.int (nI a)), some (.int (nI a)), some (.long (lN (cnt (isFu k) n))), none, some (.int (nI n)), none, none, none, none] [] 0 0 Q) 60 ?_ ?_
  · unfold clEnd at hK
    dsimp only at hK
    by_cases hn : lN (cnt (isFu k) 60) = 0
    · rw [if_pos hn, if_pos hn] at hK
      refine j_iload5 (pc := 142) dX5_close_142 ?_
      refine j_bipush (pc := 144) (v := nI 60) dX5_close_144 (by decide) ?_
      refine j_icmpN_ge (pc := 146) (tgt := 173) (by first | decide | omega) (by first | decide | omega) dX5_close_146 (by decide) (fun c146 => ?_) (fun c146 => by omega)
      refine j_lload3 (pc := 173) dX5_close_173 ?_
      refine j_lconst (pc := 174) (v := 0) dX5_close_174 (by decide) ?_
      refine j_lcmp_ne (pc := 175) (tgt := 183) dX5_close_175 dX5_close_176 (by decide) (fun c175 => by exact absurd hn c175) (fun c175 => ?_)
      refine j_lconst (pc := 179) (v := 0) dX5_close_179 (by decide) ?_
      refine j_goto (pc := 180) (tgt := 191) dX5_close_180 (by decide) ?_
      refine j_lstore5 (pc := 191) dX5_close_191 (by decide) trivial ?_
      refine j_lload3 (pc := 193) dX5_close_193 ?_
      refine j_lconst (pc := 194) (v := 0) dX5_close_194 (by decide) ?_
      refine j_lcmp_ne (pc := 195) (tgt := 203) dX5_close_195 dX5_close_196 (by decide) (fun c195 => by exact absurd hn c195) (fun c195 => ?_)
      refine j_lconst (pc := 199) (v := 0) dX5_close_199 (by decide) ?_
      refine j_goto (pc := 200) (tgt := 211) dX5_close_200 (by decide) ?_
      refine j_lstore7 (pc := 211) dX5_close_211 (by decide) trivial ?_
      refine j_iconst (pc := 213) (v := nI 0) dX5_close_213 (by decide) ?_
      refine j_istore9 (pc := 214) dX5_close_214 (by decide) trivial ?_
      exact close_216 hM ha hK
    · rw [if_neg hn, if_neg hn] at hK
      refine j_iload5 (pc := 142) dX5_close_142 ?_
      refine j_bipush (pc := 144) (v := nI 60) dX5_close_144 (by decide) ?_
      refine j_icmpN_ge (pc := 146) (tgt := 173) (by first | decide | omega) (by first | decide | omega) dX5_close_146 (by decide) (fun c146 => ?_) (fun c146 => by omega)
      refine j_lload3 (pc := 173) dX5_close_173 ?_
      refine j_lconst (pc := 174) (v := 0) dX5_close_174 (by decide) ?_
      refine j_lcmp_ne (pc := 175) (tgt := 183) dX5_close_175 dX5_close_176 (by decide) (fun c175 => ?_) (fun c175 => by exact absurd c175 hn)
      refine j_aload0 (pc := 183) dX5_close_183 ?_
      refine j_iload2 (pc := 184) dX5_close_184 ?_
      refine j_iconst (pc := 185) (v := nI 3) dX5_close_185 (by decide) ?_
      refine cd_X5_41 (pc := 186) rfl (s_get hM ha (by first | decide | exact ix_lt hs (by decide) | omega)) hM.1 dX5_close_186 rfl rfl ?_
      refine j_lload3 (pc := 189) dX5_close_189 ?_
      refine j_lrem (pc := 190) dX5_close_190 (hn) ?_
      refine j_lstore5 (pc := 191) dX5_close_191 (by decide) trivial ?_
      refine j_lload3 (pc := 193) dX5_close_193 ?_
      refine j_lconst (pc := 194) (v := 0) dX5_close_194 (by decide) ?_
      refine j_lcmp_ne (pc := 195) (tgt := 203) dX5_close_195 dX5_close_196 (by decide) (fun c195 => ?_) (fun c195 => by exact absurd c195 hn)
      refine j_aload0 (pc := 203) dX5_close_203 ?_
      refine j_iload2 (pc := 204) dX5_close_204 ?_
      refine j_iconst (pc := 205) (v := nI 3) dX5_close_205 (by decide) ?_
      refine cd_X5_41 (pc := 206) rfl (s_get hM ha (by first | decide | exact ix_lt hs (by decide) | omega)) hM.1 dX5_close_206 rfl rfl ?_
      refine j_lload3 (pc := 209) dX5_close_209 ?_
      refine j_ldiv (pc := 210) dX5_close_210 (hn) ?_
      refine j_lstore7 (pc := 211) dX5_close_211 (by decide) trivial ?_
      refine j_iconst (pc := 213) (v := nI 0) dX5_close_213 (by decide) ?_
      refine j_istore9 (pc := 214) dX5_close_214 (by decide) trivial ?_
      exact close_216 hM ha hK
  · intro s hs ih
    have e : cnt (isFu k) (s + 1) = cnt (isFu k) s + (if isFu k s then 1 else 0) := rfl
    rw [e, ← lN_add] at ih
    refine j_iload5 (pc := 142) dX5_close_142 ?_
    refine j_bipush (pc := 144) (v := nI 60) dX5_close_144 (by decide) ?_
    refine j_icmpN_ge (pc := 146) (tgt := 173) (by first | decide | omega) (by first | decide | omega) dX5_close_146 (by decide) (fun c146 => by omega) (fun c146 => ?_)
    refine j_lload3 (pc := 149) dX5_close_149 ?_
    refine j_aload0 (pc := 150) dX5_close_150 ?_
    refine j_iload2 (pc := 151) dX5_close_151 ?_
    refine j_iload5 (pc := 152) dX5_close_152 ?_
    refine cd_X5_170 (pc := 154) rfl (s_isFull hM ha hs) hM.1 dX5_close_154 rfl rfl ?_
    refine j_bif_eq (pc := 157) (tgt := 164) dX5_close_157 (by decide) (fun c157 => ?_) (fun c157 => ?_)
    · refine j_lconst (pc := 164) (v := 0) dX5_close_164 (by decide) ?_
      refine j_ladd (pc := 165) dX5_close_165 ?_
      refine j_lstore3 (pc := 166) dX5_close_166 (by decide) trivial ?_
      refine j_iincN5 (pc := 167) dX5_close_167 (by decide) trivial ?_
      refine j_goto (pc := 170) (tgt := 142) dX5_close_170 (by decide) ?_
      simpa [c157, lN_0, lN_o] using ih
    · refine j_lconst (pc := 160) (v := 1) dX5_close_160 (by decide) ?_
      refine j_goto (pc := 161) (tgt := 165) dX5_close_161 (by decide) ?_
      refine j_ladd (pc := 165) dX5_close_165 ?_
      refine j_lstore3 (pc := 166) dX5_close_166 (by decide) trivial ?_
      refine j_iincN5 (pc := 167) dX5_close_167 (by decide) trivial ?_
      refine j_goto (pc := 170) (tgt := 142) dX5_close_170 (by decide) ?_
      simpa [c157, lN_0, lN_o] using ih
theorem csS_8 (i : Nat) (y : Hp × Fl) : (csS M a i y).2 8 = y.2 8 := by
  unfold csS
  dsimp only
  exact upF_n _ _ (by decide)
theorem csS_sh (i : Nat) (y : Hp × Fl) : (csS M a i y).1.1 = y.1.1 := rfl
theorem close_67 {st : Nat} {k : Fl} {Q : Option Value → Hp → Prop} (hM : MSh h.1 M) (ha : a < 40) (h8 : k 8 = lN st) (hst : st ≤ 600) (hK : ∀ v h', v = some (.int 0) → h' = mh (itr (csS M a) st (h, k)).1 M a (clEnd (itr (csS M a) st (h, k)).2) → Q v h') : J cx mX5_close (Rm 4 0 0) (mh h M a k) 67 [some (.ref M), some (.int (nI a)), some (.int (nI a)), some (.int (nI 0)), none, none, none, none, none, none] [] 0 0 Q := by
  refine dn (P := fun n => J cx mX5_close (Rm 4 0 0) (mh (itr (csS M a) n (h, k)).1 M a (itr (csS M a) n (h, k)).2) 67 [some (.ref M), some (.int (nI a)), some (.int (nI a)), some (.int (nI n)), none, none, none, none, none, none] [] 0 0 Q) st ?_ ?_
  · have hM2 : MSh (itr (csS M a) st (h, k)).1.1 M := by rw [itr_keep (step := csS M a) (fun y : Hp × Fl => y.1.1) (fun i y => csS_sh i y) (h, k) st]; exact hM
    have h82 : (itr (csS M a) st (h, k)).2 8 = lN st := (itr_keep (step := csS M a) (fun y : Hp × Fl => y.2 8) (fun i y => csS_8 i y) (h, k) st).trans h8
    generalize itr (csS M a) st (h, k) = y at hM2 h82 hK
    have hM := hM2
    refine j_iload3 (pc := 67) dX5_close_67 ?_
    refine j_i2lN (pc := 68) (by first | decide | omega) dX5_close_68 ?_
    refine j_aload0 (pc := 69) dX5_close_69 ?_
    refine j_iload2 (pc := 70) dX5_close_70 ?_
    refine j_bipush (pc := 71) (v := nI 8) dX5_close_71 (by decide) ?_
    refine cd_X5_41 (pc := 73) rfl (s_get hM ha (by decide)) hM.1 dX5_close_73 rfl rfl ?_
    rw [h82]
    refine j_lcmpN_ge (pc := 76) (tgt := 137) (by first | decide | omega) (by first | decide | omega) dX5_close_76 dX5_close_77 (by decide) (fun c76 => ?_) (fun c76 => by omega)
    refine j_lconst (pc := 137) (v := 0) dX5_close_137 (by decide) ?_
    refine j_lstore3 (pc := 138) dX5_close_138 (by decide) trivial ?_
    refine j_iconst (pc := 139) (v := nI 0) dX5_close_139 (by decide) ?_
    refine j_istore5 (pc := 140) dX5_close_140 (by decide) trivial ?_
    exact close_142 hM ha hK
  · intro i hi ih
    have hM2 : MSh (itr (csS M a) i (h, k)).1.1 M := by rw [itr_keep (step := csS M a) (fun y : Hp × Fl => y.1.1) (fun i y => csS_sh i y) (h, k) i]; exact hM
    have h82 : (itr (csS M a) i (h, k)).2 8 = lN st := (itr_keep (step := csS M a) (fun y : Hp × Fl => y.2 8) (fun i y => csS_8 i y) (h, k) i).trans h8
    have ih : J cx mX5_close (Rm 4 0 0) (mh (csS M a i (itr (csS M a) i (h, k))).1 M a (csS M a i (itr (csS M a) i (h, k))).2) 67 [some (.ref M), some (.int (nI a)), some (.int (nI a)), some (.int (nI (i + 1))), none, none, none, none, none, none] [] 0 0 Q := ih
    generalize itr (csS M a) i (h, k) = y at hM2 h82 ih
    obtain ⟨h2, k2⟩ := y
    have hM := hM2
    have hi6 : i < 600 := by omega
    unfold csS at ih
    dsimp only at ih
    refine j_iload3 (pc := 67) dX5_close_67 ?_
    refine j_i2lN (pc := 68) (by first | decide | omega) dX5_close_68 ?_
    refine j_aload0 (pc := 69) dX5_close_69 ?_
    refine j_iload2 (pc := 70) dX5_close_70 ?_
    refine j_bipush (pc := 71) (v := nI 8) dX5_close_71 (by decide) ?_
    refine cd_X5_41 (pc := 73) rfl (s_get hM ha (by decide)) hM.1 dX5_close_73 rfl rfl ?_
    rw [h82]
    refine j_lcmpN_ge (pc := 76) (tgt := 137) (by first | decide | omega) (by first | decide | omega) dX5_close_76 dX5_close_77 (by decide) (fun c76 => by omega) (fun c76 => ?_)
    refine j_aload0 (pc := 80) dX5_close_80 ?_
    refine g_X5_23 (pc := 81) rfl hM.1 hM.2.2.2.2.1.1 dX5_close_81 ?_
    refine j_iload2 (pc := 84) dX5_close_84 ?_
    refine j_iload3 (pc := 85) dX5_close_85 ?_
    refine j_iconst (pc := 86) (v := nI 2) dX5_close_86 (by decide) ?_
    refine cd_X5_160 (pc := 87) rfl (s_stopAt) dX5_close_87 rfl rfl ?_
    refine j_lald (pc := 90) hM.2.2.2.2.1.2 (pk_in (sx a i 2) 120000 (sx_lt ha hi6 (by decide)) rfl) dX5_close_90 ?_
    rw [nI_clamp (Nat.lt_trans (sx_lt ha hi6 (by decide)) (by decide)), show (mh h2 M a k2).l (M + 4) (sx a i 2) = h2.l (M + 4) (sx a i 2) from if_neg (by omega)]
    refine j_lstore4 (pc := 91) dX5_close_91 (by decide) trivial ?_
    refine j_lload4 (pc := 93) dX5_close_93 ?_
    refine j_aload0 (pc := 95) dX5_close_95 ?_
    refine j_iload2 (pc := 96) dX5_close_96 ?_
    refine j_iconst (pc := 97) (v := nI 3) dX5_close_97 (by decide) ?_
    refine cd_X5_41 (pc := 98) rfl (s_get hM ha (by first | decide | exact ix_lt hs (by decide) | omega)) hM.1 dX5_close_98 rfl rfl ?_
    refine cd_X5_108 (pc := 101) rfl (s_min _ _) dX5_close_101 rfl rfl ?_
    refine j_lstore6 (pc := 104) dX5_close_104 (by decide) trivial ?_
    refine j_aload0 (pc := 106) dX5_close_106 ?_
    refine j_iload2 (pc := 107) dX5_close_107 ?_
    refine j_iconst (pc := 108) (v := nI 3) dX5_close_108 (by decide) ?_
    refine j_lload6 (pc := 109) dX5_close_109 ?_
    refine j_lneg (pc := 111) dX5_close_111 ?_
    refine cd_X5_76 (pc := 112) rfl (s_more hM ha (by first | decide | exact ix_lt hs (by decide) | omega)) hM.1 dX5_close_112 rfl rfl ?_
    refine j_aload0 (pc := 115) dX5_close_115 ?_
    refine g_X5_23 (pc := 116) rfl hM.1 hM.2.2.2.2.1.1 dX5_close_116 ?_
    refine j_iload2 (pc := 119) dX5_close_119 ?_
    refine j_iload3 (pc := 120) dX5_close_120 ?_
    refine j_iconst (pc := 121) (v := nI 4) dX5_close_121 (by decide) ?_
    refine cd_X5_160 (pc := 122) rfl (s_stopAt) dX5_close_122 rfl rfl ?_
    refine j_lload4 (pc := 125) dX5_close_125 ?_
    refine j_lload6 (pc := 127) dX5_close_127 ?_
    refine j_lsub (pc := 129) dX5_close_129 ?_
    refine j_last (pc := 130) hM.2.2.2.2.1.2 (pk_in (sx a i 4) 120000 (sx_lt ha hi6 (by decide)) rfl) dX5_close_130 ?_
    rw [nI_clamp (Nat.lt_trans (sx_lt ha hi6 (by decide)) (by decide)), mh_setL (by omega)]
    refine j_iincN3 (pc := 131) dX5_close_131 (by decide) trivial ?_
    refine j_goto (pc := 134) (tgt := 67) dX5_close_134 (by decide) ?_
    exact J.wk ih (by simp [lcw])
theorem s_close {st : Nat} (hM : MSh h.1 M) (ha : a < 40) (hr : isRi h M (nI a) = true) (h8 : f 8 = lN st) (hst : st ≤ 600) : DI cx mX5_close 4 (mh h M a f) [.ref M, .int (nI a)] (fClose h M a st f).1 (fClose h M a st f).2 := by
  refine Sp.ofQ 8 (by decide) (Nat.le_of_ble_eq_true rfl) rfl (fun Q hQ => ?_)
  have L47 : f 4 = 1 → ¬ f 5 < f 6 → J cx mX5_close (Rm 4 0 0) (mh h M a f) 47 [some (.ref M), some (.int (nI a)), some (.int (nI a)), some (.int (nI 0)), none, none, none, none, none, none] [] 0 0 Q := by
    intro h4 h56
    have hf : fClose h M a st f = (0, mh (itr (csS M a) st (h, itr bcS 60 f)).1 M a (clEnd (itr (csS M a) st (h, itr bcS 60 f)).2)) := by unfold fClose; rw [if_neg (fun z => z h4), if_neg h56]
    rw [hf] at hQ
    have hb8 : itr bcS 60 f 8 = lN st := (itr_keep (step := bcS) (fun y : Fl => y 8) (fun n y => bcS_o (fun t => by unfold ix; omega) n y) f 60).trans h8
    have hK := close_67 (cx := cx) (Q := Q) hM ha hb8 hst (fun v h' hv hh => hQ v h' ⟨_, hv, rfl, hh⟩)
    refine dn (P := fun n => J cx mX5_close (Rm 4 0 0) (mh h M a (itr bcS n f)) 47 [some (.ref M), some (.int (nI a)), some (.int (nI a)), some (.int (nI n)), none, none, none, none, none, none] [] 0 0 Q) 60 ?_ ?_
    · generalize itr bcS 60 f = k at hK
      refine j_iload3 (pc := 47) dX5_close_47 ?_
      refine j_bipush (pc := 48) (v := nI 60) dX5_close_48 (by decide) ?_
      refine j_icmpN_ge (pc := 50) (tgt := 65) (by first | decide | omega) (by first | decide | omega) dX5_close_50 (by decide) (fun c50 => ?_) (fun c50 => by omega)
      refine j_iconst (pc := 65) (v := nI 0) dX5_close_65 (by decide) ?_
      refine j_istore3 (pc := 66) dX5_close_66 (by decide) trivial ?_
      exact hK
    · intro s hs ih
      refine j_iload3 (pc := 47) dX5_close_47 ?_
      refine j_bipush (pc := 48) (v := nI 60) dX5_close_48 (by decide) ?_
      refine j_icmpN_ge (pc := 50) (tgt := 65) (by first | decide | omega) (by first | decide | omega) dX5_close_50 (by decide) (fun c50 => by omega) (fun c50 => ?_)
      refine j_aload0 (pc := 53) dX5_close_53 ?_
      refine j_iload2 (pc := 54) dX5_close_54 ?_
      refine j_iload3 (pc := 55) dX5_close_55 ?_
      refine cd_X5_167 (pc := 56) rfl (s_backComes hM ha hs) hM.1 dX5_close_56 rfl rfl ?_
      refine j_iincN3 (pc := 59) dX5_close_59 (by decide) trivial ?_
      refine j_goto (pc := 62) (tgt := 47) dX5_close_62 (by decide) ?_
      exact ih
  refine j_aload0 (pc := 0) dX5_close_0 ?_
  refine j_iload1 (pc := 1) dX5_close_1 ?_
  refine cd_X5_68 (pc := 2) rfl (s_isRing _ hM) hM.1 dX5_close_2 rfl rfl ?_
  refine j_bif_ne (pc := 5) (tgt := 10) dX5_close_5 (by decide) (fun c5 => ?_) (fun c5 => by exact nb hr c5)
  refine j_aload0 (pc := 10) dX5_close_10 ?_
  refine j_iload1 (pc := 11) dX5_close_11 ?_
  refine j_iconst (pc := 12) (v := nI 4) dX5_close_12 (by decide) ?_
  refine cd_X5_41 (pc := 13) rfl (s_get hM ha (by first | decide | exact ix_lt hs (by decide) | omega)) hM.1 dX5_close_13 rfl rfl ?_
  refine j_lconst (pc := 16) (v := 1) dX5_close_16 (by decide) ?_
  refine j_lcmp_eq (pc := 17) (tgt := 23) dX5_close_17 dX5_close_18 (by decide) (fun c17 => ?_) (fun c17 => ?_)
  · refine j_aload0 (pc := 23) dX5_close_23 ?_
    refine j_iload1 (pc := 24) dX5_close_24 ?_
    refine j_iconst (pc := 25) (v := nI 5) dX5_close_25 (by decide) ?_
    refine cd_X5_41 (pc := 26) rfl (s_get hM ha (by first | decide | exact ix_lt hs (by decide) | omega)) hM.1 dX5_close_26 rfl rfl ?_
    refine j_aload0 (pc := 29) dX5_close_29 ?_
    refine j_iload1 (pc := 30) dX5_close_30 ?_
    refine j_bipush (pc := 31) (v := nI 6) dX5_close_31 (by decide) ?_
    refine cd_X5_41 (pc := 33) rfl (s_get hM ha (by first | decide | exact ix_lt hs (by decide) | omega)) hM.1 dX5_close_33 rfl rfl ?_
    refine j_lcmp_ge (pc := 36) (tgt := 43) dX5_close_36 dX5_close_37 (by decide) (fun c36 => ?_) (fun c36 => ?_)
    · refine j_iload1 (pc := 43) dX5_close_43 ?_
      refine j_istore2 (pc := 44) dX5_close_44 (by decide) trivial ?_
      refine j_iconst (pc := 45) (v := nI 0) dX5_close_45 (by decide) ?_
      refine j_istore3 (pc := 46) dX5_close_46 (by decide) trivial ?_
      exact L47 c17 (Int64.not_lt.mpr c36)
    · refine j_bipush (pc := 40) (v := 8) dX5_close_40 (by decide) ?_
      have e8 : fClose h M a st f = (8, mh h M a f) := by unfold fClose; rw [if_neg (fun z => z c17), if_pos (Int64.not_le.mp c36)]
      refine j_iret (pc := 42) dX5_close_42 rfl rfl ?_
      exact hQ _ _ ⟨_, rfl, by rw [e8], by rw [e8]⟩
  · refine j_iconst (pc := 21) (v := 2) dX5_close_21 (by decide) ?_
    have e2 : fClose h M a st f = (2, mh h M a f) := by unfold fClose; rw [if_pos c17]
    refine j_iret (pc := 22) dX5_close_22 rfl rfl ?_
    exact hQ _ _ ⟨_, rfl, by rw [e2], by rw [e2]⟩
end

