/-! the law: its cases -/
section
variable {nm : String} {cx : Cx} {h : Hp} {X M K i : Nat} {Q : Option Value → Hp → Prop}
theorem lw_c0 (I : GX h X M K) (hK : K < 512) (hb : cx.2.2.2.2.1 < cx.base) (hi : i + 5 ≤ cx.2.2.2.2.2.1) (hL : cx.2.2.2.2.2.1 ≤ 2560) (next : ∀ g, GX g X M (K + 1) → J cx (mLn nm) room_1 g 1273 (lcl cx X M i) [] (600 * (511 - K)) (5000 * (511 - K)) Q) : J cx (mLn nm) room_1 h 168 (lcl cx X M i) [] (600 * (512 - K)) (5000 * (512 - K)) Q := by
  have W : Cal cx mX4_ring mX5_ring h [.int (xk cx i 1), .int (xk cx i 2), .int (xk cx i 3), .int (xk cx i 4)] X M K := by
    obtain ⟨ow, n, C, m, Aof, Γ, I⟩ := I
    exact ca_ring I hK
  obtain ⟨y, g, g2, e1, e2, mc, ms, d1, d2, d3, d4, Tx, T, kM, G⟩ := W
  refine j_aload1 (pc := 168) dL_law_168 ?_
  refine j_aload0 (pc := 169) dL_law_169 ?_
  refine j_iload3 (pc := 170) dL_law_170 ?_
  refine j_iconst (pc := 171) (v := nI 1) dL_law_171 (by decide) ?_
  refine j_iaddN (pc := 172) dL_law_172 ?_
  refine j_sald (pc := 173) hb (so_in (k := 1) hi (by decide) hL) dL_law_173 ?_
  refine j_aload0 (pc := 174) dL_law_174 ?_
  refine j_iload3 (pc := 175) dL_law_175 ?_
  refine j_iconst (pc := 176) (v := nI 2) dL_law_176 (by decide) ?_
  refine j_iaddN (pc := 177) dL_law_177 ?_
  refine j_sald (pc := 178) hb (so_in (k := 2) hi (by decide) hL) dL_law_178 ?_
  refine j_aload0 (pc := 179) dL_law_179 ?_
  refine j_iload3 (pc := 180) dL_law_180 ?_
  refine j_iconst (pc := 181) (v := nI 3) dL_law_181 (by decide) ?_
  refine j_iaddN (pc := 182) dL_law_182 ?_
  refine j_sald (pc := 183) hb (so_in (k := 3) hi (by decide) hL) dL_law_183 ?_
  refine j_aload0 (pc := 184) dL_law_184 ?_
  refine j_iload3 (pc := 185) dL_law_185 ?_
  refine j_iconst (pc := 186) (v := nI 4) dL_law_186 (by decide) ?_
  refine j_iaddN (pc := 187) dL_law_187 ?_
  refine j_sald (pc := 188) hb (so_in (k := 4) hi (by decide) hL) dL_law_188 ?_
  refine cs_L_13 (pc := 189) rfl Tx (gx_X I) dL_law_189 rfl (rok9 d1) (Nat.le_trans d3 (by omega)) (Nat.le_trans d4 (by omega)) (fun v h2 q => ?_)
  rw [q.1, q.2]
  refine j_aload2 (pc := 192) dL_law_192 ?_
  refine j_aload0 (pc := 193) dL_law_193 ?_
  refine j_iload3 (pc := 194) dL_law_194 ?_
  refine j_iconst (pc := 195) (v := nI 1) dL_law_195 (by decide) ?_
  refine j_iaddN (pc := 196) dL_law_196 ?_
  refine j_sald (pc := 197) hb (so_in (k := 1) hi (by decide) hL) dL_law_197 ?_
  refine j_aload0 (pc := 198) dL_law_198 ?_
  refine j_iload3 (pc := 199) dL_law_199 ?_
  refine j_iconst (pc := 200) (v := nI 2) dL_law_200 (by decide) ?_
  refine j_iaddN (pc := 201) dL_law_201 ?_
  refine j_sald (pc := 202) hb (so_in (k := 2) hi (by decide) hL) dL_law_202 ?_
  refine j_aload0 (pc := 203) dL_law_203 ?_
  refine j_iload3 (pc := 204) dL_law_204 ?_
  refine j_iconst (pc := 205) (v := nI 3) dL_law_205 (by decide) ?_
  refine j_iaddN (pc := 206) dL_law_206 ?_
  refine j_sald (pc := 207) hb (so_in (k := 3) hi (by decide) hL) dL_law_207 ?_
  refine j_aload0 (pc := 208) dL_law_208 ?_
  refine j_iload3 (pc := 209) dL_law_209 ?_
  refine j_iconst (pc := 210) (v := nI 4) dL_law_210 (by decide) ?_
  refine j_iaddN (pc := 211) dL_law_211 ?_
  refine j_sald (pc := 212) hb (so_in (k := 4) hi (by decide) hL) dL_law_212 ?_
  refine ce_L_17 (pc := 213) rfl T kM dL_law_213 rfl (rok9 d2) (fun v h2 q => ?_)
  rw [q.1, q.2]
  refine j_icmp_eq (pc := 216) (tgt := 1273) dL_law_216 (by decide) (fun _ => J.mono (next g2 G) (fun _ _ q => q) (by omega) (by omega)) (fun z => absurd rfl z)
theorem lw_c1 (I : GX h X M K) (hK : K < 512) (hb : cx.2.2.2.2.1 < cx.base) (hi : i + 5 ≤ cx.2.2.2.2.2.1) (hL : cx.2.2.2.2.2.1 ≤ 2560) (next : ∀ g, GX g X M (K + 1) → J cx (mLn nm) room_1 g 1273 (lcl cx X M i) [] (600 * (511 - K)) (5000 * (511 - K)) Q) : J cx (mLn nm) room_1 h 221 (lcl cx X M i) [] (600 * (512 - K)) (5000 * (512 - K)) Q := by
  have W : Cal cx mX4_seat mX5_seat h [.int (xk cx i 1), .int (xk cx i 2), .int (xk cx i 3), .int (xk cx i 4)] X M K := by
    obtain ⟨ow, n, C, m, Aof, Γ, I⟩ := I
    exact ca_seat I hK
  obtain ⟨y, g, g2, e1, e2, mc, ms, d1, d2, d3, d4, Tx, T, kM, G⟩ := W
  refine j_aload1 (pc := 221) dL_law_221 ?_
  refine j_aload0 (pc := 222) dL_law_222 ?_
  refine j_iload3 (pc := 223) dL_law_223 ?_
  refine j_iconst (pc := 224) (v := nI 1) dL_law_224 (by decide) ?_
  refine j_iaddN (pc := 225) dL_law_225 ?_
  refine j_sald (pc := 226) hb (so_in (k := 1) hi (by decide) hL) dL_law_226 ?_
  refine j_aload0 (pc := 227) dL_law_227 ?_
  refine j_iload3 (pc := 228) dL_law_228 ?_
  refine j_iconst (pc := 229) (v := nI 2) dL_law_229 (by decide) ?_
  refine j_iaddN (pc := 230) dL_law_230 ?_
  refine j_sald (pc := 231) hb (so_in (k := 2) hi (by decide) hL) dL_law_231 ?_
  refine j_aload0 (pc := 232) dL_law_232 ?_
  refine j_iload3 (pc := 233) dL_law_233 ?_
  refine j_iconst (pc := 234) (v := nI 3) dL_law_234 (by decide) ?_
  refine j_iaddN (pc := 235) dL_law_235 ?_
  refine j_sald (pc := 236) hb (so_in (k := 3) hi (by decide) hL) dL_law_236 ?_
  refine j_aload0 (pc := 237) dL_law_237 ?_
  refine j_iload3 (pc := 238) dL_law_238 ?_
  refine j_iconst (pc := 239) (v := nI 4) dL_law_239 (by decide) ?_
  refine j_iaddN (pc := 240) dL_law_240 ?_
  refine j_sald (pc := 241) hb (so_in (k := 4) hi (by decide) hL) dL_law_241 ?_
  refine cs_L_18 (pc := 242) rfl Tx (gx_X I) dL_law_242 rfl (rok9 d1) (Nat.le_trans d3 (by omega)) (Nat.le_trans d4 (by omega)) (fun v h2 q => ?_)
  rw [q.1, q.2]
  refine j_aload2 (pc := 245) dL_law_245 ?_
  refine j_aload0 (pc := 246) dL_law_246 ?_
  refine j_iload3 (pc := 247) dL_law_247 ?_
  refine j_iconst (pc := 248) (v := nI 1) dL_law_248 (by decide) ?_
  refine j_iaddN (pc := 249) dL_law_249 ?_
  refine j_sald (pc := 250) hb (so_in (k := 1) hi (by decide) hL) dL_law_250 ?_
  refine j_aload0 (pc := 251) dL_law_251 ?_
  refine j_iload3 (pc := 252) dL_law_252 ?_
  refine j_iconst (pc := 253) (v := nI 2) dL_law_253 (by decide) ?_
  refine j_iaddN (pc := 254) dL_law_254 ?_
  refine j_sald (pc := 255) hb (so_in (k := 2) hi (by decide) hL) dL_law_255 ?_
  refine j_aload0 (pc := 256) dL_law_256 ?_
  refine j_iload3 (pc := 257) dL_law_257 ?_
  refine j_iconst (pc := 258) (v := nI 3) dL_law_258 (by decide) ?_
  refine j_iaddN (pc := 259) dL_law_259 ?_
  refine j_sald (pc := 260) hb (so_in (k := 3) hi (by decide) hL) dL_law_260 ?_
  refine j_aload0 (pc := 261) dL_law_261 ?_
  refine j_iload3 (pc := 262) dL_law_262 ?_
  refine j_iconst (pc := 263) (v := nI 4) dL_law_263 (by decide) ?_
  refine j_iaddN (pc := 264) dL_law_264 ?_
  refine j_sald (pc := 265) hb (so_in (k := 4) hi (by decide) hL) dL_law_265 ?_
  refine ce_L_21 (pc := 266) rfl T kM dL_law_266 rfl (rok9 d2) (fun v h2 q => ?_)
  rw [q.1, q.2]
  refine j_icmp_eq (pc := 269) (tgt := 1273) dL_law_269 (by decide) (fun _ => J.mono (next g2 G) (fun _ _ q => q) (by omega) (by omega)) (fun z => absurd rfl z)
theorem lw_c2 (I : GX h X M K) (hK : K < 512) (hb : cx.2.2.2.2.1 < cx.base) (hi : i + 5 ≤ cx.2.2.2.2.2.1) (hL : cx.2.2.2.2.2.1 ≤ 2560) (next : ∀ g, GX g X M (K + 1) → J cx (mLn nm) room_1 g 1273 (lcl cx X M i) [] (600 * (511 - K)) (5000 * (511 - K)) Q) : J cx (mLn nm) room_1 h 274 (lcl cx X M i) [] (600 * (512 - K)) (5000 * (512 - K)) Q := by
  have W : Cal cx mX4_letter mX5_letter h [.int (xk cx i 1), .int (xk cx i 2)] X M K := by
    obtain ⟨ow, n, C, m, Aof, Γ, I⟩ := I
    exact ca_letter I hK
  obtain ⟨y, g, g2, e1, e2, mc, ms, d1, d2, d3, d4, Tx, T, kM, G⟩ := W
  refine j_aload1 (pc := 274) dL_law_274 ?_
  refine j_aload0 (pc := 275) dL_law_275 ?_
  refine j_iload3 (pc := 276) dL_law_276 ?_
  refine j_iconst (pc := 277) (v := nI 1) dL_law_277 (by decide) ?_
  refine j_iaddN (pc := 278) dL_law_278 ?_
  refine j_sald (pc := 279) hb (so_in (k := 1) hi (by decide) hL) dL_law_279 ?_
  refine j_aload0 (pc := 280) dL_law_280 ?_
  refine j_iload3 (pc := 281) dL_law_281 ?_
  refine j_iconst (pc := 282) (v := nI 2) dL_law_282 (by decide) ?_
  refine j_iaddN (pc := 283) dL_law_283 ?_
  refine j_sald (pc := 284) hb (so_in (k := 2) hi (by decide) hL) dL_law_284 ?_
  refine cs_L_22 (pc := 285) rfl Tx (gx_X I) dL_law_285 rfl (rok9 d1) (Nat.le_trans d3 (by omega)) (Nat.le_trans d4 (by omega)) (fun v h2 q => ?_)
  rw [q.1, q.2]
  refine j_aload2 (pc := 288) dL_law_288 ?_
  refine j_aload0 (pc := 289) dL_law_289 ?_
  refine j_iload3 (pc := 290) dL_law_290 ?_
  refine j_iconst (pc := 291) (v := nI 1) dL_law_291 (by decide) ?_
  refine j_iaddN (pc := 292) dL_law_292 ?_
  refine j_sald (pc := 293) hb (so_in (k := 1) hi (by decide) hL) dL_law_293 ?_
  refine j_aload0 (pc := 294) dL_law_294 ?_
  refine j_iload3 (pc := 295) dL_law_295 ?_
  refine j_iconst (pc := 296) (v := nI 2) dL_law_296 (by decide) ?_
  refine j_iaddN (pc := 297) dL_law_297 ?_
  refine j_sald (pc := 298) hb (so_in (k := 2) hi (by decide) hL) dL_law_298 ?_
  refine ce_L_26 (pc := 299) rfl T kM dL_law_299 rfl (rok9 d2) (fun v h2 q => ?_)
  rw [q.1, q.2]
  refine j_icmp_eq (pc := 302) (tgt := 1273) dL_law_302 (by decide) (fun _ => J.mono (next g2 G) (fun _ _ q => q) (by omega) (by omega)) (fun z => absurd rfl z)
theorem lw_c3 (I : GX h X M K) (hK : K < 512) (hb : cx.2.2.2.2.1 < cx.base) (hi : i + 5 ≤ cx.2.2.2.2.2.1) (hL : cx.2.2.2.2.2.1 ≤ 2560) (next : ∀ g, GX g X M (K + 1) → J cx (mLn nm) room_1 g 1273 (lcl cx X M i) [] (600 * (511 - K)) (5000 * (511 - K)) Q) : J cx (mLn nm) room_1 h 307 (lcl cx X M i) [] (600 * (512 - K)) (5000 * (512 - K)) Q := by
  have W : Cal cx mX4_answers mX5_answers h [.int (xk cx i 1), .int (xk cx i 2), .int (xk cx i 3)] X M K := by
    obtain ⟨ow, n, C, m, Aof, Γ, I⟩ := I
    exact ca_answers I hK
  obtain ⟨y, g, g2, e1, e2, mc, ms, d1, d2, d3, d4, Tx, T, kM, G⟩ := W
  refine j_aload1 (pc := 307) dL_law_307 ?_
  refine j_aload0 (pc := 308) dL_law_308 ?_
  refine j_iload3 (pc := 309) dL_law_309 ?_
  refine j_iconst (pc := 310) (v := nI 1) dL_law_310 (by decide) ?_
  refine j_iaddN (pc := 311) dL_law_311 ?_
  refine j_sald (pc := 312) hb (so_in (k := 1) hi (by decide) hL) dL_law_312 ?_
  refine j_aload0 (pc := 313) dL_law_313 ?_
  refine j_iload3 (pc := 314) dL_law_314 ?_
  refine j_iconst (pc := 315) (v := nI 2) dL_law_315 (by decide) ?_
  refine j_iaddN (pc := 316) dL_law_316 ?_
  refine j_sald (pc := 317) hb (so_in (k := 2) hi (by decide) hL) dL_law_317 ?_
  refine j_aload0 (pc := 318) dL_law_318 ?_
  refine j_iload3 (pc := 319) dL_law_319 ?_
  refine j_iconst (pc := 320) (v := nI 3) dL_law_320 (by decide) ?_
  refine j_iaddN (pc := 321) dL_law_321 ?_
  refine j_sald (pc := 322) hb (so_in (k := 3) hi (by decide) hL) dL_law_322 ?_
  refine cs_L_27 (pc := 323) rfl Tx (gx_X I) dL_law_323 rfl (rok9 d1) (Nat.le_trans d3 (by omega)) (Nat.le_trans d4 (by omega)) (fun v h2 q => ?_)
  rw [q.1, q.2]
  refine j_aload2 (pc := 326) dL_law_326 ?_
  refine j_aload0 (pc := 327) dL_law_327 ?_
  refine j_iload3 (pc := 328) dL_law_328 ?_
  refine j_iconst (pc := 329) (v := nI 1) dL_law_329 (by decide) ?_
  refine j_iaddN (pc := 330) dL_law_330 ?_
  refine j_sald (pc := 331) hb (so_in (k := 1) hi (by decide) hL) dL_law_331 ?_
  refine j_aload0 (pc := 332) dL_law_332 ?_
  refine j_iload3 (pc := 333) dL_law_333 ?_
  refine j_iconst (pc := 334) (v := nI 2) dL_law_334 (by decide) ?_
  refine j_iaddN (pc := 335) dL_law_335 ?_
  refine j_sald (pc := 336) hb (so_in (k := 2) hi (by decide) hL) dL_law_336 ?_
  refine j_aload0 (pc := 337) dL_law_337 ?_
  refine j_iload3 (pc := 338) dL_law_338 ?_
  refine j_iconst (pc := 339) (v := nI 3) dL_law_339 (by decide) ?_
  refine j_iaddN (pc := 340) dL_law_340 ?_
  refine j_sald (pc := 341) hb (so_in (k := 3) hi (by decide) hL) dL_law_341 ?_
  refine ce_L_31 (pc := 342) rfl T kM dL_law_342 rfl (rok9 d2) (fun v h2 q => ?_)
  rw [q.1, q.2]
  refine j_icmp_eq (pc := 345) (tgt := 1273) dL_law_345 (by decide) (fun _ => J.mono (next g2 G) (fun _ _ q => q) (by omega) (by omega)) (fun z => absurd rfl z)
theorem lw_c4 (I : GX h X M K) (hK : K < 512) (hb : cx.2.2.2.2.1 < cx.base) (hi : i + 5 ≤ cx.2.2.2.2.2.1) (hL : cx.2.2.2.2.2.1 ≤ 2560) (next : ∀ g, GX g X M (K + 1) → J cx (mLn nm) room_1 g 1273 (lcl cx X M i) [] (600 * (511 - K)) (5000 * (511 - K)) Q) : J cx (mLn nm) room_1 h 350 (lcl cx X M i) [] (600 * (512 - K)) (5000 * (512 - K)) Q := by
  have W : Cal cx mX4_order mX5_order h [.int (xk cx i 1), .int (xk cx i 2)] X M K := by
    obtain ⟨ow, n, C, m, Aof, Γ, I⟩ := I
    exact ca_order I hK
  obtain ⟨y, g, g2, e1, e2, mc, ms, d1, d2, d3, d4, Tx, T, kM, G⟩ := W
  refine j_aload1 (pc := 350) dL_law_350 ?_
  refine j_aload0 (pc := 351) dL_law_351 ?_
  refine j_iload3 (pc := 352) dL_law_352 ?_
  refine j_iconst (pc := 353) (v := nI 1) dL_law_353 (by decide) ?_
  refine j_iaddN (pc := 354) dL_law_354 ?_
  refine j_sald (pc := 355) hb (so_in (k := 1) hi (by decide) hL) dL_law_355 ?_
  refine j_aload0 (pc := 356) dL_law_356 ?_
  refine j_iload3 (pc := 357) dL_law_357 ?_
  refine j_iconst (pc := 358) (v := nI 2) dL_law_358 (by decide) ?_
  refine j_iaddN (pc := 359) dL_law_359 ?_
  refine j_sald (pc := 360) hb (so_in (k := 2) hi (by decide) hL) dL_law_360 ?_
  refine cs_L_32 (pc := 361) rfl Tx (gx_X I) dL_law_361 rfl (rok9 d1) (Nat.le_trans d3 (by omega)) (Nat.le_trans d4 (by omega)) (fun v h2 q => ?_)
  rw [q.1, q.2]
  refine j_aload2 (pc := 364) dL_law_364 ?_
  refine j_aload0 (pc := 365) dL_law_365 ?_
  refine j_iload3 (pc := 366) dL_law_366 ?_
  refine j_iconst (pc := 367) (v := nI 1) dL_law_367 (by decide) ?_
  refine j_iaddN (pc := 368) dL_law_368 ?_
  refine j_sald (pc := 369) hb (so_in (k := 1) hi (by decide) hL) dL_law_369 ?_
  refine j_aload0 (pc := 370) dL_law_370 ?_
  refine j_iload3 (pc := 371) dL_law_371 ?_
  refine j_iconst (pc := 372) (v := nI 2) dL_law_372 (by decide) ?_
  refine j_iaddN (pc := 373) dL_law_373 ?_
  refine j_sald (pc := 374) hb (so_in (k := 2) hi (by decide) hL) dL_law_374 ?_
  refine ce_L_35 (pc := 375) rfl T kM dL_law_375 rfl (rok9 d2) (fun v h2 q => ?_)
  rw [q.1, q.2]
  refine j_icmp_eq (pc := 378) (tgt := 1273) dL_law_378 (by decide) (fun _ => J.mono (next g2 G) (fun _ _ q => q) (by omega) (by omega)) (fun z => absurd rfl z)
theorem lw_c5 (I : GX h X M K) (hK : K < 512) (hb : cx.2.2.2.2.1 < cx.base) (hi : i + 5 ≤ cx.2.2.2.2.2.1) (hL : cx.2.2.2.2.2.1 ≤ 2560) (next : ∀ g, GX g X M (K + 1) → J cx (mLn nm) room_1 g 1273 (lcl cx X M i) [] (600 * (511 - K)) (5000 * (511 - K)) Q) : J cx (mLn nm) room_1 h 383 (lcl cx X M i) [] (600 * (512 - K)) (5000 * (512 - K)) Q := by
  have W : Cal cx mX4_lot mX5_lot h [.int (xk cx i 1), .int (xk cx i 2)] X M K := by
    obtain ⟨ow, n, C, m, Aof, Γ, I⟩ := I
    exact ca_lot I hK
  obtain ⟨y, g, g2, e1, e2, mc, ms, d1, d2, d3, d4, Tx, T, kM, G⟩ := W
  refine j_aload1 (pc := 383) dL_law_383 ?_
  refine j_aload0 (pc := 384) dL_law_384 ?_
  refine j_iload3 (pc := 385) dL_law_385 ?_
  refine j_iconst (pc := 386) (v := nI 1) dL_law_386 (by decide) ?_
  refine j_iaddN (pc := 387) dL_law_387 ?_
  refine j_sald (pc := 388) hb (so_in (k := 1) hi (by decide) hL) dL_law_388 ?_
  refine j_aload0 (pc := 389) dL_law_389 ?_
  refine j_iload3 (pc := 390) dL_law_390 ?_
  refine j_iconst (pc := 391) (v := nI 2) dL_law_391 (by decide) ?_
  refine j_iaddN (pc := 392) dL_law_392 ?_
  refine j_sald (pc := 393) hb (so_in (k := 2) hi (by decide) hL) dL_law_393 ?_
  refine cs_L_36 (pc := 394) rfl Tx (gx_X I) dL_law_394 rfl (rok9 d1) (Nat.le_trans d3 (by omega)) (Nat.le_trans d4 (by omega)) (fun v h2 q => ?_)
  rw [q.1, q.2]
  refine j_aload2 (pc := 397) dL_law_397 ?_
  refine j_aload0 (pc := 398) dL_law_398 ?_
  refine j_iload3 (pc := 399) dL_law_399 ?_
  refine j_iconst (pc := 400) (v := nI 1) dL_law_400 (by decide) ?_
  refine j_iaddN (pc := 401) dL_law_401 ?_
  refine j_sald (pc := 402) hb (so_in (k := 1) hi (by decide) hL) dL_law_402 ?_
  refine j_aload0 (pc := 403) dL_law_403 ?_
  refine j_iload3 (pc := 404) dL_law_404 ?_
  refine j_iconst (pc := 405) (v := nI 2) dL_law_405 (by decide) ?_
  refine j_iaddN (pc := 406) dL_law_406 ?_
  refine j_sald (pc := 407) hb (so_in (k := 2) hi (by decide) hL) dL_law_407 ?_
  refine ce_L_39 (pc := 408) rfl T kM dL_law_408 rfl (rok9 d2) (fun v h2 q => ?_)
  rw [q.1, q.2]
  refine j_icmp_eq (pc := 411) (tgt := 1273) dL_law_411 (by decide) (fun _ => J.mono (next g2 G) (fun _ _ q => q) (by omega) (by omega)) (fun z => absurd rfl z)
theorem lw_c6 (I : GX h X M K) (hK : K < 512) (hb : cx.2.2.2.2.1 < cx.base) (hi : i + 5 ≤ cx.2.2.2.2.2.1) (hL : cx.2.2.2.2.2.1 ≤ 2560) (next : ∀ g, GX g X M (K + 1) → J cx (mLn nm) room_1 g 1273 (lcl cx X M i) [] (600 * (511 - K)) (5000 * (511 - K)) Q) : J cx (mLn nm) room_1 h 416 (lcl cx X M i) [] (600 * (512 - K)) (5000 * (512 - K)) Q := by
  have W : Cal cx mX4_open mX5_open h [.int (xk cx i 1)] X M K := by
    obtain ⟨ow, n, C, m, Aof, Γ, I⟩ := I
    exact ca_open I hK
  obtain ⟨y, g, g2, e1, e2, mc, ms, d1, d2, d3, d4, Tx, T, kM, G⟩ := W
  refine j_aload1 (pc := 416) dL_law_416 ?_
  refine j_aload0 (pc := 417) dL_law_417 ?_
  refine j_iload3 (pc := 418) dL_law_418 ?_
  refine j_iconst (pc := 419) (v := nI 1) dL_law_419 (by decide) ?_
  refine j_iaddN (pc := 420) dL_law_420 ?_
  refine j_sald (pc := 421) hb (so_in (k := 1) hi (by decide) hL) dL_law_421 ?_
  refine cs_L_40 (pc := 422) rfl Tx (gx_X I) dL_law_422 rfl (rok9 d1) (Nat.le_trans d3 (by omega)) (Nat.le_trans d4 (by omega)) (fun v h2 q => ?_)
  rw [q.1, q.2]
  refine j_aload2 (pc := 425) dL_law_425 ?_
  refine j_aload0 (pc := 426) dL_law_426 ?_
  refine j_iload3 (pc := 427) dL_law_427 ?_
  refine j_iconst (pc := 428) (v := nI 1) dL_law_428 (by decide) ?_
  refine j_iaddN (pc := 429) dL_law_429 ?_
  refine j_sald (pc := 430) hb (so_in (k := 1) hi (by decide) hL) dL_law_430 ?_
  refine ce_L_44 (pc := 431) rfl T kM dL_law_431 rfl (rok9 d2) (fun v h2 q => ?_)
  rw [q.1, q.2]
  refine j_icmp_eq (pc := 434) (tgt := 1273) dL_law_434 (by decide) (fun _ => J.mono (next g2 G) (fun _ _ q => q) (by omega) (by omega)) (fun z => absurd rfl z)
theorem lw_c7 (I : GX h X M K) (hK : K < 512) (hb : cx.2.2.2.2.1 < cx.base) (hi : i + 5 ≤ cx.2.2.2.2.2.1) (hL : cx.2.2.2.2.2.1 ≤ 2560) (next : ∀ g, GX g X M (K + 1) → J cx (mLn nm) room_1 g 1273 (lcl cx X M i) [] (600 * (511 - K)) (5000 * (511 - K)) Q) : J cx (mLn nm) room_1 h 439 (lcl cx X M i) [] (600 * (512 - K)) (5000 * (512 - K)) Q := by
  have W : Cal cx mX4_deposit mX5_deposit h [.int (xk cx i 1), .int (xk cx i 2), .int (xk cx i 3)] X M K := by
    obtain ⟨ow, n, C, m, Aof, Γ, I⟩ := I
    exact ca_deposit I hK
  obtain ⟨y, g, g2, e1, e2, mc, ms, d1, d2, d3, d4, Tx, T, kM, G⟩ := W
  refine j_aload1 (pc := 439) dL_law_439 ?_
  refine j_aload0 (pc := 440) dL_law_440 ?_
  refine j_iload3 (pc := 441) dL_law_441 ?_
  refine j_iconst (pc := 442) (v := nI 1) dL_law_442 (by decide) ?_
  refine j_iaddN (pc := 443) dL_law_443 ?_
  refine j_sald (pc := 444) hb (so_in (k := 1) hi (by decide) hL) dL_law_444 ?_
  refine j_aload0 (pc := 445) dL_law_445 ?_
  refine j_iload3 (pc := 446) dL_law_446 ?_
  refine j_iconst (pc := 447) (v := nI 2) dL_law_447 (by decide) ?_
  refine j_iaddN (pc := 448) dL_law_448 ?_
  refine j_sald (pc := 449) hb (so_in (k := 2) hi (by decide) hL) dL_law_449 ?_
  refine j_aload0 (pc := 450) dL_law_450 ?_
  refine j_iload3 (pc := 451) dL_law_451 ?_
  refine j_iconst (pc := 452) (v := nI 3) dL_law_452 (by decide) ?_
  refine j_iaddN (pc := 453) dL_law_453 ?_
  refine j_sald (pc := 454) hb (so_in (k := 3) hi (by decide) hL) dL_law_454 ?_
  refine cs_L_45 (pc := 455) rfl Tx (gx_X I) dL_law_455 rfl (rok9 d1) (Nat.le_trans d3 (by omega)) (Nat.le_trans d4 (by omega)) (fun v h2 q => ?_)
  rw [q.1, q.2]
  refine j_aload2 (pc := 458) dL_law_458 ?_
  refine j_aload0 (pc := 459) dL_law_459 ?_
  refine j_iload3 (pc := 460) dL_law_460 ?_
  refine j_iconst (pc := 461) (v := nI 1) dL_law_461 (by decide) ?_
  refine j_iaddN (pc := 462) dL_law_462 ?_
  refine j_sald (pc := 463) hb (so_in (k := 1) hi (by decide) hL) dL_law_463 ?_
  refine j_aload0 (pc := 464) dL_law_464 ?_
  refine j_iload3 (pc := 465) dL_law_465 ?_
  refine j_iconst (pc := 466) (v := nI 2) dL_law_466 (by decide) ?_
  refine j_iaddN (pc := 467) dL_law_467 ?_
  refine j_sald (pc := 468) hb (so_in (k := 2) hi (by decide) hL) dL_law_468 ?_
  refine j_aload0 (pc := 469) dL_law_469 ?_
  refine j_iload3 (pc := 470) dL_law_470 ?_
  refine j_iconst (pc := 471) (v := nI 3) dL_law_471 (by decide) ?_
  refine j_iaddN (pc := 472) dL_law_472 ?_
  refine j_sald (pc := 473) hb (so_in (k := 3) hi (by decide) hL) dL_law_473 ?_
  refine ce_L_48 (pc := 474) rfl T kM dL_law_474 rfl (rok9 d2) (fun v h2 q => ?_)
  rw [q.1, q.2]
  refine j_icmp_eq (pc := 477) (tgt := 1273) dL_law_477 (by decide) (fun _ => J.mono (next g2 G) (fun _ _ q => q) (by omega) (by omega)) (fun z => absurd rfl z)
theorem lw_c8 (I : GX h X M K) (hK : K < 512) (hb : cx.2.2.2.2.1 < cx.base) (hi : i + 5 ≤ cx.2.2.2.2.2.1) (hL : cx.2.2.2.2.2.1 ≤ 2560) (next : ∀ g, GX g X M (K + 1) → J cx (mLn nm) room_1 g 1273 (lcl cx X M i) [] (600 * (511 - K)) (5000 * (511 - K)) Q) : J cx (mLn nm) room_1 h 482 (lcl cx X M i) [] (600 * (512 - K)) (5000 * (512 - K)) Q := by
  have W : Cal cx mX4_row mX5_row h [.int (xk cx i 1), .int (xk cx i 2)] X M K := by
    obtain ⟨ow, n, C, m, Aof, Γ, I⟩ := I
    exact ca_row I hK
  obtain ⟨y, g, g2, e1, e2, mc, ms, d1, d2, d3, d4, Tx, T, kM, G⟩ := W
  refine j_aload1 (pc := 482) dL_law_482 ?_
  refine j_aload0 (pc := 483) dL_law_483 ?_
  refine j_iload3 (pc := 484) dL_law_484 ?_
  refine j_iconst (pc := 485) (v := nI 1) dL_law_485 (by decide) ?_
  refine j_iaddN (pc := 486) dL_law_486 ?_
  refine j_sald (pc := 487) hb (so_in (k := 1) hi (by decide) hL) dL_law_487 ?_
  refine j_aload0 (pc := 488) dL_law_488 ?_
  refine j_iload3 (pc := 489) dL_law_489 ?_
  refine j_iconst (pc := 490) (v := nI 2) dL_law_490 (by decide) ?_
  refine j_iaddN (pc := 491) dL_law_491 ?_
  refine j_sald (pc := 492) hb (so_in (k := 2) hi (by decide) hL) dL_law_492 ?_
  refine cs_L_49 (pc := 493) rfl Tx (gx_X I) dL_law_493 rfl (rok9 d1) (Nat.le_trans d3 (by omega)) (Nat.le_trans d4 (by omega)) (fun v h2 q => ?_)
  rw [q.1, q.2]
  refine j_aload2 (pc := 496) dL_law_496 ?_
  refine j_aload0 (pc := 497) dL_law_497 ?_
  refine j_iload3 (pc := 498) dL_law_498 ?_
  refine j_iconst (pc := 499) (v := nI 1) dL_law_499 (by decide) ?_
  refine j_iaddN (pc := 500) dL_law_500 ?_
  refine j_sald (pc := 501) hb (so_in (k := 1) hi (by decide) hL) dL_law_501 ?_
  refine j_aload0 (pc := 502) dL_law_502 ?_
  refine j_iload3 (pc := 503) dL_law_503 ?_
  refine j_iconst (pc := 504) (v := nI 2) dL_law_504 (by decide) ?_
  refine j_iaddN (pc := 505) dL_law_505 ?_
  refine j_sald (pc := 506) hb (so_in (k := 2) hi (by decide) hL) dL_law_506 ?_
  refine ce_L_52 (pc := 507) rfl T kM dL_law_507 rfl (rok9 d2) (fun v h2 q => ?_)
  rw [q.1, q.2]
  refine j_icmp_eq (pc := 510) (tgt := 1273) dL_law_510 (by decide) (fun _ => J.mono (next g2 G) (fun _ _ q => q) (by omega) (by omega)) (fun z => absurd rfl z)
theorem lw_c9 (I : GX h X M K) (hK : K < 512) (hb : cx.2.2.2.2.1 < cx.base) (hi : i + 5 ≤ cx.2.2.2.2.2.1) (hL : cx.2.2.2.2.2.1 ≤ 2560) (next : ∀ g, GX g X M (K + 1) → J cx (mLn nm) room_1 g 1273 (lcl cx X M i) [] (600 * (511 - K)) (5000 * (511 - K)) Q) : J cx (mLn nm) room_1 h 515 (lcl cx X M i) [] (600 * (512 - K)) (5000 * (512 - K)) Q := by
  have W : Cal cx mX4_tear mX5_tear h [.int (xk cx i 1)] X M K := by
    obtain ⟨ow, n, C, m, Aof, Γ, I⟩ := I
    exact ca_tear I hK
  obtain ⟨y, g, g2, e1, e2, mc, ms, d1, d2, d3, d4, Tx, T, kM, G⟩ := W
  refine j_aload1 (pc := 515) dL_law_515 ?_
  refine j_aload0 (pc := 516) dL_law_516 ?_
  refine j_iload3 (pc := 517) dL_law_517 ?_
  refine j_iconst (pc := 518) (v := nI 1) dL_law_518 (by decide) ?_
  refine j_iaddN (pc := 519) dL_law_519 ?_
  refine j_sald (pc := 520) hb (so_in (k := 1) hi (by decide) hL) dL_law_520 ?_
  refine cs_L_53 (pc := 521) rfl Tx (gx_X I) dL_law_521 rfl (rok9 d1) (Nat.le_trans d3 (by omega)) (Nat.le_trans d4 (by omega)) (fun v h2 q => ?_)
  rw [q.1, q.2]
  refine j_aload2 (pc := 524) dL_law_524 ?_
  refine j_aload0 (pc := 525) dL_law_525 ?_
  refine j_iload3 (pc := 526) dL_law_526 ?_
  refine j_iconst (pc := 527) (v := nI 1) dL_law_527 (by decide) ?_
  refine j_iaddN (pc := 528) dL_law_528 ?_
  refine j_sald (pc := 529) hb (so_in (k := 1) hi (by decide) hL) dL_law_529 ?_
  refine ce_L_56 (pc := 530) rfl T kM dL_law_530 rfl (rok9 d2) (fun v h2 q => ?_)
  rw [q.1, q.2]
  refine j_icmp_eq (pc := 533) (tgt := 1273) dL_law_533 (by decide) (fun _ => J.mono (next g2 G) (fun _ _ q => q) (by omega) (by omega)) (fun z => absurd rfl z)
theorem lw_c10 (I : GX h X M K) (hK : K < 512) (hb : cx.2.2.2.2.1 < cx.base) (hi : i + 5 ≤ cx.2.2.2.2.2.1) (hL : cx.2.2.2.2.2.1 ≤ 2560) (next : ∀ g, GX g X M (K + 1) → J cx (mLn nm) room_1 g 1273 (lcl cx X M i) [] (600 * (511 - K)) (5000 * (511 - K)) Q) : J cx (mLn nm) room_1 h 538 (lcl cx X M i) [] (600 * (512 - K)) (5000 * (512 - K)) Q := by
  have W : Cal cx mX4_pay mX5_pay h [.int (xk cx i 1), .int (xk cx i 2), .int (xk cx i 3)] X M K := by
    obtain ⟨ow, n, C, m, Aof, Γ, I⟩ := I
    exact ca_pay I hK
  obtain ⟨y, g, g2, e1, e2, mc, ms, d1, d2, d3, d4, Tx, T, kM, G⟩ := W
  refine j_aload1 (pc := 538) dL_law_538 ?_
  refine j_aload0 (pc := 539) dL_law_539 ?_
  refine j_iload3 (pc := 540) dL_law_540 ?_
  refine j_iconst (pc := 541) (v := nI 1) dL_law_541 (by decide) ?_
  refine j_iaddN (pc := 542) dL_law_542 ?_
  refine j_sald (pc := 543) hb (so_in (k := 1) hi (by decide) hL) dL_law_543 ?_
  refine j_aload0 (pc := 544) dL_law_544 ?_
  refine j_iload3 (pc := 545) dL_law_545 ?_
  refine j_iconst (pc := 546) (v := nI 2) dL_law_546 (by decide) ?_
  refine j_iaddN (pc := 547) dL_law_547 ?_
  refine j_sald (pc := 548) hb (so_in (k := 2) hi (by decide) hL) dL_law_548 ?_
  refine j_aload0 (pc := 549) dL_law_549 ?_
  refine j_iload3 (pc := 550) dL_law_550 ?_
  refine j_iconst (pc := 551) (v := nI 3) dL_law_551 (by decide) ?_
  refine j_iaddN (pc := 552) dL_law_552 ?_
  refine j_sald (pc := 553) hb (so_in (k := 3) hi (by decide) hL) dL_law_553 ?_
  refine cs_L_57 (pc := 554) rfl Tx (gx_X I) dL_law_554 rfl (rok9 d1) (Nat.le_trans d3 (by omega)) (Nat.le_trans d4 (by omega)) (fun v h2 q => ?_)
  rw [q.1, q.2]
  refine j_aload2 (pc := 557) dL_law_557 ?_
  refine j_aload0 (pc := 558) dL_law_558 ?_
  refine j_iload3 (pc := 559) dL_law_559 ?_
  refine j_iconst (pc := 560) (v := nI 1) dL_law_560 (by decide) ?_
  refine j_iaddN (pc := 561) dL_law_561 ?_
  refine j_sald (pc := 562) hb (so_in (k := 1) hi (by decide) hL) dL_law_562 ?_
  refine j_aload0 (pc := 563) dL_law_563 ?_
  refine j_iload3 (pc := 564) dL_law_564 ?_
  refine j_iconst (pc := 565) (v := nI 2) dL_law_565 (by decide) ?_
  refine j_iaddN (pc := 566) dL_law_566 ?_
  refine j_sald (pc := 567) hb (so_in (k := 2) hi (by decide) hL) dL_law_567 ?_
  refine j_aload0 (pc := 568) dL_law_568 ?_
  refine j_iload3 (pc := 569) dL_law_569 ?_
  refine j_iconst (pc := 570) (v := nI 3) dL_law_570 (by decide) ?_
  refine j_iaddN (pc := 571) dL_law_571 ?_
  refine j_sald (pc := 572) hb (so_in (k := 3) hi (by decide) hL) dL_law_572 ?_
  refine ce_L_60 (pc := 573) rfl T kM dL_law_573 rfl (rok9 d2) (fun v h2 q => ?_)
  rw [q.1, q.2]
  refine j_icmp_eq (pc := 576) (tgt := 1273) dL_law_576 (by decide) (fun _ => J.mono (next g2 G) (fun _ _ q => q) (by omega) (by omega)) (fun z => absurd rfl z)
theorem lw_c11 (I : GX h X M K) (hK : K < 512) (hb : cx.2.2.2.2.1 < cx.base) (hi : i + 5 ≤ cx.2.2.2.2.2.1) (hL : cx.2.2.2.2.2.1 ≤ 2560) (next : ∀ g, GX g X M (K + 1) → J cx (mLn nm) room_1 g 1273 (lcl cx X M i) [] (600 * (511 - K)) (5000 * (511 - K)) Q) : J cx (mLn nm) room_1 h 581 (lcl cx X M i) [] (600 * (512 - K)) (5000 * (512 - K)) Q := by
  have W : Cal cx mX4_came mX5_came h [.int (xk cx i 1), .int (xk cx i 2)] X M K := by
    obtain ⟨ow, n, C, m, Aof, Γ, I⟩ := I
    exact ca_came I hK
  obtain ⟨y, g, g2, e1, e2, mc, ms, d1, d2, d3, d4, Tx, T, kM, G⟩ := W
  refine j_aload1 (pc := 581) dL_law_581 ?_
  refine j_aload0 (pc := 582) dL_law_582 ?_
  refine j_iload3 (pc := 583) dL_law_583 ?_
  refine j_iconst (pc := 584) (v := nI 1) dL_law_584 (by decide) ?_
  refine j_iaddN (pc := 585) dL_law_585 ?_
  refine j_sald (pc := 586) hb (so_in (k := 1) hi (by decide) hL) dL_law_586 ?_
  refine j_aload0 (pc := 587) dL_law_587 ?_
  refine j_iload3 (pc := 588) dL_law_588 ?_
  refine j_iconst (pc := 589) (v := nI 2) dL_law_589 (by decide) ?_
  refine j_iaddN (pc := 590) dL_law_590 ?_
  refine j_sald (pc := 591) hb (so_in (k := 2) hi (by decide) hL) dL_law_591 ?_
  refine cs_L_61 (pc := 592) rfl Tx (gx_X I) dL_law_592 rfl (rok9 d1) (Nat.le_trans d3 (by omega)) (Nat.le_trans d4 (by omega)) (fun v h2 q => ?_)
  rw [q.1, q.2]
  refine j_aload2 (pc := 595) dL_law_595 ?_
  refine j_aload0 (pc := 596) dL_law_596 ?_
  refine j_iload3 (pc := 597) dL_law_597 ?_
  refine j_iconst (pc := 598) (v := nI 1) dL_law_598 (by decide) ?_
  refine j_iaddN (pc := 599) dL_law_599 ?_
  refine j_sald (pc := 600) hb (so_in (k := 1) hi (by decide) hL) dL_law_600 ?_
  refine j_aload0 (pc := 601) dL_law_601 ?_
  refine j_iload3 (pc := 602) dL_law_602 ?_
  refine j_iconst (pc := 603) (v := nI 2) dL_law_603 (by decide) ?_
  refine j_iaddN (pc := 604) dL_law_604 ?_
  refine j_sald (pc := 605) hb (so_in (k := 2) hi (by decide) hL) dL_law_605 ?_
  refine ce_L_64 (pc := 606) rfl T kM dL_law_606 rfl (rok9 d2) (fun v h2 q => ?_)
  rw [q.1, q.2]
  refine j_icmp_eq (pc := 609) (tgt := 1273) dL_law_609 (by decide) (fun _ => J.mono (next g2 G) (fun _ _ q => q) (by omega) (by omega)) (fun z => absurd rfl z)
theorem lw_c12 (I : GX h X M K) (hK : K < 512) (hb : cx.2.2.2.2.1 < cx.base) (hi : i + 5 ≤ cx.2.2.2.2.2.1) (hL : cx.2.2.2.2.2.1 ≤ 2560) (next : ∀ g, GX g X M (K + 1) → J cx (mLn nm) room_1 g 1273 (lcl cx X M i) [] (600 * (511 - K)) (5000 * (511 - K)) Q) : J cx (mLn nm) room_1 h 614 (lcl cx X M i) [] (600 * (512 - K)) (5000 * (512 - K)) Q := by
  have W : Cal cx mX4_late mX5_late h [.int (xk cx i 1), .int (xk cx i 2)] X M K := by
    obtain ⟨ow, n, C, m, Aof, Γ, I⟩ := I
    exact ca_late I hK
  obtain ⟨y, g, g2, e1, e2, mc, ms, d1, d2, d3, d4, Tx, T, kM, G⟩ := W
  refine j_aload1 (pc := 614) dL_law_614 ?_
  refine j_aload0 (pc := 615) dL_law_615 ?_
  refine j_iload3 (pc := 616) dL_law_616 ?_
  refine j_iconst (pc := 617) (v := nI 1) dL_law_617 (by decide) ?_
  refine j_iaddN (pc := 618) dL_law_618 ?_
  refine j_sald (pc := 619) hb (so_in (k := 1) hi (by decide) hL) dL_law_619 ?_
  refine j_aload0 (pc := 620) dL_law_620 ?_
  refine j_iload3 (pc := 621) dL_law_621 ?_
  refine j_iconst (pc := 622) (v := nI 2) dL_law_622 (by decide) ?_
  refine j_iaddN (pc := 623) dL_law_623 ?_
  refine j_sald (pc := 624) hb (so_in (k := 2) hi (by decide) hL) dL_law_624 ?_
  refine cs_L_65 (pc := 625) rfl Tx (gx_X I) dL_law_625 rfl (rok9 d1) (Nat.le_trans d3 (by omega)) (Nat.le_trans d4 (by omega)) (fun v h2 q => ?_)
  rw [q.1, q.2]
  refine j_aload2 (pc := 628) dL_law_628 ?_
  refine j_aload0 (pc := 629) dL_law_629 ?_
  refine j_iload3 (pc := 630) dL_law_630 ?_
  refine j_iconst (pc := 631) (v := nI 1) dL_law_631 (by decide) ?_
  refine j_iaddN (pc := 632) dL_law_632 ?_
  refine j_sald (pc := 633) hb (so_in (k := 1) hi (by decide) hL) dL_law_633 ?_
  refine j_aload0 (pc := 634) dL_law_634 ?_
  refine j_iload3 (pc := 635) dL_law_635 ?_
  refine j_iconst (pc := 636) (v := nI 2) dL_law_636 (by decide) ?_
  refine j_iaddN (pc := 637) dL_law_637 ?_
  refine j_sald (pc := 638) hb (so_in (k := 2) hi (by decide) hL) dL_law_638 ?_
  refine ce_L_68 (pc := 639) rfl T kM dL_law_639 rfl (rok9 d2) (fun v h2 q => ?_)
  rw [q.1, q.2]
  refine j_icmp_eq (pc := 642) (tgt := 1273) dL_law_642 (by decide) (fun _ => J.mono (next g2 G) (fun _ _ q => q) (by omega) (by omega)) (fun z => absurd rfl z)
theorem lw_c13 (I : GX h X M K) (hK : K < 512) (hb : cx.2.2.2.2.1 < cx.base) (hi : i + 5 ≤ cx.2.2.2.2.2.1) (hL : cx.2.2.2.2.2.1 ≤ 2560) (next : ∀ g, GX g X M (K + 1) → J cx (mLn nm) room_1 g 1273 (lcl cx X M i) [] (600 * (511 - K)) (5000 * (511 - K)) Q) : J cx (mLn nm) room_1 h 647 (lcl cx X M i) [] (600 * (512 - K)) (5000 * (512 - K)) Q := by
  have W : Cal cx mX4_bid mX5_bid h [.int (xk cx i 1), .int (xk cx i 2), .long (lk (xk cx i 3) (xk cx i 4))] X M K := by
    obtain ⟨ow, n, C, m, Aof, Γ, I⟩ := I
    exact ca_bid I hK
  obtain ⟨y, g, g2, e1, e2, mc, ms, d1, d2, d3, d4, Tx, T, kM, G⟩ := W
  refine j_aload1 (pc := 647) dL_law_647 ?_
  refine j_aload0 (pc := 648) dL_law_648 ?_
  refine j_iload3 (pc := 649) dL_law_649 ?_
  refine j_iconst (pc := 650) (v := nI 1) dL_law_650 (by decide) ?_
  refine j_iaddN (pc := 651) dL_law_651 ?_
  refine j_sald (pc := 652) hb (so_in (k := 1) hi (by decide) hL) dL_law_652 ?_
  refine j_aload0 (pc := 653) dL_law_653 ?_
  refine j_iload3 (pc := 654) dL_law_654 ?_
  refine j_iconst (pc := 655) (v := nI 2) dL_law_655 (by decide) ?_
  refine j_iaddN (pc := 656) dL_law_656 ?_
  refine j_sald (pc := 657) hb (so_in (k := 2) hi (by decide) hL) dL_law_657 ?_
  refine j_aload0 (pc := 658) dL_law_658 ?_
  refine j_iload3 (pc := 659) dL_law_659 ?_
  refine j_iconst (pc := 660) (v := nI 3) dL_law_660 (by decide) ?_
  refine j_iaddN (pc := 661) dL_law_661 ?_
  refine j_sald (pc := 662) hb (so_in (k := 3) hi (by decide) hL) dL_law_662 ?_
  refine j_i2l (pc := 663) dL_law_663 ?_
  refine j_bipush (pc := 664) (v := 32) dL_law_664 (by decide) ?_
  refine j_lshl (pc := 666) dL_law_666 ?_
  refine j_aload0 (pc := 667) dL_law_667 ?_
  refine j_iload3 (pc := 668) dL_law_668 ?_
  refine j_iconst (pc := 669) (v := nI 4) dL_law_669 (by decide) ?_
  refine j_iaddN (pc := 670) dL_law_670 ?_
  refine j_sald (pc := 671) hb (so_in (k := 4) hi (by decide) hL) dL_law_671 ?_
  refine j_i2l (pc := 672) dL_law_672 ?_
  refine j_ldc2 (pc := 673) dL_law_673 wT_kl_L_69 ?_
  refine j_land (pc := 676) dL_law_676 ?_
  refine j_lor (pc := 677) dL_law_677 ?_
  refine cs_L_71 (pc := 678) rfl Tx (gx_X I) dL_law_678 rfl (rok9 d1) (Nat.le_trans d3 (by omega)) (Nat.le_trans d4 (by omega)) (fun v h2 q => ?_)
  rw [q.1, q.2]
  refine j_aload2 (pc := 681) dL_law_681 ?_
  refine j_aload0 (pc := 682) dL_law_682 ?_
  refine j_iload3 (pc := 683) dL_law_683 ?_
  refine j_iconst (pc := 684) (v := nI 1) dL_law_684 (by decide) ?_
  refine j_iaddN (pc := 685) dL_law_685 ?_
  refine j_sald (pc := 686) hb (so_in (k := 1) hi (by decide) hL) dL_law_686 ?_
  refine j_aload0 (pc := 687) dL_law_687 ?_
  refine j_iload3 (pc := 688) dL_law_688 ?_
  refine j_iconst (pc := 689) (v := nI 2) dL_law_689 (by decide) ?_
  refine j_iaddN (pc := 690) dL_law_690 ?_
  refine j_sald (pc := 691) hb (so_in (k := 2) hi (by decide) hL) dL_law_691 ?_
  refine j_aload0 (pc := 692) dL_law_692 ?_
  refine j_iload3 (pc := 693) dL_law_693 ?_
  refine j_iconst (pc := 694) (v := nI 3) dL_law_694 (by decide) ?_
  refine j_iaddN (pc := 695) dL_law_695 ?_
  refine j_sald (pc := 696) hb (so_in (k := 3) hi (by decide) hL) dL_law_696 ?_
  refine j_i2l (pc := 697) dL_law_697 ?_
  refine j_bipush (pc := 698) (v := 32) dL_law_698 (by decide) ?_
  refine j_lshl (pc := 700) dL_law_700 ?_
  refine j_aload0 (pc := 701) dL_law_701 ?_
  refine j_iload3 (pc := 702) dL_law_702 ?_
  refine j_iconst (pc := 703) (v := nI 4) dL_law_703 (by decide) ?_
  refine j_iaddN (pc := 704) dL_law_704 ?_
  refine j_sald (pc := 705) hb (so_in (k := 4) hi (by decide) hL) dL_law_705 ?_
  refine j_i2l (pc := 706) dL_law_706 ?_
  refine j_ldc2 (pc := 707) dL_law_707 wT_kl_L_69 ?_
  refine j_land (pc := 710) dL_law_710 ?_
  refine j_lor (pc := 711) dL_law_711 ?_
  refine ce_L_75 (pc := 712) rfl T kM dL_law_712 rfl (rok9 d2) (fun v h2 q => ?_)
  rw [q.1, q.2]
  refine j_icmp_eq (pc := 715) (tgt := 1273) dL_law_715 (by decide) (fun _ => J.mono (next g2 G) (fun _ _ q => q) (by omega) (by omega)) (fun z => absurd rfl z)
theorem lw_c14 (I : GX h X M K) (hK : K < 512) (hb : cx.2.2.2.2.1 < cx.base) (hi : i + 5 ≤ cx.2.2.2.2.2.1) (hL : cx.2.2.2.2.2.1 ≤ 2560) (next : ∀ g, GX g X M (K + 1) → J cx (mLn nm) room_1 g 1273 (lcl cx X M i) [] (600 * (511 - K)) (5000 * (511 - K)) Q) : J cx (mLn nm) room_1 h 720 (lcl cx X M i) [] (600 * (512 - K)) (5000 * (512 - K)) Q := by
  have W : Cal cx mX4_need mX5_need h [.int (xk cx i 1), .int (xk cx i 2)] X M K := by
    obtain ⟨ow, n, C, m, Aof, Γ, I⟩ := I
    exact ca_need I hK
  obtain ⟨y, g, g2, e1, e2, mc, ms, d1, d2, d3, d4, Tx, T, kM, G⟩ := W
  refine j_aload1 (pc := 720) dL_law_720 ?_
  refine j_aload0 (pc := 721) dL_law_721 ?_
  refine j_iload3 (pc := 722) dL_law_722 ?_
  refine j_iconst (pc := 723) (v := nI 1) dL_law_723 (by decide) ?_
  refine j_iaddN (pc := 724) dL_law_724 ?_
  refine j_sald (pc := 725) hb (so_in (k := 1) hi (by decide) hL) dL_law_725 ?_
  refine j_aload0 (pc := 726) dL_law_726 ?_
  refine j_iload3 (pc := 727) dL_law_727 ?_
  refine j_iconst (pc := 728) (v := nI 2) dL_law_728 (by decide) ?_
  refine j_iaddN (pc := 729) dL_law_729 ?_
  refine j_sald (pc := 730) hb (so_in (k := 2) hi (by decide) hL) dL_law_730 ?_
  refine cs_L_76 (pc := 731) rfl Tx (gx_X I) dL_law_731 rfl (rok9 d1) (Nat.le_trans d3 (by omega)) (Nat.le_trans d4 (by omega)) (fun v h2 q => ?_)
  rw [q.1, q.2]
  refine j_aload2 (pc := 734) dL_law_734 ?_
  refine j_aload0 (pc := 735) dL_law_735 ?_
  refine j_iload3 (pc := 736) dL_law_736 ?_
  refine j_iconst (pc := 737) (v := nI 1) dL_law_737 (by decide) ?_
  refine j_iaddN (pc := 738) dL_law_738 ?_
  refine j_sald (pc := 739) hb (so_in (k := 1) hi (by decide) hL) dL_law_739 ?_
  refine j_aload0 (pc := 740) dL_law_740 ?_
  refine j_iload3 (pc := 741) dL_law_741 ?_
  refine j_iconst (pc := 742) (v := nI 2) dL_law_742 (by decide) ?_
  refine j_iaddN (pc := 743) dL_law_743 ?_
  refine j_sald (pc := 744) hb (so_in (k := 2) hi (by decide) hL) dL_law_744 ?_
  refine ce_L_79 (pc := 745) rfl T kM dL_law_745 rfl (rok9 d2) (fun v h2 q => ?_)
  rw [q.1, q.2]
  refine j_icmp_eq (pc := 748) (tgt := 1273) dL_law_748 (by decide) (fun _ => J.mono (next g2 G) (fun _ _ q => q) (by omega) (by omega)) (fun z => absurd rfl z)
theorem lw_c15 (I : GX h X M K) (hK : K < 512) (hb : cx.2.2.2.2.1 < cx.base) (hi : i + 5 ≤ cx.2.2.2.2.2.1) (hL : cx.2.2.2.2.2.1 ≤ 2560) (next : ∀ g, GX g X M (K + 1) → J cx (mLn nm) room_1 g 1273 (lcl cx X M i) [] (600 * (511 - K)) (5000 * (511 - K)) Q) : J cx (mLn nm) room_1 h 753 (lcl cx X M i) [] (600 * (512 - K)) (5000 * (512 - K)) Q := by
  have W : Cal cx mX4_yes mX5_yes h [.int (xk cx i 1), .int (xk cx i 2)] X M K := by
    obtain ⟨ow, n, C, m, Aof, Γ, I⟩ := I
    exact ca_yes I hK
  obtain ⟨y, g, g2, e1, e2, mc, ms, d1, d2, d3, d4, Tx, T, kM, G⟩ := W
  refine j_aload1 (pc := 753) dL_law_753 ?_
  refine j_aload0 (pc := 754) dL_law_754 ?_
  refine j_iload3 (pc := 755) dL_law_755 ?_
  refine j_iconst (pc := 756) (v := nI 1) dL_law_756 (by decide) ?_
  refine j_iaddN (pc := 757) dL_law_757 ?_
  refine j_sald (pc := 758) hb (so_in (k := 1) hi (by decide) hL) dL_law_758 ?_
  refine j_aload0 (pc := 759) dL_law_759 ?_
  refine j_iload3 (pc := 760) dL_law_760 ?_
  refine j_iconst (pc := 761) (v := nI 2) dL_law_761 (by decide) ?_
  refine j_iaddN (pc := 762) dL_law_762 ?_
  refine j_sald (pc := 763) hb (so_in (k := 2) hi (by decide) hL) dL_law_763 ?_
  refine cs_L_80 (pc := 764) rfl Tx (gx_X I) dL_law_764 rfl (rok9 d1) (Nat.le_trans d3 (by omega)) (Nat.le_trans d4 (by omega)) (fun v h2 q => ?_)
  rw [q.1, q.2]
  refine j_aload2 (pc := 767) dL_law_767 ?_
  refine j_aload0 (pc := 768) dL_law_768 ?_
  refine j_iload3 (pc := 769) dL_law_769 ?_
  refine j_iconst (pc := 770) (v := nI 1) dL_law_770 (by decide) ?_
  refine j_iaddN (pc := 771) dL_law_771 ?_
  refine j_sald (pc := 772) hb (so_in (k := 1) hi (by decide) hL) dL_law_772 ?_
  refine j_aload0 (pc := 773) dL_law_773 ?_
  refine j_iload3 (pc := 774) dL_law_774 ?_
  refine j_iconst (pc := 775) (v := nI 2) dL_law_775 (by decide) ?_
  refine j_iaddN (pc := 776) dL_law_776 ?_
  refine j_sald (pc := 777) hb (so_in (k := 2) hi (by decide) hL) dL_law_777 ?_
  refine ce_L_83 (pc := 778) rfl T kM dL_law_778 rfl (rok9 d2) (fun v h2 q => ?_)
  rw [q.1, q.2]
  refine j_icmp_eq (pc := 781) (tgt := 1273) dL_law_781 (by decide) (fun _ => J.mono (next g2 G) (fun _ _ q => q) (by omega) (by omega)) (fun z => absurd rfl z)
theorem lw_c16 (I : GX h X M K) (hK : K < 512) (hb : cx.2.2.2.2.1 < cx.base) (hi : i + 5 ≤ cx.2.2.2.2.2.1) (hL : cx.2.2.2.2.2.1 ≤ 2560) (next : ∀ g, GX g X M (K + 1) → J cx (mLn nm) room_1 g 1273 (lcl cx X M i) [] (600 * (511 - K)) (5000 * (511 - K)) Q) : J cx (mLn nm) room_1 h 786 (lcl cx X M i) [] (600 * (512 - K)) (5000 * (512 - K)) Q := by
  have W : Cal cx mX4_draw mX5_draw h [.int (xk cx i 1)] X M K := by
    obtain ⟨ow, n, C, m, Aof, Γ, I⟩ := I
    exact ca_draw I hK
  obtain ⟨y, g, g2, e1, e2, mc, ms, d1, d2, d3, d4, Tx, T, kM, G⟩ := W
  refine j_aload1 (pc := 786) dL_law_786 ?_
  refine j_aload0 (pc := 787) dL_law_787 ?_
  refine j_iload3 (pc := 788) dL_law_788 ?_
  refine j_iconst (pc := 789) (v := nI 1) dL_law_789 (by decide) ?_
  refine j_iaddN (pc := 790) dL_law_790 ?_
  refine j_sald (pc := 791) hb (so_in (k := 1) hi (by decide) hL) dL_law_791 ?_
  refine cs_L_84 (pc := 792) rfl Tx (gx_X I) dL_law_792 rfl (rok9 d1) (Nat.le_trans d3 (by omega)) (Nat.le_trans d4 (by omega)) (fun v h2 q => ?_)
  rw [q.1, q.2]
  refine j_aload2 (pc := 795) dL_law_795 ?_
  refine j_aload0 (pc := 796) dL_law_796 ?_
  refine j_iload3 (pc := 797) dL_law_797 ?_
  refine j_iconst (pc := 798) (v := nI 1) dL_law_798 (by decide) ?_
  refine j_iaddN (pc := 799) dL_law_799 ?_
  refine j_sald (pc := 800) hb (so_in (k := 1) hi (by decide) hL) dL_law_800 ?_
  refine ce_L_87 (pc := 801) rfl T kM dL_law_801 rfl (rok9 d2) (fun v h2 q => ?_)
  rw [q.1, q.2]
  refine j_icmp_eq (pc := 804) (tgt := 1273) dL_law_804 (by decide) (fun _ => J.mono (next g2 G) (fun _ _ q => q) (by omega) (by omega)) (fun z => absurd rfl z)
theorem lw_c17 (I : GX h X M K) (hK : K < 512) (hb : cx.2.2.2.2.1 < cx.base) (hi : i + 5 ≤ cx.2.2.2.2.2.1) (hL : cx.2.2.2.2.2.1 ≤ 2560) (next : ∀ g, GX g X M (K + 1) → J cx (mLn nm) room_1 g 1273 (lcl cx X M i) [] (600 * (511 - K)) (5000 * (511 - K)) Q) : J cx (mLn nm) room_1 h 809 (lcl cx X M i) [] (600 * (512 - K)) (5000 * (512 - K)) Q := by
  have W : CalL cx mX4_drawn mX5_drawn h [.int (xk cx i 1), .int (xk cx i 2), .int (xk cx i 3)] X M K := by
    obtain ⟨ow, n, C, m, Aof, Γ, I⟩ := I
    exact ca_drawn I hK
  obtain ⟨y, g, g2, e1, e2, mc, ms, d1, d2, d3, d4, Tx, T, kM, G⟩ := W
  refine j_aload1 (pc := 809) dL_law_809 ?_
  refine j_aload0 (pc := 810) dL_law_810 ?_
  refine j_iload3 (pc := 811) dL_law_811 ?_
  refine j_iconst (pc := 812) (v := nI 1) dL_law_812 (by decide) ?_
  refine j_iaddN (pc := 813) dL_law_813 ?_
  refine j_sald (pc := 814) hb (so_in (k := 1) hi (by decide) hL) dL_law_814 ?_
  refine j_aload0 (pc := 815) dL_law_815 ?_
  refine j_iload3 (pc := 816) dL_law_816 ?_
  refine j_iconst (pc := 817) (v := nI 2) dL_law_817 (by decide) ?_
  refine j_iaddN (pc := 818) dL_law_818 ?_
  refine j_sald (pc := 819) hb (so_in (k := 2) hi (by decide) hL) dL_law_819 ?_
  refine j_aload0 (pc := 820) dL_law_820 ?_
  refine j_iload3 (pc := 821) dL_law_821 ?_
  refine j_iconst (pc := 822) (v := nI 3) dL_law_822 (by decide) ?_
  refine j_iaddN (pc := 823) dL_law_823 ?_
  refine j_sald (pc := 824) hb (so_in (k := 3) hi (by decide) hL) dL_law_824 ?_
  refine cs_L_88 (pc := 825) rfl Tx (gx_X I) dL_law_825 rfl (rok9 d1) (Nat.le_trans d3 (by omega)) (Nat.le_trans d4 (by omega)) (fun v h2 q => ?_)
  rw [q.1, q.2]
  refine j_aload2 (pc := 828) dL_law_828 ?_
  refine j_aload0 (pc := 829) dL_law_829 ?_
  refine j_iload3 (pc := 830) dL_law_830 ?_
  refine j_iconst (pc := 831) (v := nI 1) dL_law_831 (by decide) ?_
  refine j_iaddN (pc := 832) dL_law_832 ?_
  refine j_sald (pc := 833) hb (so_in (k := 1) hi (by decide) hL) dL_law_833 ?_
  refine j_aload0 (pc := 834) dL_law_834 ?_
  refine j_iload3 (pc := 835) dL_law_835 ?_
  refine j_iconst (pc := 836) (v := nI 2) dL_law_836 (by decide) ?_
  refine j_iaddN (pc := 837) dL_law_837 ?_
  refine j_sald (pc := 838) hb (so_in (k := 2) hi (by decide) hL) dL_law_838 ?_
  refine j_aload0 (pc := 839) dL_law_839 ?_
  refine j_iload3 (pc := 840) dL_law_840 ?_
  refine j_iconst (pc := 841) (v := nI 3) dL_law_841 (by decide) ?_
  refine j_iaddN (pc := 842) dL_law_842 ?_
  refine j_sald (pc := 843) hb (so_in (k := 3) hi (by decide) hL) dL_law_843 ?_
  refine ce_L_92 (pc := 844) rfl T kM dL_law_844 rfl (rok9 d2) (fun v h2 q => ?_)
  rw [q.1, q.2]
  refine j_lcmp_eq (pc := 847) (tgt := 1273) dL_law_847 dL_law_848 (by decide) (fun _ => J.mono (next g2 G) (fun _ _ q => q) (by omega) (by omega)) (fun z => absurd rfl z)
theorem lw_c18 (I : GX h X M K) (hK : K < 512) (hb : cx.2.2.2.2.1 < cx.base) (hi : i + 5 ≤ cx.2.2.2.2.2.1) (hL : cx.2.2.2.2.2.1 ≤ 2560) (next : ∀ g, GX g X M (K + 1) → J cx (mLn nm) room_1 g 1273 (lcl cx X M i) [] (600 * (511 - K)) (5000 * (511 - K)) Q) : J cx (mLn nm) room_1 h 853 (lcl cx X M i) [] (600 * (512 - K)) (5000 * (512 - K)) Q := by
  have W : Cal cx mX4_stop mX5_stop h [.int (xk cx i 1), .int (xk cx i 2)] X M K := by
    obtain ⟨ow, n, C, m, Aof, Γ, I⟩ := I
    exact ca_stop I hK
  obtain ⟨y, g, g2, e1, e2, mc, ms, d1, d2, d3, d4, Tx, T, kM, G⟩ := W
  refine j_aload1 (pc := 853) dL_law_853 ?_
  refine j_aload0 (pc := 854) dL_law_854 ?_
  refine j_iload3 (pc := 855) dL_law_855 ?_
  refine j_iconst (pc := 856) (v := nI 1) dL_law_856 (by decide) ?_
  refine j_iaddN (pc := 857) dL_law_857 ?_
  refine j_sald (pc := 858) hb (so_in (k := 1) hi (by decide) hL) dL_law_858 ?_
  refine j_aload0 (pc := 859) dL_law_859 ?_
  refine j_iload3 (pc := 860) dL_law_860 ?_
  refine j_iconst (pc := 861) (v := nI 2) dL_law_861 (by decide) ?_
  refine j_iaddN (pc := 862) dL_law_862 ?_
  refine j_sald (pc := 863) hb (so_in (k := 2) hi (by decide) hL) dL_law_863 ?_
  refine cs_L_93 (pc := 864) rfl Tx (gx_X I) dL_law_864 rfl (rok9 d1) (Nat.le_trans d3 (by omega)) (Nat.le_trans d4 (by omega)) (fun v h2 q => ?_)
  rw [q.1, q.2]
  refine j_aload2 (pc := 867) dL_law_867 ?_
  refine j_aload0 (pc := 868) dL_law_868 ?_
  refine j_iload3 (pc := 869) dL_law_869 ?_
  refine j_iconst (pc := 870) (v := nI 1) dL_law_870 (by decide) ?_
  refine j_iaddN (pc := 871) dL_law_871 ?_
  refine j_sald (pc := 872) hb (so_in (k := 1) hi (by decide) hL) dL_law_872 ?_
  refine j_aload0 (pc := 873) dL_law_873 ?_
  refine j_iload3 (pc := 874) dL_law_874 ?_
  refine j_iconst (pc := 875) (v := nI 2) dL_law_875 (by decide) ?_
  refine j_iaddN (pc := 876) dL_law_876 ?_
  refine j_sald (pc := 877) hb (so_in (k := 2) hi (by decide) hL) dL_law_877 ?_
  refine ce_L_96 (pc := 878) rfl T kM dL_law_878 rfl (rok9 d2) (fun v h2 q => ?_)
  rw [q.1, q.2]
  refine j_icmp_eq (pc := 881) (tgt := 1273) dL_law_881 (by decide) (fun _ => J.mono (next g2 G) (fun _ _ q => q) (by omega) (by omega)) (fun z => absurd rfl z)
theorem lw_c19 (I : GX h X M K) (hK : K < 512) (hb : cx.2.2.2.2.1 < cx.base) (hi : i + 5 ≤ cx.2.2.2.2.2.1) (hL : cx.2.2.2.2.2.1 ≤ 2560) (next : ∀ g, GX g X M (K + 1) → J cx (mLn nm) room_1 g 1273 (lcl cx X M i) [] (600 * (511 - K)) (5000 * (511 - K)) Q) : J cx (mLn nm) room_1 h 886 (lcl cx X M i) [] (600 * (512 - K)) (5000 * (512 - K)) Q := by
  have W : Cal cx mX4_replace mX5_replace h [.int (xk cx i 1), .int (xk cx i 2), .int (xk cx i 3)] X M K := by
    obtain ⟨ow, n, C, m, Aof, Γ, I⟩ := I
    exact ca_replace I hK
  obtain ⟨y, g, g2, e1, e2, mc, ms, d1, d2, d3, d4, Tx, T, kM, G⟩ := W
  refine j_aload1 (pc := 886) dL_law_886 ?_
  refine j_aload0 (pc := 887) dL_law_887 ?_
  refine j_iload3 (pc := 888) dL_law_888 ?_
  refine j_iconst (pc := 889) (v := nI 1) dL_law_889 (by decide) ?_
  refine j_iaddN (pc := 890) dL_law_890 ?_
  refine j_sald (pc := 891) hb (so_in (k := 1) hi (by decide) hL) dL_law_891 ?_
  refine j_aload0 (pc := 892) dL_law_892 ?_
  refine j_iload3 (pc := 893) dL_law_893 ?_
  refine j_iconst (pc := 894) (v := nI 2) dL_law_894 (by decide) ?_
  refine j_iaddN (pc := 895) dL_law_895 ?_
  refine j_sald (pc := 896) hb (so_in (k := 2) hi (by decide) hL) dL_law_896 ?_
  refine j_aload0 (pc := 897) dL_law_897 ?_
  refine j_iload3 (pc := 898) dL_law_898 ?_
  refine j_iconst (pc := 899) (v := nI 3) dL_law_899 (by decide) ?_
  refine j_iaddN (pc := 900) dL_law_900 ?_
  refine j_sald (pc := 901) hb (so_in (k := 3) hi (by decide) hL) dL_law_901 ?_
  refine cs_L_97 (pc := 902) rfl Tx (gx_X I) dL_law_902 rfl (rok9 d1) (Nat.le_trans d3 (by omega)) (Nat.le_trans d4 (by omega)) (fun v h2 q => ?_)
  rw [q.1, q.2]
  refine j_aload2 (pc := 905) dL_law_905 ?_
  refine j_aload0 (pc := 906) dL_law_906 ?_
  refine j_iload3 (pc := 907) dL_law_907 ?_
  refine j_iconst (pc := 908) (v := nI 1) dL_law_908 (by decide) ?_
  refine j_iaddN (pc := 909) dL_law_909 ?_
  refine j_sald (pc := 910) hb (so_in (k := 1) hi (by decide) hL) dL_law_910 ?_
  refine j_aload0 (pc := 911) dL_law_911 ?_
  refine j_iload3 (pc := 912) dL_law_912 ?_
  refine j_iconst (pc := 913) (v := nI 2) dL_law_913 (by decide) ?_
  refine j_iaddN (pc := 914) dL_law_914 ?_
  refine j_sald (pc := 915) hb (so_in (k := 2) hi (by decide) hL) dL_law_915 ?_
  refine j_aload0 (pc := 916) dL_law_916 ?_
  refine j_iload3 (pc := 917) dL_law_917 ?_
  refine j_iconst (pc := 918) (v := nI 3) dL_law_918 (by decide) ?_
  refine j_iaddN (pc := 919) dL_law_919 ?_
  refine j_sald (pc := 920) hb (so_in (k := 3) hi (by decide) hL) dL_law_920 ?_
  refine ce_L_100 (pc := 921) rfl T kM dL_law_921 rfl (rok9 d2) (fun v h2 q => ?_)
  rw [q.1, q.2]
  refine j_icmp_eq (pc := 924) (tgt := 1273) dL_law_924 (by decide) (fun _ => J.mono (next g2 G) (fun _ _ q => q) (by omega) (by omega)) (fun z => absurd rfl z)
theorem lw_c20 (I : GX h X M K) (hK : K < 512) (hb : cx.2.2.2.2.1 < cx.base) (hi : i + 5 ≤ cx.2.2.2.2.2.1) (hL : cx.2.2.2.2.2.1 ≤ 2560) (next : ∀ g, GX g X M (K + 1) → J cx (mLn nm) room_1 g 1273 (lcl cx X M i) [] (600 * (511 - K)) (5000 * (511 - K)) Q) : J cx (mLn nm) room_1 h 929 (lcl cx X M i) [] (600 * (512 - K)) (5000 * (512 - K)) Q := by
  have W : CalL cx mX4_stops mX5_stops h [.int (xk cx i 1), .int (xk cx i 2), .int (xk cx i 3)] X M K := by
    obtain ⟨ow, n, C, m, Aof, Γ, I⟩ := I
    exact ca_stops I hK
  obtain ⟨y, g, g2, e1, e2, mc, ms, d1, d2, d3, d4, Tx, T, kM, G⟩ := W
  refine j_aload1 (pc := 929) dL_law_929 ?_
  refine j_aload0 (pc := 930) dL_law_930 ?_
  refine j_iload3 (pc := 931) dL_law_931 ?_
  refine j_iconst (pc := 932) (v := nI 1) dL_law_932 (by decide) ?_
  refine j_iaddN (pc := 933) dL_law_933 ?_
  refine j_sald (pc := 934) hb (so_in (k := 1) hi (by decide) hL) dL_law_934 ?_
  refine j_aload0 (pc := 935) dL_law_935 ?_
  refine j_iload3 (pc := 936) dL_law_936 ?_
  refine j_iconst (pc := 937) (v := nI 2) dL_law_937 (by decide) ?_
  refine j_iaddN (pc := 938) dL_law_938 ?_
  refine j_sald (pc := 939) hb (so_in (k := 2) hi (by decide) hL) dL_law_939 ?_
  refine j_aload0 (pc := 940) dL_law_940 ?_
  refine j_iload3 (pc := 941) dL_law_941 ?_
  refine j_iconst (pc := 942) (v := nI 3) dL_law_942 (by decide) ?_
  refine j_iaddN (pc := 943) dL_law_943 ?_
  refine j_sald (pc := 944) hb (so_in (k := 3) hi (by decide) hL) dL_law_944 ?_
  refine cs_L_101 (pc := 945) rfl Tx (gx_X I) dL_law_945 rfl (rok9 d1) (Nat.le_trans d3 (by omega)) (Nat.le_trans d4 (by omega)) (fun v h2 q => ?_)
  rw [q.1, q.2]
  refine j_aload2 (pc := 948) dL_law_948 ?_
  refine j_aload0 (pc := 949) dL_law_949 ?_
  refine j_iload3 (pc := 950) dL_law_950 ?_
  refine j_iconst (pc := 951) (v := nI 1) dL_law_951 (by decide) ?_
  refine j_iaddN (pc := 952) dL_law_952 ?_
  refine j_sald (pc := 953) hb (so_in (k := 1) hi (by decide) hL) dL_law_953 ?_
  refine j_aload0 (pc := 954) dL_law_954 ?_
  refine j_iload3 (pc := 955) dL_law_955 ?_
  refine j_iconst (pc := 956) (v := nI 2) dL_law_956 (by decide) ?_
  refine j_iaddN (pc := 957) dL_law_957 ?_
  refine j_sald (pc := 958) hb (so_in (k := 2) hi (by decide) hL) dL_law_958 ?_
  refine j_aload0 (pc := 959) dL_law_959 ?_
  refine j_iload3 (pc := 960) dL_law_960 ?_
  refine j_iconst (pc := 961) (v := nI 3) dL_law_961 (by decide) ?_
  refine j_iaddN (pc := 962) dL_law_962 ?_
  refine j_sald (pc := 963) hb (so_in (k := 3) hi (by decide) hL) dL_law_963 ?_
  refine ce_L_104 (pc := 964) rfl T kM dL_law_964 rfl (rok9 d2) (fun v h2 q => ?_)
  rw [q.1, q.2]
  refine j_lcmp_eq (pc := 967) (tgt := 1273) dL_law_967 dL_law_968 (by decide) (fun _ => J.mono (next g2 G) (fun _ _ q => q) (by omega) (by omega)) (fun z => absurd rfl z)
theorem lw_c21 (I : GX h X M K) (hK : K < 512) (hb : cx.2.2.2.2.1 < cx.base) (hi : i + 5 ≤ cx.2.2.2.2.2.1) (hL : cx.2.2.2.2.2.1 ≤ 2560) (next : ∀ g, GX g X M (K + 1) → J cx (mLn nm) room_1 g 1273 (lcl cx X M i) [] (600 * (511 - K)) (5000 * (511 - K)) Q) : J cx (mLn nm) room_1 h 973 (lcl cx X M i) [] (600 * (512 - K)) (5000 * (512 - K)) Q := by
  have W : Cal cx mX4_close mX5_close h [.int (xk cx i 1)] X M K := by
    obtain ⟨ow, n, C, m, Aof, Γ, I⟩ := I
    exact ca_close I hK
  obtain ⟨y, g, g2, e1, e2, mc, ms, d1, d2, d3, d4, Tx, T, kM, G⟩ := W
  refine j_aload1 (pc := 973) dL_law_973 ?_
  refine j_aload0 (pc := 974) dL_law_974 ?_
  refine j_iload3 (pc := 975) dL_law_975 ?_
  refine j_iconst (pc := 976) (v := nI 1) dL_law_976 (by decide) ?_
  refine j_iaddN (pc := 977) dL_law_977 ?_
  refine j_sald (pc := 978) hb (so_in (k := 1) hi (by decide) hL) dL_law_978 ?_
  refine cs_L_105 (pc := 979) rfl Tx (gx_X I) dL_law_979 rfl (rok9 d1) (Nat.le_trans d3 (by omega)) (Nat.le_trans d4 (by omega)) (fun v h2 q => ?_)
  rw [q.1, q.2]
  refine j_aload2 (pc := 982) dL_law_982 ?_
  refine j_aload0 (pc := 983) dL_law_983 ?_
  refine j_iload3 (pc := 984) dL_law_984 ?_
  refine j_iconst (pc := 985) (v := nI 1) dL_law_985 (by decide) ?_
  refine j_iaddN (pc := 986) dL_law_986 ?_
  refine j_sald (pc := 987) hb (so_in (k := 1) hi (by decide) hL) dL_law_987 ?_
  refine ce_L_108 (pc := 988) rfl T kM dL_law_988 rfl (rok9 d2) (fun v h2 q => ?_)
  rw [q.1, q.2]
  refine j_icmp_eq (pc := 991) (tgt := 1273) dL_law_991 (by decide) (fun _ => J.mono (next g2 G) (fun _ _ q => q) (by omega) (by omega)) (fun z => absurd rfl z)
theorem lw_c22 (I : GX h X M K) (hK : K < 512) (hb : cx.2.2.2.2.1 < cx.base) (hi : i + 5 ≤ cx.2.2.2.2.2.1) (hL : cx.2.2.2.2.2.1 ≤ 2560) (next : ∀ g, GX g X M (K + 1) → J cx (mLn nm) room_1 g 1273 (lcl cx X M i) [] (600 * (511 - K)) (5000 * (511 - K)) Q) : J cx (mLn nm) room_1 h 996 (lcl cx X M i) [] (600 * (512 - K)) (5000 * (512 - K)) Q := by
  have W : Cal cx mX4_fair mX5_fair h [.int (xk cx i 1)] X M K := by
    obtain ⟨ow, n, C, m, Aof, Γ, I⟩ := I
    exact ca_fair I hK
  obtain ⟨y, g, g2, e1, e2, mc, ms, d1, d2, d3, d4, Tx, T, kM, G⟩ := W
  refine j_aload1 (pc := 996) dL_law_996 ?_
  refine j_aload0 (pc := 997) dL_law_997 ?_
  refine j_iload3 (pc := 998) dL_law_998 ?_
  refine j_iconst (pc := 999) (v := nI 1) dL_law_999 (by decide) ?_
  refine j_iaddN (pc := 1000) dL_law_1000 ?_
  refine j_sald (pc := 1001) hb (so_in (k := 1) hi (by decide) hL) dL_law_1001 ?_
  refine cs_L_109 (pc := 1002) rfl Tx (gx_X I) dL_law_1002 rfl (rok9 d1) (Nat.le_trans d3 (by omega)) (Nat.le_trans d4 (by omega)) (fun v h2 q => ?_)
  rw [q.1, q.2]
  refine j_aload2 (pc := 1005) dL_law_1005 ?_
  refine j_aload0 (pc := 1006) dL_law_1006 ?_
  refine j_iload3 (pc := 1007) dL_law_1007 ?_
  refine j_iconst (pc := 1008) (v := nI 1) dL_law_1008 (by decide) ?_
  refine j_iaddN (pc := 1009) dL_law_1009 ?_
  refine j_sald (pc := 1010) hb (so_in (k := 1) hi (by decide) hL) dL_law_1010 ?_
  refine ce_L_112 (pc := 1011) rfl T kM dL_law_1011 rfl (rok9 d2) (fun v h2 q => ?_)
  rw [q.1, q.2]
  refine j_icmp_eq (pc := 1014) (tgt := 1273) dL_law_1014 (by decide) (fun _ => J.mono (next g2 G) (fun _ _ q => q) (by omega) (by omega)) (fun z => absurd rfl z)
theorem lw_c23 (I : GX h X M K) (hK : K < 512) (hb : cx.2.2.2.2.1 < cx.base) (hi : i + 5 ≤ cx.2.2.2.2.2.1) (hL : cx.2.2.2.2.2.1 ≤ 2560) (next : ∀ g, GX g X M (K + 1) → J cx (mLn nm) room_1 g 1273 (lcl cx X M i) [] (600 * (511 - K)) (5000 * (511 - K)) Q) : J cx (mLn nm) room_1 h 1019 (lcl cx X M i) [] (600 * (512 - K)) (5000 * (512 - K)) Q := by
  have W : Cal cx mX4_undo mX5_undo h [.int (xk cx i 1)] X M K := by
    obtain ⟨ow, n, C, m, Aof, Γ, I⟩ := I
    exact ca_undo I hK
  obtain ⟨y, g, g2, e1, e2, mc, ms, d1, d2, d3, d4, Tx, T, kM, G⟩ := W
  refine j_aload1 (pc := 1019) dL_law_1019 ?_
  refine j_aload0 (pc := 1020) dL_law_1020 ?_
  refine j_iload3 (pc := 1021) dL_law_1021 ?_
  refine j_iconst (pc := 1022) (v := nI 1) dL_law_1022 (by decide) ?_
  refine j_iaddN (pc := 1023) dL_law_1023 ?_
  refine j_sald (pc := 1024) hb (so_in (k := 1) hi (by decide) hL) dL_law_1024 ?_
  refine cs_L_113 (pc := 1025) rfl Tx (gx_X I) dL_law_1025 rfl (rok9 d1) (Nat.le_trans d3 (by omega)) (Nat.le_trans d4 (by omega)) (fun v h2 q => ?_)
  rw [q.1, q.2]
  refine j_aload2 (pc := 1028) dL_law_1028 ?_
  refine j_aload0 (pc := 1029) dL_law_1029 ?_
  refine j_iload3 (pc := 1030) dL_law_1030 ?_
  refine j_iconst (pc := 1031) (v := nI 1) dL_law_1031 (by decide) ?_
  refine j_iaddN (pc := 1032) dL_law_1032 ?_
  refine j_sald (pc := 1033) hb (so_in (k := 1) hi (by decide) hL) dL_law_1033 ?_
  refine ce_L_116 (pc := 1034) rfl T kM dL_law_1034 rfl (rok9 d2) (fun v h2 q => ?_)
  rw [q.1, q.2]
  refine j_icmp_eq (pc := 1037) (tgt := 1273) dL_law_1037 (by decide) (fun _ => J.mono (next g2 G) (fun _ _ q => q) (by omega) (by omega)) (fun z => absurd rfl z)
theorem lw_c24 (I : GX h X M K) (hK : K < 512) (hb : cx.2.2.2.2.1 < cx.base) (hi : i + 5 ≤ cx.2.2.2.2.2.1) (hL : cx.2.2.2.2.2.1 ≤ 2560) (next : ∀ g, GX g X M (K + 1) → J cx (mLn nm) room_1 g 1273 (lcl cx X M i) [] (600 * (511 - K)) (5000 * (511 - K)) Q) : J cx (mLn nm) room_1 h 1042 (lcl cx X M i) [] (600 * (512 - K)) (5000 * (512 - K)) Q := by
  have W : Cal cx mX4_image mX5_image h [.int (xk cx i 1)] X M K := by
    obtain ⟨ow, n, C, m, Aof, Γ, I⟩ := I
    exact ca_image I hK
  obtain ⟨y, g, g2, e1, e2, mc, ms, d1, d2, d3, d4, Tx, T, kM, G⟩ := W
  refine j_aload1 (pc := 1042) dL_law_1042 ?_
  refine j_aload0 (pc := 1043) dL_law_1043 ?_
  refine j_iload3 (pc := 1044) dL_law_1044 ?_
  refine j_iconst (pc := 1045) (v := nI 1) dL_law_1045 (by decide) ?_
  refine j_iaddN (pc := 1046) dL_law_1046 ?_
  refine j_sald (pc := 1047) hb (so_in (k := 1) hi (by decide) hL) dL_law_1047 ?_
  refine cs_L_117 (pc := 1048) rfl Tx (gx_X I) dL_law_1048 rfl (rok9 d1) (Nat.le_trans d3 (by omega)) (Nat.le_trans d4 (by omega)) (fun v h2 q => ?_)
  rw [q.1, q.2]
  refine j_aload2 (pc := 1051) dL_law_1051 ?_
  refine j_aload0 (pc := 1052) dL_law_1052 ?_
  refine j_iload3 (pc := 1053) dL_law_1053 ?_
  refine j_iconst (pc := 1054) (v := nI 1) dL_law_1054 (by decide) ?_
  refine j_iaddN (pc := 1055) dL_law_1055 ?_
  refine j_sald (pc := 1056) hb (so_in (k := 1) hi (by decide) hL) dL_law_1056 ?_
  refine ce_L_120 (pc := 1057) rfl T kM dL_law_1057 rfl (rok9 d2) (fun v h2 q => ?_)
  rw [q.1, q.2]
  refine j_icmp_eq (pc := 1060) (tgt := 1273) dL_law_1060 (by decide) (fun _ => J.mono (next g2 G) (fun _ _ q => q) (by omega) (by omega)) (fun z => absurd rfl z)
theorem lw_c25 (I : GX h X M K) (hK : K < 512) (hb : cx.2.2.2.2.1 < cx.base) (hi : i + 5 ≤ cx.2.2.2.2.2.1) (hL : cx.2.2.2.2.2.1 ≤ 2560) (next : ∀ g, GX g X M (K + 1) → J cx (mLn nm) room_1 g 1273 (lcl cx X M i) [] (600 * (511 - K)) (5000 * (511 - K)) Q) : J cx (mLn nm) room_1 h 1065 (lcl cx X M i) [] (600 * (512 - K)) (5000 * (512 - K)) Q := by
  have W : Cal cx mX4_tell mX5_tell h [.long (lk (xk cx i 1) (xk cx i 2))] X M K := by
    obtain ⟨ow, n, C, m, Aof, Γ, I⟩ := I
    exact ca_tell I hK
  obtain ⟨y, g, g2, e1, e2, mc, ms, d1, d2, d3, d4, Tx, T, kM, G⟩ := W
  refine j_aload1 (pc := 1065) dL_law_1065 ?_
  refine j_aload0 (pc := 1066) dL_law_1066 ?_
  refine j_iload3 (pc := 1067) dL_law_1067 ?_
  refine j_iconst (pc := 1068) (v := nI 1) dL_law_1068 (by decide) ?_
  refine j_iaddN (pc := 1069) dL_law_1069 ?_
  refine j_sald (pc := 1070) hb (so_in (k := 1) hi (by decide) hL) dL_law_1070 ?_
  refine j_i2l (pc := 1071) dL_law_1071 ?_
  refine j_bipush (pc := 1072) (v := 32) dL_law_1072 (by decide) ?_
  refine j_lshl (pc := 1074) dL_law_1074 ?_
  refine j_aload0 (pc := 1075) dL_law_1075 ?_
  refine j_iload3 (pc := 1076) dL_law_1076 ?_
  refine j_iconst (pc := 1077) (v := nI 2) dL_law_1077 (by decide) ?_
  refine j_iaddN (pc := 1078) dL_law_1078 ?_
  refine j_sald (pc := 1079) hb (so_in (k := 2) hi (by decide) hL) dL_law_1079 ?_
  refine j_i2l (pc := 1080) dL_law_1080 ?_
  refine j_ldc2 (pc := 1081) dL_law_1081 wT_kl_L_69 ?_
  refine j_land (pc := 1084) dL_law_1084 ?_
  refine j_lor (pc := 1085) dL_law_1085 ?_
  refine cs_L_121 (pc := 1086) rfl Tx (gx_X I) dL_law_1086 rfl (rok9 d1) (Nat.le_trans d3 (by omega)) (Nat.le_trans d4 (by omega)) (fun v h2 q => ?_)
  rw [q.1, q.2]
  refine j_aload2 (pc := 1089) dL_law_1089 ?_
  refine j_aload0 (pc := 1090) dL_law_1090 ?_
  refine j_iload3 (pc := 1091) dL_law_1091 ?_
  refine j_iconst (pc := 1092) (v := nI 1) dL_law_1092 (by decide) ?_
  refine j_iaddN (pc := 1093) dL_law_1093 ?_
  refine j_sald (pc := 1094) hb (so_in (k := 1) hi (by decide) hL) dL_law_1094 ?_
  refine j_i2l (pc := 1095) dL_law_1095 ?_
  refine j_bipush (pc := 1096) (v := 32) dL_law_1096 (by decide) ?_
  refine j_lshl (pc := 1098) dL_law_1098 ?_
  refine j_aload0 (pc := 1099) dL_law_1099 ?_
  refine j_iload3 (pc := 1100) dL_law_1100 ?_
  refine j_iconst (pc := 1101) (v := nI 2) dL_law_1101 (by decide) ?_
  refine j_iaddN (pc := 1102) dL_law_1102 ?_
  refine j_sald (pc := 1103) hb (so_in (k := 2) hi (by decide) hL) dL_law_1103 ?_
  refine j_i2l (pc := 1104) dL_law_1104 ?_
  refine j_ldc2 (pc := 1105) dL_law_1105 wT_kl_L_69 ?_
  refine j_land (pc := 1108) dL_law_1108 ?_
  refine j_lor (pc := 1109) dL_law_1109 ?_
  refine ce_L_125 (pc := 1110) rfl T kM dL_law_1110 rfl (rok9 d2) (fun v h2 q => ?_)
  rw [q.1, q.2]
  refine j_icmp_eq (pc := 1113) (tgt := 1273) dL_law_1113 (by decide) (fun _ => J.mono (next g2 G) (fun _ _ q => q) (by omega) (by omega)) (fun z => absurd rfl z)
theorem lw_c26 (I : GX h X M K) (hK : K < 512) (hb : cx.2.2.2.2.1 < cx.base) (hi : i + 5 ≤ cx.2.2.2.2.2.1) (hL : cx.2.2.2.2.2.1 ≤ 2560) (next : ∀ g, GX g X M (K + 1) → J cx (mLn nm) room_1 g 1273 (lcl cx X M i) [] (600 * (511 - K)) (5000 * (511 - K)) Q) : J cx (mLn nm) room_1 h 1118 (lcl cx X M i) [] (600 * (512 - K)) (5000 * (512 - K)) Q := by
  have W : Cal cx mX4_check mX5_check h [.int (xk cx i 1)] X M K := by
    obtain ⟨ow, n, C, m, Aof, Γ, I⟩ := I
    exact ca_check I hK
  obtain ⟨y, g, g2, e1, e2, mc, ms, d1, d2, d3, d4, Tx, T, kM, G⟩ := W
  refine j_aload1 (pc := 1118) dL_law_1118 ?_
  refine j_aload0 (pc := 1119) dL_law_1119 ?_
  refine j_iload3 (pc := 1120) dL_law_1120 ?_
  refine j_iconst (pc := 1121) (v := nI 1) dL_law_1121 (by decide) ?_
  refine j_iaddN (pc := 1122) dL_law_1122 ?_
  refine j_sald (pc := 1123) hb (so_in (k := 1) hi (by decide) hL) dL_law_1123 ?_
  refine cs_L_126 (pc := 1124) rfl Tx (gx_X I) dL_law_1124 rfl (rok9 d1) (Nat.le_trans d3 (by omega)) (Nat.le_trans d4 (by omega)) (fun v h2 q => ?_)
  rw [q.1, q.2]
  refine j_aload2 (pc := 1127) dL_law_1127 ?_
  refine j_aload0 (pc := 1128) dL_law_1128 ?_
  refine j_iload3 (pc := 1129) dL_law_1129 ?_
  refine j_iconst (pc := 1130) (v := nI 1) dL_law_1130 (by decide) ?_
  refine j_iaddN (pc := 1131) dL_law_1131 ?_
  refine j_sald (pc := 1132) hb (so_in (k := 1) hi (by decide) hL) dL_law_1132 ?_
  refine ce_L_129 (pc := 1133) rfl T kM dL_law_1133 rfl (rok9 d2) (fun v h2 q => ?_)
  rw [q.1, q.2]
  refine j_icmp_eq (pc := 1136) (tgt := 1273) dL_law_1136 (by decide) (fun _ => J.mono (next g2 G) (fun _ _ q => q) (by omega) (by omega)) (fun z => absurd rfl z)
theorem lw_c27 (I : GX h X M K) (hK : K < 512) (hb : cx.2.2.2.2.1 < cx.base) (hi : i + 5 ≤ cx.2.2.2.2.2.1) (hL : cx.2.2.2.2.2.1 ≤ 2560) (next : ∀ g, GX g X M (K + 1) → J cx (mLn nm) room_1 g 1273 (lcl cx X M i) [] (600 * (511 - K)) (5000 * (511 - K)) Q) : J cx (mLn nm) room_1 h 1141 (lcl cx X M i) [] (600 * (512 - K)) (5000 * (512 - K)) Q := by
  have W : CalL cx mX4_look mX5_look h [.int (xk cx i 1), .int (xk cx i 2), .int (xk cx i 3)] X M K := by
    obtain ⟨ow, n, C, m, Aof, Γ, I⟩ := I
    exact ca_look I hK
  obtain ⟨y, g, g2, e1, e2, mc, ms, d1, d2, d3, d4, Tx, T, kM, G⟩ := W
  refine j_aload1 (pc := 1141) dL_law_1141 ?_
  refine j_aload0 (pc := 1142) dL_law_1142 ?_
  refine j_iload3 (pc := 1143) dL_law_1143 ?_
  refine j_iconst (pc := 1144) (v := nI 1) dL_law_1144 (by decide) ?_
  refine j_iaddN (pc := 1145) dL_law_1145 ?_
  refine j_sald (pc := 1146) hb (so_in (k := 1) hi (by decide) hL) dL_law_1146 ?_
  refine j_aload0 (pc := 1147) dL_law_1147 ?_
  refine j_iload3 (pc := 1148) dL_law_1148 ?_
  refine j_iconst (pc := 1149) (v := nI 2) dL_law_1149 (by decide) ?_
  refine j_iaddN (pc := 1150) dL_law_1150 ?_
  refine j_sald (pc := 1151) hb (so_in (k := 2) hi (by decide) hL) dL_law_1151 ?_
  refine j_aload0 (pc := 1152) dL_law_1152 ?_
  refine j_iload3 (pc := 1153) dL_law_1153 ?_
  refine j_iconst (pc := 1154) (v := nI 3) dL_law_1154 (by decide) ?_
  refine j_iaddN (pc := 1155) dL_law_1155 ?_
  refine j_sald (pc := 1156) hb (so_in (k := 3) hi (by decide) hL) dL_law_1156 ?_
  refine cs_L_130 (pc := 1157) rfl Tx (gx_X I) dL_law_1157 rfl (rok9 d1) (Nat.le_trans d3 (by omega)) (Nat.le_trans d4 (by omega)) (fun v h2 q => ?_)
  rw [q.1, q.2]
  refine j_aload2 (pc := 1160) dL_law_1160 ?_
  refine j_aload0 (pc := 1161) dL_law_1161 ?_
  refine j_iload3 (pc := 1162) dL_law_1162 ?_
  refine j_iconst (pc := 1163) (v := nI 1) dL_law_1163 (by decide) ?_
  refine j_iaddN (pc := 1164) dL_law_1164 ?_
  refine j_sald (pc := 1165) hb (so_in (k := 1) hi (by decide) hL) dL_law_1165 ?_
  refine j_aload0 (pc := 1166) dL_law_1166 ?_
  refine j_iload3 (pc := 1167) dL_law_1167 ?_
  refine j_iconst (pc := 1168) (v := nI 2) dL_law_1168 (by decide) ?_
  refine j_iaddN (pc := 1169) dL_law_1169 ?_
  refine j_sald (pc := 1170) hb (so_in (k := 2) hi (by decide) hL) dL_law_1170 ?_
  refine j_aload0 (pc := 1171) dL_law_1171 ?_
  refine j_iload3 (pc := 1172) dL_law_1172 ?_
  refine j_iconst (pc := 1173) (v := nI 3) dL_law_1173 (by decide) ?_
  refine j_iaddN (pc := 1174) dL_law_1174 ?_
  refine j_sald (pc := 1175) hb (so_in (k := 3) hi (by decide) hL) dL_law_1175 ?_
  refine ce_L_133 (pc := 1176) rfl T kM dL_law_1176 rfl (rok9 d2) (fun v h2 q => ?_)
  rw [q.1, q.2]
  refine j_lcmp_eq (pc := 1179) (tgt := 1273) dL_law_1179 dL_law_1180 (by decide) (fun _ => J.mono (next g2 G) (fun _ _ q => q) (by omega) (by omega)) (fun z => absurd rfl z)
theorem lw_c28 (I : GX h X M K) (hK : K < 512) (hb : cx.2.2.2.2.1 < cx.base) (hi : i + 5 ≤ cx.2.2.2.2.2.1) (hL : cx.2.2.2.2.2.1 ≤ 2560) (next : ∀ g, GX g X M (K + 1) → J cx (mLn nm) room_1 g 1273 (lcl cx X M i) [] (600 * (511 - K)) (5000 * (511 - K)) Q) : J cx (mLn nm) room_1 h 1185 (lcl cx X M i) [] (600 * (512 - K)) (5000 * (512 - K)) Q := by
  have W : CalL cx mX4_as mX5_as h [.int (xk cx i 1), .int (xk cx i 2), .int (xk cx i 3), .int (xk cx i 4)] X M K := by
    obtain ⟨ow, n, C, m, Aof, Γ, I⟩ := I
    exact ca_as I hK
  obtain ⟨y, g, g2, e1, e2, mc, ms, d1, d2, d3, d4, Tx, T, kM, G⟩ := W
  refine j_aload1 (pc := 1185) dL_law_1185 ?_
  refine j_aload0 (pc := 1186) dL_law_1186 ?_
  refine j_iload3 (pc := 1187) dL_law_1187 ?_
  refine j_iconst (pc := 1188) (v := nI 1) dL_law_1188 (by decide) ?_
  refine j_iaddN (pc := 1189) dL_law_1189 ?_
  refine j_sald (pc := 1190) hb (so_in (k := 1) hi (by decide) hL) dL_law_1190 ?_
  refine j_aload0 (pc := 1191) dL_law_1191 ?_
  refine j_iload3 (pc := 1192) dL_law_1192 ?_
  refine j_iconst (pc := 1193) (v := nI 2) dL_law_1193 (by decide) ?_
  refine j_iaddN (pc := 1194) dL_law_1194 ?_
  refine j_sald (pc := 1195) hb (so_in (k := 2) hi (by decide) hL) dL_law_1195 ?_
  refine j_aload0 (pc := 1196) dL_law_1196 ?_
  refine j_iload3 (pc := 1197) dL_law_1197 ?_
  refine j_iconst (pc := 1198) (v := nI 3) dL_law_1198 (by decide) ?_
  refine j_iaddN (pc := 1199) dL_law_1199 ?_
  refine j_sald (pc := 1200) hb (so_in (k := 3) hi (by decide) hL) dL_law_1200 ?_
  refine j_aload0 (pc := 1201) dL_law_1201 ?_
  refine j_iload3 (pc := 1202) dL_law_1202 ?_
  refine j_iconst (pc := 1203) (v := nI 4) dL_law_1203 (by decide) ?_
  refine j_iaddN (pc := 1204) dL_law_1204 ?_
  refine j_sald (pc := 1205) hb (so_in (k := 4) hi (by decide) hL) dL_law_1205 ?_
  refine cs_L_134 (pc := 1206) rfl Tx (gx_X I) dL_law_1206 rfl (rok9 d1) (Nat.le_trans d3 (by omega)) (Nat.le_trans d4 (by omega)) (fun v h2 q => ?_)
  rw [q.1, q.2]
  refine j_aload2 (pc := 1209) dL_law_1209 ?_
  refine j_aload0 (pc := 1210) dL_law_1210 ?_
  refine j_iload3 (pc := 1211) dL_law_1211 ?_
  refine j_iconst (pc := 1212) (v := nI 1) dL_law_1212 (by decide) ?_
  refine j_iaddN (pc := 1213) dL_law_1213 ?_
  refine j_sald (pc := 1214) hb (so_in (k := 1) hi (by decide) hL) dL_law_1214 ?_
  refine j_aload0 (pc := 1215) dL_law_1215 ?_
  refine j_iload3 (pc := 1216) dL_law_1216 ?_
  refine j_iconst (pc := 1217) (v := nI 2) dL_law_1217 (by decide) ?_
  refine j_iaddN (pc := 1218) dL_law_1218 ?_
  refine j_sald (pc := 1219) hb (so_in (k := 2) hi (by decide) hL) dL_law_1219 ?_
  refine j_aload0 (pc := 1220) dL_law_1220 ?_
  refine j_iload3 (pc := 1221) dL_law_1221 ?_
  refine j_iconst (pc := 1222) (v := nI 3) dL_law_1222 (by decide) ?_
  refine j_iaddN (pc := 1223) dL_law_1223 ?_
  refine j_sald (pc := 1224) hb (so_in (k := 3) hi (by decide) hL) dL_law_1224 ?_
  refine j_aload0 (pc := 1225) dL_law_1225 ?_
  refine j_iload3 (pc := 1226) dL_law_1226 ?_
  refine j_iconst (pc := 1227) (v := nI 4) dL_law_1227 (by decide) ?_
  refine j_iaddN (pc := 1228) dL_law_1228 ?_
  refine j_sald (pc := 1229) hb (so_in (k := 4) hi (by decide) hL) dL_law_1229 ?_
  refine ce_L_138 (pc := 1230) rfl T kM dL_law_1230 rfl (rok9 d2) (fun v h2 q => ?_)
  rw [q.1, q.2]
  refine j_lcmp_eq (pc := 1233) (tgt := 1273) dL_law_1233 dL_law_1234 (by decide) (fun _ => J.mono (next g2 G) (fun _ _ q => q) (by omega) (by omega)) (fun z => absurd rfl z)
theorem lw_c29 (I : GX h X M K) (hK : K < 512) (hb : cx.2.2.2.2.1 < cx.base) (hi : i + 5 ≤ cx.2.2.2.2.2.1) (hL : cx.2.2.2.2.2.1 ≤ 2560) (next : ∀ g, GX g X M (K + 1) → J cx (mLn nm) room_1 g 1273 (lcl cx X M i) [] (600 * (511 - K)) (5000 * (511 - K)) Q) : J cx (mLn nm) room_1 h 1239 (lcl cx X M i) [] (600 * (512 - K)) (5000 * (512 - K)) Q := by
  have W : CalL cx mX4_count mX5_count h [.int (xk cx i 1), .int (xk cx i 2)] X M K := by
    obtain ⟨ow, n, C, m, Aof, Γ, I⟩ := I
    exact ca_count I hK
  obtain ⟨y, g, g2, e1, e2, mc, ms, d1, d2, d3, d4, Tx, T, kM, G⟩ := W
  refine j_aload1 (pc := 1239) dL_law_1239 ?_
  refine j_aload0 (pc := 1240) dL_law_1240 ?_
  refine j_iload3 (pc := 1241) dL_law_1241 ?_
  refine j_iconst (pc := 1242) (v := nI 1) dL_law_1242 (by decide) ?_
  refine j_iaddN (pc := 1243) dL_law_1243 ?_
  refine j_sald (pc := 1244) hb (so_in (k := 1) hi (by decide) hL) dL_law_1244 ?_
  refine j_aload0 (pc := 1245) dL_law_1245 ?_
  refine j_iload3 (pc := 1246) dL_law_1246 ?_
  refine j_iconst (pc := 1247) (v := nI 2) dL_law_1247 (by decide) ?_
  refine j_iaddN (pc := 1248) dL_law_1248 ?_
  refine j_sald (pc := 1249) hb (so_in (k := 2) hi (by decide) hL) dL_law_1249 ?_
  refine cs_L_139 (pc := 1250) rfl Tx (gx_X I) dL_law_1250 rfl (rok9 d1) (Nat.le_trans d3 (by omega)) (Nat.le_trans d4 (by omega)) (fun v h2 q => ?_)
  rw [q.1, q.2]
  refine j_aload2 (pc := 1253) dL_law_1253 ?_
  refine j_aload0 (pc := 1254) dL_law_1254 ?_
  refine j_iload3 (pc := 1255) dL_law_1255 ?_
  refine j_iconst (pc := 1256) (v := nI 1) dL_law_1256 (by decide) ?_
  refine j_iaddN (pc := 1257) dL_law_1257 ?_
  refine j_sald (pc := 1258) hb (so_in (k := 1) hi (by decide) hL) dL_law_1258 ?_
  refine j_aload0 (pc := 1259) dL_law_1259 ?_
  refine j_iload3 (pc := 1260) dL_law_1260 ?_
  refine j_iconst (pc := 1261) (v := nI 2) dL_law_1261 (by decide) ?_
  refine j_iaddN (pc := 1262) dL_law_1262 ?_
  refine j_sald (pc := 1263) hb (so_in (k := 2) hi (by decide) hL) dL_law_1263 ?_
  refine ce_L_143 (pc := 1264) rfl T kM dL_law_1264 rfl (rok9 d2) (fun v h2 q => ?_)
  rw [q.1, q.2]
  refine j_lcmp_eq (pc := 1267) (tgt := 1273) dL_law_1267 dL_law_1268 (by decide) (fun _ => J.mono (next g2 G) (fun _ _ q => q) (by omega) (by omega)) (fun z => absurd rfl z)
end

