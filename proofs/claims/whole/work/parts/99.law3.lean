/-! the law: its loop -/
theorem len5 {L i : Nat} (hL : L ≤ 2560) (hi : i ≤ 2560) (h : ¬ nI L - nI 5 < nI i) : i + 5 ≤ L := by
  rcases Nat.lt_or_ge L 5 with z | z
  · exfalso
    refine h (Int32.lt_of_lt_of_le ?_ (nI_pos' (show i < 2 ^ 31 by omega)))
    rcases (show L = 0 ∨ L = 1 ∨ L = 2 ∨ L = 3 ∨ L = 4 by omega) with e | e | e | e | e <;> rw [e] <;> decide
  · rw [pk_sub z] at h
    rcases Nat.lt_or_ge (L - 5) i with y | y
    · exact absurd (nI_lt y (by omega)) h
    · omega
section
variable {nm : String} {cx : Cx} {X M : Nat} {Q : Option Value → Hp → Prop}
theorem lw_iter {h : Hp} {K : Nat} (I : GX h X M K) (hK5 : K ≤ 512) (hb : cx.2.2.2.2.1 < cx.base) (hL : cx.2.2.2.2.2.1 ≤ 2560) (hQ : ∀ g, Q (some (.int 1)) g) (next : K < 512 → ∀ g, GX g X M (K + 1) → J cx (mLn nm) room_1 g 18 (lcl cx X M (5 * (K + 1))) [] (600 * (511 - K)) (5000 * (511 - K)) Q) : J cx (mLn nm) room_1 h 18 (lcl cx X M (5 * K)) [] (600 * (512 - K)) (5000 * (512 - K)) Q := by
  refine j_iload3 (pc := 18) dL_law_18 ?_
  refine j_aload0 (pc := 19) dL_law_19 ?_
  refine j_slen (pc := 20) hb dL_law_20 ?_
  refine j_iconst (pc := 21) (v := nI 5) dL_law_21 (by decide) ?_
  refine j_isub (pc := 22) dL_law_22 ?_
  refine j_icmp_gt (pc := 23) (tgt := 1279) dL_law_23 (by decide) (fun _ => ?_) (fun z => ?_)
  · refine j_iconst (pc := 1279) (v := 1) dL_law_1279 (by decide) ?_
    exact j_iret (pc := 1280) dL_law_1280 rfl rfl (hQ h)
  have hi := len5 hL (by omega) z
  have hK : K < 512 := by omega
  have nx : ∀ g, GX g X M (K + 1) → J cx (mLn nm) room_1 g 1273 (lcl cx X M (5 * K)) [] (600 * (511 - K)) (5000 * (511 - K)) Q := fun g G => by
    refine j_iinc3 (pc := 1273) dL_law_1273 (show (3 : Nat) < 4 by decide) trivial ?_
    rw [show nI (5 * K) + Int32.ofInt 5 = nI (5 * (K + 1)) from nI_add (5 * K) 5]
    exact j_goto (pc := 1276) (tgt := 18) dL_law_1276 (by decide) (next hK g G)
  refine j_aload0 (pc := 26) dL_law_26 ?_
  refine j_iload3 (pc := 27) dL_law_27 ?_
  refine j_sald0 (pc := 28) hb (so_in (k := 0) hi (by decide) hL) dL_law_28 ?_
  refine j_bipush (pc := 29) (v := 31) dL_law_29 (by decide) ?_
  refine j_iand (pc := 31) dL_law_31 ?_
  obtain ⟨n, hn, e⟩ := and31 (cx.2.2.2.2.2.2 (nI (5 * K)).toNatClampNeg)
  rw [e]
  clear e
  rcases (show n = 0 ∨ n = 1 ∨ n = 2 ∨ n = 3 ∨ n = 4 ∨ n = 5 ∨ n = 6 ∨ n = 7 ∨ n = 8 ∨ n = 9 ∨ n = 10 ∨ n = 11 ∨ n = 12 ∨ n = 13 ∨ n = 14 ∨ n = 15 ∨ n = 16 ∨ n = 17 ∨ n = 18 ∨ n = 19 ∨ n = 20 ∨ n = 21 ∨ n = 22 ∨ n = 23 ∨ n = 24 ∨ n = 25 ∨ n = 26 ∨ n = 27 ∨ n = 28 ∨ n = 29 ∨ n = 30 ∨ n = 31 by omega) with rfl | rfl | rfl | rfl | rfl | rfl | rfl | rfl | rfl | rfl | rfl | rfl | rfl | rfl | rfl | rfl | rfl | rfl | rfl | rfl | rfl | rfl | rfl | rfl | rfl | rfl | rfl | rfl | rfl | rfl | rfl | rfl
  · exact j_tabIn (pc := 32) (tgt := 168) dL_law_32 (by decide) (by decide) (show _ = some (136 : Int) from rfl) (by decide) (lw_c0 I hK hb hi hL nx)
  · exact j_tabIn (pc := 32) (tgt := 221) dL_law_32 (by decide) (by decide) (show _ = some (189 : Int) from rfl) (by decide) (lw_c1 I hK hb hi hL nx)
  · exact j_tabIn (pc := 32) (tgt := 274) dL_law_32 (by decide) (by decide) (show _ = some (242 : Int) from rfl) (by decide) (lw_c2 I hK hb hi hL nx)
  · exact j_tabIn (pc := 32) (tgt := 307) dL_law_32 (by decide) (by decide) (show _ = some (275 : Int) from rfl) (by decide) (lw_c3 I hK hb hi hL nx)
  · exact j_tabIn (pc := 32) (tgt := 350) dL_law_32 (by decide) (by decide) (show _ = some (318 : Int) from rfl) (by decide) (lw_c4 I hK hb hi hL nx)
  · exact j_tabIn (pc := 32) (tgt := 383) dL_law_32 (by decide) (by decide) (show _ = some (351 : Int) from rfl) (by decide) (lw_c5 I hK hb hi hL nx)
  · exact j_tabIn (pc := 32) (tgt := 416) dL_law_32 (by decide) (by decide) (show _ = some (384 : Int) from rfl) (by decide) (lw_c6 I hK hb hi hL nx)
  · exact j_tabIn (pc := 32) (tgt := 439) dL_law_32 (by decide) (by decide) (show _ = some (407 : Int) from rfl) (by decide) (lw_c7 I hK hb hi hL nx)
  · exact j_tabIn (pc := 32) (tgt := 482) dL_law_32 (by decide) (by decide) (show _ = some (450 : Int) from rfl) (by decide) (lw_c8 I hK hb hi hL nx)
  · exact j_tabIn (pc := 32) (tgt := 515) dL_law_32 (by decide) (by decide) (show _ = some (483 : Int) from rfl) (by decide) (lw_c9 I hK hb hi hL nx)
  · exact j_tabIn (pc := 32) (tgt := 538) dL_law_32 (by decide) (by decide) (show _ = some (506 : Int) from rfl) (by decide) (lw_c10 I hK hb hi hL nx)
  · exact j_tabIn (pc := 32) (tgt := 581) dL_law_32 (by decide) (by decide) (show _ = some (549 : Int) from rfl) (by decide) (lw_c11 I hK hb hi hL nx)
  · exact j_tabIn (pc := 32) (tgt := 614) dL_law_32 (by decide) (by decide) (show _ = some (582 : Int) from rfl) (by decide) (lw_c12 I hK hb hi hL nx)
  · exact j_tabIn (pc := 32) (tgt := 647) dL_law_32 (by decide) (by decide) (show _ = some (615 : Int) from rfl) (by decide) (lw_c13 I hK hb hi hL nx)
  · exact j_tabIn (pc := 32) (tgt := 720) dL_law_32 (by decide) (by decide) (show _ = some (688 : Int) from rfl) (by decide) (lw_c14 I hK hb hi hL nx)
  · exact j_tabIn (pc := 32) (tgt := 753) dL_law_32 (by decide) (by decide) (show _ = some (721 : Int) from rfl) (by decide) (lw_c15 I hK hb hi hL nx)
  · exact j_tabIn (pc := 32) (tgt := 786) dL_law_32 (by decide) (by decide) (show _ = some (754 : Int) from rfl) (by decide) (lw_c16 I hK hb hi hL nx)
  · exact j_tabIn (pc := 32) (tgt := 809) dL_law_32 (by decide) (by decide) (show _ = some (777 : Int) from rfl) (by decide) (lw_c17 I hK hb hi hL nx)
  · exact j_tabIn (pc := 32) (tgt := 853) dL_law_32 (by decide) (by decide) (show _ = some (821 : Int) from rfl) (by decide) (lw_c18 I hK hb hi hL nx)
  · exact j_tabIn (pc := 32) (tgt := 886) dL_law_32 (by decide) (by decide) (show _ = some (854 : Int) from rfl) (by decide) (lw_c19 I hK hb hi hL nx)
  · exact j_tabIn (pc := 32) (tgt := 929) dL_law_32 (by decide) (by decide) (show _ = some (897 : Int) from rfl) (by decide) (lw_c20 I hK hb hi hL nx)
  · exact j_tabIn (pc := 32) (tgt := 973) dL_law_32 (by decide) (by decide) (show _ = some (941 : Int) from rfl) (by decide) (lw_c21 I hK hb hi hL nx)
  · exact j_tabIn (pc := 32) (tgt := 996) dL_law_32 (by decide) (by decide) (show _ = some (964 : Int) from rfl) (by decide) (lw_c22 I hK hb hi hL nx)
  · exact j_tabIn (pc := 32) (tgt := 1019) dL_law_32 (by decide) (by decide) (show _ = some (987 : Int) from rfl) (by decide) (lw_c23 I hK hb hi hL nx)
  · exact j_tabIn (pc := 32) (tgt := 1042) dL_law_32 (by decide) (by decide) (show _ = some (1010 : Int) from rfl) (by decide) (lw_c24 I hK hb hi hL nx)
  · exact j_tabIn (pc := 32) (tgt := 1065) dL_law_32 (by decide) (by decide) (show _ = some (1033 : Int) from rfl) (by decide) (lw_c25 I hK hb hi hL nx)
  · exact j_tabIn (pc := 32) (tgt := 1118) dL_law_32 (by decide) (by decide) (show _ = some (1086 : Int) from rfl) (by decide) (lw_c26 I hK hb hi hL nx)
  · exact j_tabIn (pc := 32) (tgt := 1141) dL_law_32 (by decide) (by decide) (show _ = some (1109 : Int) from rfl) (by decide) (lw_c27 I hK hb hi hL nx)
  · exact j_tabIn (pc := 32) (tgt := 1185) dL_law_32 (by decide) (by decide) (show _ = some (1153 : Int) from rfl) (by decide) (lw_c28 I hK hb hi hL nx)
  · exact j_tabIn (pc := 32) (tgt := 1239) dL_law_32 (by decide) (by decide) (show _ = some (1207 : Int) from rfl) (by decide) (lw_c29 I hK hb hi hL nx)
  · refine j_tabOut (pc := 32) (tgt := 1273) dL_law_32 (Or.inr (by decide)) (by decide) (J.mono (nx h ?_) (fun _ _ q => q) (by omega) (by omega))
    obtain ⟨ow, n, C, m, Aof, Γ, I⟩ := I
    exact ⟨ow, n, C, m, Aof, Γ, I.mono hK⟩
  · refine j_tabOut (pc := 32) (tgt := 1273) dL_law_32 (Or.inr (by decide)) (by decide) (J.mono (nx h ?_) (fun _ _ q => q) (by omega) (by omega))
    obtain ⟨ow, n, C, m, Aof, Γ, I⟩ := I
    exact ⟨ow, n, C, m, Aof, Γ, I.mono hK⟩
theorem lw_loop (hb : cx.2.2.2.2.1 < cx.base) (hL : cx.2.2.2.2.2.1 ≤ 2560) (hQ : ∀ g, Q (some (.int 1)) g) : ∀ t K h, K + t = 512 → GX h X M K → J cx (mLn nm) room_1 h 18 (lcl cx X M (5 * K)) [] (600 * (512 - K)) (5000 * (512 - K)) Q
  | 0, K, h, e, I => lw_iter I (by omega) hb hL hQ (fun z => by omega)
  | t + 1, K, h, e, I => lw_iter I (by omega) hb hL hQ (fun z g G => by
    have := lw_loop hb hL hQ t (K + 1) g (by omega) G
    rw [show 512 - (K + 1) = 511 - K by omega] at this
    exact this)
end
/-- the two new programs -/
theorem gx_init {h : Hp} {X M : Nat} (hX : X = h.n) (hM : M = X + 3) : GX (mdl ((prN (h.new (10 + 4) 0) X).new (10 + 5) 0) M) X M 0 := by
  subst hX
  subst hM
  refine ⟨fun x => if x < h.n + 3 then 50000 else 60000, 0, 0, 0, fun _ => 0, fun _ => (0, 0, fun _ _ => 0, fun _ _ => 0), ⟨?_, ?_, Nat.zero_le _, ?_, Nat.le_refl _, ?_, Nat.zero_le _, fun a ha => absurd ha (Nat.not_lt_zero _), fun a ha => absurd ha (Nat.not_lt_zero _), fun a ha => absurd ha (Nat.not_lt_zero _), fun a ha => absurd ha (Nat.not_lt_zero _), fun a ha => absurd ha (Nat.not_lt_zero _)⟩, ?_, ?_, ?_, ?_, ?_, fun x h1 h2 => if_pos h2, fun x h1 h2 => if_neg (by omega), fun a ha => absurd ha (Nat.not_lt_zero _), fun a ha => absurd ha (Nat.not_lt_zero _)⟩
  · simp [MSh, mdl, prN, Hp.new, Hp.setR, up2, Hp.n, Hp.kd, Hp.r]
  · simp [mdl, prN, Hp.new, Hp.setR, up2, Hp.i]; rfl
  · simp [mdl, prN, Hp.new, Hp.setR, up2, Hp.i]; rfl
  · simp [mdl, prN, Hp.new, Hp.setR, up2, Hp.i]; rfl
  · simp [PSh, mdl, prN, Hp.new, Hp.setR, up2, Hp.n, Hp.kd, Hp.r]
    refine ⟨?_, by omega, by omega⟩
    repeat rw [if_neg (by omega)]
  · simp [mdl, prN, Hp.new, Hp.setR, up2, Hp.i]; rfl
  · simp [mdl, prN, Hp.new, Hp.setR, up2, Hp.i]; rfl
  · simp [mdl, prN, Hp.new, Hp.setR, Hp.n]
  · simp [mdl, prN, Hp.new, Hp.setR, Hp.n]
section
variable {nm : String} {cx : Cx} {Q : Option Value → Hp → Prop}
theorem lw_J {h : Hp} (hb : cx.2.2.2.2.1 < cx.base) (hL : cx.2.2.2.2.2.1 ≤ 2560) (hQ : ∀ g, Q (some (.int 1)) g) : J cx (mLn nm) room_1 h 0 [some (.ref cx.2.2.2.2.1), none, none, none] [] (307208 + 1) (3600408 + nC 4) Q := by
  refine j_new (pc := 0) 4 cls_4 (by decide) wT_cl_L_7 wT_ins_X4 wT_ini_X4 dL_law_0 ?_
  refine j_dup (pc := 3) dL_law_3 ?_
  refine cs_L_9 (pc := 4) rfl (qx_init new_kn rfl) dL_law_4 rfl rfl (by decide) (by decide) (fun h' q => ?_)
  rw [q]
  refine j_astore1 (pc := 7) dL_law_7 (show (1 : Nat) < 4 by decide) trivial ?_
  refine J.mono (bc := 307205 + 1) (bs := 3600180 + nC 5) ?_ (fun _ _ q => q) (by decide) (by decide)
  refine j_new (pc := 8) 5 cls_5 (by decide) wT_cl_L_10 wT_ins_X5 wT_ini_X5 dL_law_8 ?_
  refine j_dup (pc := 11) dL_law_11 ?_
  refine cs_L_12 (pc := 12) rfl (s_init5 new_kn rfl) dL_law_12 rfl rfl (by decide) (by decide) (fun h' q => ?_)
  rw [q]
  refine j_astore2 (pc := 15) dL_law_15 (show (2 : Nat) < 4 by decide) trivial ?_
  refine j_iconst (pc := 16) (v := nI 0) dL_law_16 (by decide) ?_
  refine j_istore3 (pc := 17) dL_law_17 (show (3 : Nat) < 4 by decide) trivial ?_
  exact J.mono (lw_loop hb hL hQ 512 0 _ rfl (gx_init rfl rfl)) (fun _ _ q => q) (by decide) (by decide)
end

