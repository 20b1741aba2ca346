/-! the reference: min, max, drawn, replace, fair, tell, look, count, a new ring -/
section
variable {cx : Cx} {mt : Mt} {R : Room} {h : Hp} {pc : Nat} {ls : List (Option Value)} {st : List Value} {bc bs : Nat} {Q : Option Value → Hp → Prop}
theorem Sp.ofF {mt : Mt} {d mc ms : Nat} {av : List Value} {ls : List (Option Value)} (k : Nat) (hy : plainFor mt.1 = true) (hle : (lg_sl av).length ≤ mt.2.2.1) (hls : ls = l0 av ++ List.replicate k none) (K : J cx mt (Rm d mc ms) h 0 ls [] mc ms Q) : Sp cx mt d mc ms h av Q := by
  intro l
  refine va_MetF (cc := mt.2.1) (maxL := mt.2.2.1) (ret := mt.2.2.2) hy rfl ?_
  intro p e s m args below meth c s₁ B hml hv
  obtain ⟨rfl, hRep, hKK⟩ := hv
  have hts := atoms_spec (ws := Cond.code mt.1 mt.2.1 mt.2.2.1 mt.2.2.2 :: Tb) B.pre
  have hlocks := B.notSynchronized
  have hret := B.returns
  have C : Jx cx mt p s m av.toArray meth c := ⟨B.exec, B.bytes, hml, B.returns, B.notSynchronized, findClass_of_methodNamed B.named, fun w hw => hts w (List.mem_cons_of_mem _ hw), hKK, (name_of_methodNamed B.named B.method).1⟩
  have hl := lv_entry av (n := mt.2.2.1) hle
  rw [lg_entry_eq]
  generalize (lg_sl av ++ List.replicate (mt.2.2.1 - (lg_sl av).length) Slot.unset).toArray = lsA at hl ⊢
  refine K p l e s m av.toArray below meth c s.heap [] 0 0 lsA _ C hRep (fun q hq => by cases hq) ⟨hl.1, hl.2.1, fun i v hi => ?_⟩ (by show 0 + mc ≤ mc; omega) (by show 0 + ms ≤ ms; omega) ?_
  · subst hls
    have h1 : (l0 av)[i]? = some (some v) := by
      by_cases hlt : i < (l0 av).length
      · rwa [List.getElem?_append_left hlt] at hi
      · rw [List.getElem?_append_right (by omega), List.getElem?_replicate] at hi
        split at hi <;> simp at hi
    have h2 := l0_args av 0 i v h1
    rw [Nat.zero_add] at h2
    exact hl.2.2 (i, v) h2
  · intro v h' pc' lsA' H' locs' cells' slots' hQ hret' hR' hlo hc hs
    refine W.widen (k := mc) (n := ms) hc hs ?_
    have hq : ∀ t : State, t.heap = H' → s.WarmedH t.vm → ∃ v' h'', (Outcome.returned v) = .returned v' ∧ Q v' h'' ∧ Rep cx h'' t.heap := fun t ht _ => ⟨v, h', rfl, hQ, by rw [ht]; exact hR'⟩
    match v, hret', hq with
    | none, hr, hq => exact W.vret B.exec B.bytes (hret.trans hr.2) hq hlo hr.1 hlocks
    | some (.int x), hr, hq => obtain ⟨hr1, ty, hr2, hr3⟩ := hr; exact W.zret B.exec B.bytes (hret.trans hr2) hr3 hq hlo hr1 hlocks
    | some (.long x), hr, hq => exact W.lret B.exec B.bytes (hret.trans hr.2) hq hlo hr.1 hlocks
    | some .null, hr, hq => obtain ⟨hr1, n, hr2⟩ := hr; exact W.aret B.exec B.bytes (hret.trans hr2) (Or.inl ⟨n, rfl⟩) (Or.inl rfl) hq hlo hr1 hlocks
    | some (.ref x), hr, hq => obtain ⟨hr1, n, hr2⟩ := hr; exact W.aret B.exec B.bytes (hret.trans hr2) (Or.inl ⟨n, rfl⟩) (Or.inr ⟨x, rfl⟩) hq hlo hr1 hlocks
theorem j_gstF (ho : mt.1.cls = RX5) (d : decode mt.2.1 pc = .ok (.getstatic 179, 3)) (K : J cx mt R h (pc + 3) ls (.ref cx.2.2.2.1 :: st) bc bs Q) : J cx mt R h pc ls st bc bs Q := by
  intro p l e s m args below meth cd H locs cells slots lsA Z C a1 a2 a3 a4 a5 kk
  obtain ⟨hx, hb, hml, hret, hlk, hown, hts, hKK, hnm⟩ := id C
  obtain ⟨cf, kf, fi, f, a, cell, h1, h2, h3, h4, h5, h6, h7, h8⟩ := hKK.2.2.2.1
  refine W.gets hx hb hown (hts _ (by rw [ho]; exact wT_FIELDS)) h1 h2 h3 h4 (cell₁ := cell) ?_ (fun e => by rw [e] at h6; cases h6) h7 rfl d (K p l e s m args below meth cd H locs cells slots lsA Z C a1 a2 a3 a4 a5 kk)
  rw [a1.2.2.1 a (Nat.not_le.mp h8)]
  exact h5
theorem j_ialF {k : Nat} (hk : k < 12) (d : decode mt.2.1 pc = .ok (.iaload, 1)) (K : J cx mt R h (pc + 1) ls (.int (fldN k) :: st) bc bs Q) : J cx mt R h pc ls (.int (nI k) :: .ref cx.2.2.2.1 :: st) bc bs Q := by
  intro p l e s m args below meth cd H locs cells slots lsA Z C a1 a2 a3 a4 a5 kk
  obtain ⟨hx, hb, hml, hret, hlk, hown, hts, hKK, hnm⟩ := id C
  obtain ⟨cell, h1, h2, h3, h4, h5, h6, h7⟩ := hKK.2.2.2.2.1
  have e1 : (nI k).toNatClampNeg = k := nI_clamp (by omega)
  refine W.iald (cell := cell) (v := .int (fldN k)) hx hb ?_ h2 h3 ?_ ?_ rfl rfl d (K p l e s m args below meth cd H locs cells slots lsA Z C a1 a2 a3 a4 a5 kk)
  · rw [a1.2.2.1 _ (Nat.not_le.mp h7)]
    exact h1
  · rw [e1]
    rintro (q | q)
    · exact nI_pos (by omega) q
    · omega
  · rw [e1]
    exact h6 k hk
theorem j_fldN {k : Nat} (hk : k < 12) (K : J cx mt R h pc ls (.int (nI (fldI k)) :: st) bc bs Q) : J cx mt R h pc ls (.int (fldN k) :: st) bc bs Q := by
  have e : fldN k = nI (fldI k) := by
    rcases (show k = 0 ∨ k = 1 ∨ k = 2 ∨ k = 3 ∨ k = 4 ∨ k = 5 ∨ k = 6 ∨ k = 7 ∨ k = 8 ∨ k = 9 ∨ k = 10 ∨ k = 11 by omega) with rfl | rfl | rfl | rfl | rfl | rfl | rfl | rfl | rfl | rfl | rfl | rfl <;> rfl
  rw [e]
  exact K
theorem fldI_lt {k : Nat} (hk : k < 12) : fldI k < 17 := by
  rcases (show k = 0 ∨ k = 1 ∨ k = 2 ∨ k = 3 ∨ k = 4 ∨ k = 5 ∨ k = 6 ∨ k = 7 ∨ k = 8 ∨ k = 9 ∨ k = 10 ∨ k = 11 by omega) with rfl | rfl | rfl | rfl | rfl | rfl | rfl | rfl | rfl | rfl | rfl | rfl <;> decide
end
/-- a number that lies below another, as a natural one -/
theorem i_nat {x : Int32} {n : Nat} (hn : n < 2 ^ 31) (h0 : ¬ x < 0) (h1 : ¬ lN n ≤ x.toInt64) : ∃ j, j < n ∧ x = nI j := by
  obtain ⟨j, hj, rfl⟩ := nI_of h0
  rw [nI_l hj] at h1
  exact ⟨j, Nat.not_le.mp (fun z => h1 ((lN_le hn hj).mpr z)), rfl⟩
theorem i_natc {x c : Int32} {n : Nat} (hc : c = nI n) (hn : n < 2 ^ 31) (h0 : ¬ x < 0) (h1 : x ≤ c) : ∃ j, j ≤ n ∧ x = nI j := by
  obtain ⟨j, hj, rfl⟩ := nI_of h0
  rw [hc] at h1
  exact ⟨j, (nI_leI hj hn).mp h1, rfl⟩
section
variable {cx : Cx} {h : Hp} {M a : Nat} {f : Fl}
theorem s_min (x y : Int64) : DL cx mJ9_min_f86c9 0 h [.long x, .long y] (if x ≤ y then x else y) h := by
  refine Sp.ofF 0 (by decide +kernel) (Nat.le_of_ble_eq_true rfl) rfl ?_
  refine j_lload0 dJ9_min_f86c9_0 ?_
  refine j_lload2 dJ9_min_f86c9_1 ?_
  refine j_lcmp_gt (tgt := 10) dJ9_min_f86c9_2 dJ9_min_f86c9_3 (by decide) (fun c2 => ?_) (fun c2 => ?_)
  · refine j_lload2 dJ9_min_f86c9_10 ?_
    refine j_lret dJ9_min_f86c9_11 rfl ?_
    exact ⟨_, rfl, by simp_all [← Int64.not_le], rfl⟩
  · refine j_lload0 dJ9_min_f86c9_6 ?_
    refine j_goto (tgt := 11) dJ9_min_f86c9_7 (by decide) ?_
    refine j_lret dJ9_min_f86c9_11 rfl ?_
    exact ⟨_, rfl, by simp_all [← Int64.not_le], rfl⟩
theorem s_max (x y : Int64) : DL cx mJ9_max_f86c9 0 h [.long x, .long y] (if x < y then y else x) h := by
  refine Sp.ofF 0 (by decide +kernel) (Nat.le_of_ble_eq_true rfl) rfl ?_
  refine j_lload0 dJ9_max_f86c9_0 ?_
  refine j_lload2 dJ9_max_f86c9_1 ?_
  refine j_lcmp_lt (tgt := 10) dJ9_max_f86c9_2 dJ9_max_f86c9_3 (by decide) (fun c2 => ?_) (fun c2 => ?_)
  · refine j_lload2 dJ9_max_f86c9_10 ?_
    refine j_lret dJ9_max_f86c9_11 rfl ?_
    exact ⟨_, rfl, by first | rw [if_pos c2] | rw [if_neg c2], rfl⟩
  · refine j_lload0 dJ9_max_f86c9_6 ?_
    refine j_goto (tgt := 11) dJ9_max_f86c9_7 (by decide) ?_
    refine j_lret dJ9_max_f86c9_11 rfl ?_
    exact ⟨_, rfl, by first | rw [if_pos c2] | rw [if_neg c2], rfl⟩
def sx (r i k : Nat) : Nat := 5 * (600 * r + i) + k
theorem s_stopAt {r i k : Nat} : DI cx mX5_stopAt 0 h [.int (nI r), .int (nI i), .int (nI k)] (nI (sx r i k)) h := by
  refine Sp.of 0 (by decide) (Nat.le_of_ble_eq_true rfl) rfl ?_
  refine j_iconst (v := nI 5) dX5_stopAt_0 (by decide) ?_
  refine j_sipush (v := nI 600) dX5_stopAt_1 (by decide) ?_
  refine j_iload0 dX5_stopAt_4 ?_
  refine j_imulN dX5_stopAt_5 ?_
  refine j_iload1 dX5_stopAt_6 ?_
  refine j_iaddN dX5_stopAt_7 ?_
  refine j_imulN dX5_stopAt_8 ?_
  refine j_iload2 dX5_stopAt_9 ?_
  refine j_iaddN dX5_stopAt_10 ?_
  refine j_iret dX5_stopAt_11 rfl rfl ?_
  exact ⟨_, rfl, rfl, rfl⟩
theorem sb_drawn {r k w : Int32} (hM : MSh h.1 M) (hr : isRi h M r = false) : DL cx mX5_drawn 1 h [.ref M, .int r, .int k, .int w] (-1) h := by
  refine Sp.of 0 (by decide) (Nat.le_of_ble_eq_true rfl) rfl ?_
  refine j_aload0 dX5_drawn_0 ?_
  refine j_iload1 dX5_drawn_1 ?_
  refine cd_X5_68 rfl (s_isRing _ hM) hM.1 dX5_drawn_2 rfl rfl ?_
  refine j_bif_eq (tgt := 33) dX5_drawn_5 (by decide) (fun c5 => ?_) (fun c5 => by exact nb c5 hr)
  refine j_ldc2 dX5_drawn_33 wT_kl_X5_66 ?_
  refine j_goto (tgt := 53) dX5_drawn_36 (by decide) ?_
  refine j_lret dX5_drawn_53 rfl ?_
  exact ⟨_, rfl, rfl, rfl⟩
theorem s_drawn {k w : Int32} {rd : Nat} (hM : MSh h.1 M) (ha : a < 40) (hr : isRi h M (nI a) = true) (hrd : f 5 = lN rd) (hrd6 : rd ≤ 60) : DL cx mX5_drawn 1 (mh h M a f) [.ref M, .int (nI a), .int k, .int w] (fDrawn f k w) (mh h M a f) := by
  refine Sp.of 0 (by decide) (Nat.le_of_ble_eq_true rfl) rfl ?_
  refine j_aload0 dX5_drawn_0 ?_
  refine j_iload1 dX5_drawn_1 ?_
  refine cd_X5_68 rfl (s_isRing _ hM) hM.1 dX5_drawn_2 rfl rfl ?_
  refine j_bif_eq (tgt := 33) dX5_drawn_5 (by decide) (fun c5 => by exact nb hr c5) (fun c5 => ?_)
  refine j_iload2 dX5_drawn_8 ?_
  refine j_if_lt (tgt := 33) dX5_drawn_9 (by decide) (fun c9 => ?_) (fun c9 => ?_)
  · refine j_ldc2 dX5_drawn_33 wT_kl_X5_66 ?_
    refine j_goto (tgt := 53) dX5_drawn_36 (by decide) ?_
    refine j_lret dX5_drawn_53 rfl ?_
    exact ⟨_, rfl, by simp_all [fDrawn, ← Int32.not_le], rfl⟩
  · refine j_iload2 dX5_drawn_12 ?_
    refine j_i2l dX5_drawn_13 ?_
    refine j_aload0 dX5_drawn_14 ?_
    refine j_iload1 dX5_drawn_15 ?_
    refine j_iconst (v := nI 5) dX5_drawn_16 (by decide) ?_
    refine cd_X5_41 rfl (s_get hM ha (by first | decide | exact ix_lt hs (by decide) | omega)) hM.1 dX5_drawn_17 rfl rfl ?_
    refine j_lcmp_ge (tgt := 33) dX5_drawn_20 dX5_drawn_21 (by decide) (fun c20 => ?_) (fun c20 => ?_)
    · refine j_ldc2 dX5_drawn_33 wT_kl_X5_66 ?_
      refine j_goto (tgt := 53) dX5_drawn_36 (by decide) ?_
      refine j_lret dX5_drawn_53 rfl ?_
      exact ⟨_, rfl, by simp_all [fDrawn, ← Int32.not_le], rfl⟩
    · refine j_iload3 dX5_drawn_24 ?_
      refine j_if_lt (tgt := 33) dX5_drawn_25 (by decide) (fun c25 => ?_) (fun c25 => ?_)
      · refine j_ldc2 dX5_drawn_33 wT_kl_X5_66 ?_
        refine j_goto (tgt := 53) dX5_drawn_36 (by decide) ?_
        refine j_lret dX5_drawn_53 rfl ?_
        exact ⟨_, rfl, by simp_all [fDrawn, ← Int32.not_le], rfl⟩
      · refine j_iload3 dX5_drawn_28 ?_
        refine j_iconst (v := 3) dX5_drawn_29 (by decide) ?_
        refine j_icmp_le (tgt := 39) dX5_drawn_30 (by decide) (fun c30 => ?_) (fun c30 => ?_)
        · have c20' := c20
          rw [hrd] at c20'
          obtain ⟨kk, hkk, rfl⟩ := i_nat (by omega) c9 c20'
          obtain ⟨ww, hww, rfl⟩ := i_natc (n := 3) rfl (by decide) c25 c30
          refine j_aload0 dX5_drawn_39 ?_
          refine j_iload1 dX5_drawn_40 ?_
          refine j_sipush (v := nI 1153) dX5_drawn_41 (by decide) ?_
          refine j_iconst (v := nI 4) dX5_drawn_44 (by decide) ?_
          refine j_iload2 dX5_drawn_45 ?_
          refine j_imulN dX5_drawn_46 ?_
          refine j_iaddN dX5_drawn_47 ?_
          refine j_iload3 dX5_drawn_48 ?_
          refine j_iaddN dX5_drawn_49 ?_
          refine cd_X5_41 rfl (s_get hM ha (by first | decide | exact ix_lt hs (by decide) | omega)) hM.1 dX5_drawn_50 rfl rfl ?_
          refine j_lret dX5_drawn_53 rfl ?_
          exact ⟨_, rfl, by simp_all [fDrawn, ← Int32.not_le, ← Int64.not_le, nI_clamp (show kk < 2 ^ 31 by omega), nI_clamp (show ww < 2 ^ 31 by omega)], rfl⟩
        · refine j_ldc2 dX5_drawn_33 wT_kl_X5_66 ?_
          refine j_goto (tgt := 53) dX5_drawn_36 (by decide) ?_
          refine j_lret dX5_drawn_53 rfl ?_
          exact ⟨_, rfl, by simp_all [fDrawn, ← Int32.not_le], rfl⟩
theorem sb_replace {r s w : Int32} (hM : MSh h.1 M) (hr : isRi h M r = false) : DI cx mX5_replace 4 h [.ref M, .int r, .int s, .int w] 1 h := by
  refine Sp.of 1 (by decide) (Nat.le_of_ble_eq_true rfl) rfl ?_
  refine j_aload0 dX5_replace_0 ?_
  refine j_iload1 dX5_replace_1 ?_
  refine j_iload2 dX5_replace_2 ?_
  refine cd_X5_81 rfl (sb_against hM hr) hM.1 dX5_replace_3 rfl rfl ?_
  refine j_istore4 dX5_replace_6 (by decide) trivial ?_
  refine j_iload4 dX5_replace_8 ?_
  refine j_if_eq (tgt := 23) dX5_replace_10 (by decide) (fun c10 => by simp at c10) (fun c10 => ?_)
  refine j_iload4 dX5_replace_13 ?_
  refine j_bipush (v := 10) dX5_replace_15 (by decide) ?_
  refine j_icmp_eq (tgt := 23) dX5_replace_17 (by decide) (fun c17 => by simp at c17) (fun c17 => ?_)
  refine j_iload4 dX5_replace_20 ?_
  refine j_iret dX5_replace_22 rfl rfl ?_
  exact ⟨_, rfl, rfl, rfl⟩
theorem s_replace {seat w : Int32} (hM : MSh h.1 M) (ha : a < 40) (hr : isRi h M (nI a) = true) : DI cx mX5_replace 4 (mh h M a f) [.ref M, .int (nI a), .int seat, .int w] (fReplace f (sN seat) w).1 (mh h M a (fReplace f (sN seat) w).2) := by
  rcases sN_cases seat with ⟨hso, hsn⟩ | ⟨s, hs, rfl, hso⟩ <;> rw [hso]
  · refine Sp.of 1 (by decide) (Nat.le_of_ble_eq_true rfl) rfl ?_
    refine j_aload0 dX5_replace_0 ?_
    refine j_iload1 dX5_replace_1 ?_
    refine j_iload2 dX5_replace_2 ?_
    refine cd_X5_81 rfl (s_against hM ha hr) hM.1 dX5_replace_3 rfl rfl ?_
    refine j_istore4 dX5_replace_6 (by decide) trivial ?_
    refine j_iload4 dX5_replace_8 ?_
    refine j_if_eq (tgt := 23) dX5_replace_10 (by decide) (fun c10 => ?_) (fun c10 => ?_)
    · exfalso; rw [hso] at *; unfold ag at *; dsimp only at *; split at c10 <;> simp_all
    · refine j_iload4 dX5_replace_13 ?_
      refine j_bipush (v := 10) dX5_replace_15 (by decide) ?_
      refine j_icmp_eq (tgt := 23) dX5_replace_17 (by decide) (fun c17 => ?_) (fun c17 => ?_)
      · exfalso; rw [hso] at *; unfold ag at *; dsimp only at *; split at c10 <;> simp_all
      · refine j_iload4 dX5_replace_20 ?_
        refine j_iret dX5_replace_22 rfl rfl ?_
        exact ⟨_, rfl, by simp_all [fReplace], by simp_all [fReplace]⟩
  · refine Sp.of 1 (by decide) (Nat.le_of_ble_eq_true rfl) rfl ?_
    refine j_aload0 dX5_replace_0 ?_
    refine j_iload1 dX5_replace_1 ?_
    refine j_iload2 dX5_replace_2 ?_
    refine cd_X5_81 rfl (s_against hM ha hr) hM.1 dX5_replace_3 rfl rfl ?_
    refine j_istore4 dX5_replace_6 (by decide) trivial ?_
    refine j_iload4 dX5_replace_8 ?_
    refine j_if_eq (tgt := 23) dX5_replace_10 (by decide) (fun c10 => ?_) (fun c10 => ?_)
    · refine j_iload4 dX5_replace_23 ?_
      refine j_if_ne (tgt := 31) dX5_replace_25 (by decide) (fun c25 => ?_) (fun c25 => ?_)
      · refine j_iload3 dX5_replace_31 ?_
        refine j_iconst (v := 2) dX5_replace_32 (by decide) ?_
        refine j_icmp_lt (tgt := 41) dX5_replace_33 (by decide) (fun c33 => ?_) (fun c33 => ?_)
        · refine j_iconst (v := 4) dX5_replace_41 (by decide) ?_
          refine j_iret dX5_replace_42 rfl rfl ?_
          exact ⟨_, rfl, by simp_all [fReplace, ← Int32.not_le], by simp_all [fReplace, ← Int32.not_le]⟩
        · refine j_iload3 dX5_replace_36 ?_
          refine j_iconst (v := 4) dX5_replace_37 (by decide) ?_
          refine j_icmp_le (tgt := 43) dX5_replace_38 (by decide) (fun c38 => ?_) (fun c38 => ?_)
          · refine j_aload0 dX5_replace_43 ?_
            refine j_iload1 dX5_replace_44 ?_
            refine j_iload2 dX5_replace_45 ?_
            refine j_iconst (v := nI 0) dX5_replace_46 (by decide) ?_
            refine cd_X5_37 rfl (s_at) dX5_replace_47 rfl rfl ?_
            refine j_iload3 dX5_replace_50 ?_
            refine j_i2l dX5_replace_51 ?_
            refine cd_X5_62 rfl (s_set hM ha (by first | decide | exact ix_lt hs (by decide) | omega)) hM.1 dX5_replace_52 rfl rfl ?_
            refine j_aload0 dX5_replace_55 ?_
            refine j_iload1 dX5_replace_56 ?_
            refine j_iload2 dX5_replace_57 ?_
            refine j_iconst (v := nI 4) dX5_replace_58 (by decide) ?_
            refine cd_X5_37 rfl (s_at) dX5_replace_59 rfl rfl ?_
            refine j_lconst (v := 0) dX5_replace_62 (by decide) ?_
            refine cd_X5_62 rfl (s_set hM ha (by first | decide | exact ix_lt hs (by decide) | omega)) hM.1 dX5_replace_63 rfl rfl ?_
            refine j_aload0 dX5_replace_66 ?_
            refine j_iload1 dX5_replace_67 ?_
            refine j_iload2 dX5_replace_68 ?_
            refine j_bipush (v := nI 6) dX5_replace_69 (by decide) ?_
            refine cd_X5_37 rfl (s_at) dX5_replace_71 rfl rfl ?_
            refine j_lconst (v := 0) dX5_replace_74 (by decide) ?_
            refine cd_X5_62 rfl (s_set hM ha (by first | decide | exact ix_lt hs (by decide) | omega)) hM.1 dX5_replace_75 rfl rfl ?_
            refine j_aload0 dX5_replace_78 ?_
            refine j_iload1 dX5_replace_79 ?_
            refine j_iload2 dX5_replace_80 ?_
            refine j_bipush (v := nI 8) dX5_replace_81 (by decide) ?_
            refine cd_X5_37 rfl (s_at) dX5_replace_83 rfl rfl ?_
            refine j_lconst (v := 0) dX5_replace_86 (by decide) ?_
            refine cd_X5_62 rfl (s_set hM ha (by first | decide | exact ix_lt hs (by decide) | omega)) hM.1 dX5_replace_87 rfl rfl ?_
            refine j_aload0 dX5_replace_90 ?_
            refine j_iload1 dX5_replace_91 ?_
            refine j_iload2 dX5_replace_92 ?_
            refine j_bipush (v := nI 9) dX5_replace_93 (by decide) ?_
            refine cd_X5_37 rfl (s_at) dX5_replace_95 rfl rfl ?_
            refine j_lconst (v := 0) dX5_replace_98 (by decide) ?_
            refine cd_X5_62 rfl (s_set hM ha (by first | decide | exact ix_lt hs (by decide) | omega)) hM.1 dX5_replace_99 rfl rfl ?_
            refine j_aload0 dX5_replace_102 ?_
            refine j_iload1 dX5_replace_103 ?_
            refine j_iload2 dX5_replace_104 ?_
            refine j_bipush (v := nI 10) dX5_replace_105 (by decide) ?_
            refine cd_X5_37 rfl (s_at) dX5_replace_107 rfl rfl ?_
            refine j_lconst (v := 0) dX5_replace_110 (by decide) ?_
            refine cd_X5_62 rfl (s_set hM ha (by first | decide | exact ix_lt hs (by decide) | omega)) hM.1 dX5_replace_111 rfl rfl ?_
            refine j_aload0 dX5_replace_114 ?_
            refine j_iload1 dX5_replace_115 ?_
            refine j_iload2 dX5_replace_116 ?_
            refine j_bipush (v := nI 11) dX5_replace_117 (by decide) ?_
            refine cd_X5_37 rfl (s_at) dX5_replace_119 rfl rfl ?_
            refine j_lconst (v := 0) dX5_replace_122 (by decide) ?_
            refine cd_X5_62 rfl (s_set hM ha (by first | decide | exact ix_lt hs (by decide) | omega)) hM.1 dX5_replace_123 rfl rfl ?_
            refine j_iconst (v := 0) dX5_replace_126 (by decide) ?_
            refine j_iret dX5_replace_127 rfl rfl ?_
            exact ⟨_, rfl, by simp_all [fReplace, ← Int32.not_le], by simp_all [fReplace, ← Int32.not_le]⟩
          · refine j_iconst (v := 4) dX5_replace_41 (by decide) ?_
            refine j_iret dX5_replace_42 rfl rfl ?_
            exact ⟨_, rfl, by simp_all [fReplace, ← Int32.not_le], by simp_all [fReplace, ← Int32.not_le]⟩
      · refine j_bipush (v := 8) dX5_replace_28 (by decide) ?_
        refine j_iret dX5_replace_30 rfl rfl ?_
        exact ⟨_, rfl, by simp_all [fReplace, ← Int32.not_le], by simp_all [fReplace, ← Int32.not_le]⟩
    · refine j_iload4 dX5_replace_13 ?_
      refine j_bipush (v := 10) dX5_replace_15 (by decide) ?_
      refine j_icmp_eq (tgt := 23) dX5_replace_17 (by decide) (fun c17 => ?_) (fun c17 => ?_)
      · refine j_iload4 dX5_replace_23 ?_
        refine j_if_ne (tgt := 31) dX5_replace_25 (by decide) (fun c25 => ?_) (fun c25 => ?_)
        · refine j_iload3 dX5_replace_31 ?_
          refine j_iconst (v := 2) dX5_replace_32 (by decide) ?_
          refine j_icmp_lt (tgt := 41) dX5_replace_33 (by decide) (fun c33 => ?_) (fun c33 => ?_)
          · refine j_iconst (v := 4) dX5_replace_41 (by decide) ?_
            refine j_iret dX5_replace_42 rfl rfl ?_
            exact ⟨_, rfl, by simp_all [fReplace, ← Int32.not_le], by simp_all [fReplace, ← Int32.not_le]⟩
          · refine j_iload3 dX5_replace_36 ?_
            refine j_iconst (v := 4) dX5_replace_37 (by decide) ?_
            refine j_icmp_le (tgt := 43) dX5_replace_38 (by decide) (fun c38 => ?_) (fun c38 => ?_)
            · refine j_aload0 dX5_replace_43 ?_
              refine j_iload1 dX5_replace_44 ?_
              refine j_iload2 dX5_replace_45 ?_
              refine j_iconst (v := nI 0) dX5_replace_46 (by decide) ?_
              refine cd_X5_37 rfl (s_at) dX5_replace_47 rfl rfl ?_
              refine j_iload3 dX5_replace_50 ?_
              refine j_i2l dX5_replace_51 ?_
              refine cd_X5_62 rfl (s_set hM ha (by first | decide | exact ix_lt hs (by decide) | omega)) hM.1 dX5_replace_52 rfl rfl ?_
              refine j_aload0 dX5_replace_55 ?_
              refine j_iload1 dX5_replace_56 ?_
              refine j_iload2 dX5_replace_57 ?_
              refine j_iconst (v := nI 4) dX5_replace_58 (by decide) ?_
              refine cd_X5_37 rfl (s_at) dX5_replace_59 rfl rfl ?_
              refine j_lconst (v := 0) dX5_replace_62 (by decide) ?_
              refine cd_X5_62 rfl (s_set hM ha (by first | decide | exact ix_lt hs (by decide) | omega)) hM.1 dX5_replace_63 rfl rfl ?_
              refine j_aload0 dX5_replace_66 ?_
              refine j_iload1 dX5_replace_67 ?_
              refine j_iload2 dX5_replace_68 ?_
              refine j_bipush (v := nI 6) dX5_replace_69 (by decide) ?_
              refine cd_X5_37 rfl (s_at) dX5_replace_71 rfl rfl ?_
              refine j_lconst (v := 0) dX5_replace_74 (by decide) ?_
              refine cd_X5_62 rfl (s_set hM ha (by first | decide | exact ix_lt hs (by decide) | omega)) hM.1 dX5_replace_75 rfl rfl ?_
              refine j_aload0 dX5_replace_78 ?_
              refine j_iload1 dX5_replace_79 ?_
              refine j_iload2 dX5_replace_80 ?_
              refine j_bipush (v := nI 8) dX5_replace_81 (by decide) ?_
              refine cd_X5_37 rfl (s_at) dX5_replace_83 rfl rfl ?_
              refine j_lconst (v := 0) dX5_replace_86 (by decide) ?_
              refine cd_X5_62 rfl (s_set hM ha (by first | decide | exact ix_lt hs (by decide) | omega)) hM.1 dX5_replace_87 rfl rfl ?_
              refine j_aload0 dX5_replace_90 ?_
              refine j_iload1 dX5_replace_91 ?_
              refine j_iload2 dX5_replace_92 ?_
              refine j_bipush (v := nI 9) dX5_replace_93 (by decide) ?_
              refine cd_X5_37 rfl (s_at) dX5_replace_95 rfl rfl ?_
              refine j_lconst (v := 0) dX5_replace_98 (by decide) ?_
              refine cd_X5_62 rfl (s_set hM ha (by first | decide | exact ix_lt hs (by decide) | omega)) hM.1 dX5_replace_99 rfl rfl ?_
              refine j_aload0 dX5_replace_102 ?_
              refine j_iload1 dX5_replace_103 ?_
              refine j_iload2 dX5_replace_104 ?_
              refine j_bipush (v := nI 10) dX5_replace_105 (by decide) ?_
              refine cd_X5_37 rfl (s_at) dX5_replace_107 rfl rfl ?_
              refine j_lconst (v := 0) dX5_replace_110 (by decide) ?_
              refine cd_X5_62 rfl (s_set hM ha (by first | decide | exact ix_lt hs (by decide) | omega)) hM.1 dX5_replace_111 rfl rfl ?_
              refine j_aload0 dX5_replace_114 ?_
              refine j_iload1 dX5_replace_115 ?_
              refine j_iload2 dX5_replace_116 ?_
              refine j_bipush (v := nI 11) dX5_replace_117 (by decide) ?_
              refine cd_X5_37 rfl (s_at) dX5_replace_119 rfl rfl ?_
              refine j_lconst (v := 0) dX5_replace_122 (by decide) ?_
              refine cd_X5_62 rfl (s_set hM ha (by first | decide | exact ix_lt hs (by decide) | omega)) hM.1 dX5_replace_123 rfl rfl ?_
              refine j_iconst (v := 0) dX5_replace_126 (by decide) ?_
              refine j_iret dX5_replace_127 rfl rfl ?_
              exact ⟨_, rfl, by simp_all [fReplace, ← Int32.not_le], by simp_all [fReplace, ← Int32.not_le]⟩
            · refine j_iconst (v := 4) dX5_replace_41 (by decide) ?_
              refine j_iret dX5_replace_42 rfl rfl ?_
              exact ⟨_, rfl, by simp_all [fReplace, ← Int32.not_le], by simp_all [fReplace, ← Int32.not_le]⟩
        · refine j_bipush (v := 8) dX5_replace_28 (by decide) ?_
          refine j_iret dX5_replace_30 rfl rfl ?_
          exact ⟨_, rfl, by simp_all [fReplace, ← Int32.not_le], by simp_all [fReplace, ← Int32.not_le]⟩
      · refine j_iload4 dX5_replace_20 ?_
        refine j_iret dX5_replace_22 rfl rfl ?_
        exact ⟨_, rfl, by simp_all [fReplace, ← Int32.not_le], by simp_all [fReplace, ← Int32.not_le]⟩
theorem sb_fair {r : Int32} (hM : MSh h.1 M) (hr : isRi h M r = false) : DI cx mX5_fair 4 h [.ref M, .int r] (-1) h := by
  refine Sp.of 1 (by decide) (Nat.le_of_ble_eq_true rfl) rfl ?_
  refine j_aload0 dX5_fair_0 ?_
  refine j_iload1 dX5_fair_1 ?_
  refine cd_X5_68 rfl (s_isRing _ hM) hM.1 dX5_fair_2 rfl rfl ?_
  refine j_bif_eq (tgt := 42) dX5_fair_5 (by decide) (fun c5 => ?_) (fun c5 => by exact nb c5 hr)
  refine j_iconst (v := (-1)) dX5_fair_42 (by decide) ?_
  refine j_iret dX5_fair_43 rfl rfl ?_
  exact ⟨_, rfl, rfl, rfl⟩
theorem s_fair (hM : MSh h.1 M) (ha : a < 40) (hr : isRi h M (nI a) = true) : DI cx mX5_fair 4 (mh h M a f) [.ref M, .int (nI a)] (fFair f) (mh h M a f) := by
  refine Sp.ofQ 1 (by decide) (Nat.le_of_ble_eq_true rfl) rfl (fun Q hQ => ?_)
  have L1 : f 0 = 0 → ¬ f 4 = 0 → f 8 ≤ 0 → J cx mX5_fair (Rm 4 0 0) (mh h M a f) 46 [some (.ref M), some (.int (nI a)), some (.int (nI 0))] [] 0 0 Q := by
    intro h0 h4 h8
    refine dnI (I := fun n => fnd (fun s => isFu f s && (decide (f (ix s 3) = 1) && !decide (f (ix s 9) = pur f))) n = none) (P := fun n => J cx mX5_fair (Rm 4 0 0) (mh h M a f) 46 [some (.ref M), some (.int (nI a)), some (.int (nI n))] [] 0 0 Q) 60 rfl ?_ ?_
    · intro hn
      refine j_iload2 dX5_fair_46 ?_
      refine j_bipush (v := nI 60) dX5_fair_47 (by decide) ?_
      refine j_icmpN_ge (tgt := 104) (by first | decide | omega) (by first | decide | omega) dX5_fair_49 (by decide) (fun c49 => ?_) (fun c49 => by omega)
      refine j_iconst (v := 1) dX5_fair_104 (by decide) ?_
      refine j_iret dX5_fair_105 rfl rfl ?_
      exact hQ _ _ ⟨_, rfl, by simp [fFair, h0, h4, Int64.not_lt.mpr h8, hn], rfl⟩
    · intro s hs hf ih
      refine j_iload2 dX5_fair_46 ?_
      refine j_bipush (v := nI 60) dX5_fair_47 (by decide) ?_
      refine j_icmpN_ge (tgt := 104) (by first | decide | omega) (by first | decide | omega) dX5_fair_49 (by decide) (fun c49 => by omega) (fun c49 => ?_)
      refine j_aload0 dX5_fair_52 ?_
      refine j_iload1 dX5_fair_53 ?_
      refine j_iload2 dX5_fair_54 ?_
      refine cd_X5_170 rfl (s_isFull hM ha hs) hM.1 dX5_fair_55 rfl rfl ?_
      refine j_bif_eq (tgt := 98) dX5_fair_58 (by decide) (fun c58 => ?_) (fun c58 => ?_)
      · refine j_iincN2 dX5_fair_98 (by decide) trivial ?_
        refine j_goto (tgt := 46) dX5_fair_101 (by decide) ?_
        exact ih (by simp_all [fnd])
      · refine j_aload0 dX5_fair_61 ?_
        refine j_iload1 dX5_fair_62 ?_
        refine j_iload2 dX5_fair_63 ?_
        refine j_iconst (v := nI 3) dX5_fair_64 (by decide) ?_
        refine cd_X5_37 rfl (s_at) dX5_fair_65 rfl rfl ?_
        refine cd_X5_41 rfl (s_get hM ha (by first | decide | exact ix_lt hs (by decide) | omega)) hM.1 dX5_fair_68 rfl rfl ?_
        refine j_lconst (v := 1) dX5_fair_71 (by decide) ?_
        refine j_lcmp_ne (tgt := 98) dX5_fair_72 dX5_fair_73 (by decide) (fun c72 => ?_) (fun c72 => ?_)
        · refine j_iincN2 dX5_fair_98 (by decide) trivial ?_
          refine j_goto (tgt := 46) dX5_fair_101 (by decide) ?_
          exact ih (by simp_all [fnd])
        · refine j_aload0 dX5_fair_76 ?_
          refine j_iload1 dX5_fair_77 ?_
          refine j_iload2 dX5_fair_78 ?_
          refine j_bipush (v := nI 9) dX5_fair_79 (by decide) ?_
          refine cd_X5_37 rfl (s_at) dX5_fair_81 rfl rfl ?_
          refine cd_X5_41 rfl (s_get hM ha (by first | decide | exact ix_lt hs (by decide) | omega)) hM.1 dX5_fair_84 rfl rfl ?_
          refine j_aload0 dX5_fair_87 ?_
          refine j_iload1 dX5_fair_88 ?_
          refine cd_X5_98 rfl (s_purse hM ha) hM.1 dX5_fair_89 rfl rfl ?_
          refine j_lcmp_eq (tgt := 98) dX5_fair_92 dX5_fair_93 (by decide) (fun c92 => ?_) (fun c92 => ?_)
          · refine j_iincN2 dX5_fair_98 (by decide) trivial ?_
            refine j_goto (tgt := 46) dX5_fair_101 (by decide) ?_
            exact ih (by simp_all [fnd])
          · refine j_iconst (v := 0) dX5_fair_96 (by decide) ?_
            refine j_iret dX5_fair_97 rfl rfl ?_
            exact hQ _ _ ⟨_, rfl, by simp [fFair, h0, h4, Int64.not_lt.mpr h8, fnd_at hf (show (isFu f s && (decide (f (ix s 3) = 1) && !decide (f (ix s 9) = pur f))) = true by simp [*]) 60 hs], rfl⟩
  refine j_aload0 dX5_fair_0 ?_
  refine j_iload1 dX5_fair_1 ?_
  refine cd_X5_68 rfl (s_isRing _ hM) hM.1 dX5_fair_2 rfl rfl ?_
  refine j_bif_eq (tgt := 42) dX5_fair_5 (by decide) (fun c5 => by exact nb hr c5) (fun c5 => ?_)
  refine j_aload0 dX5_fair_8 ?_
  refine j_iload1 dX5_fair_9 ?_
  refine j_iconst (v := nI 0) dX5_fair_10 (by decide) ?_
  refine cd_X5_41 rfl (s_get hM ha (by first | decide | exact ix_lt hs (by decide) | omega)) hM.1 dX5_fair_11 rfl rfl ?_
  refine j_lconst (v := 0) dX5_fair_14 (by decide) ?_
  refine j_lcmp_ne (tgt := 42) dX5_fair_15 dX5_fair_16 (by decide) (fun c15 => ?_) (fun c15 => ?_)
  · refine j_iconst (v := (-1)) dX5_fair_42 (by decide) ?_
    refine j_iret dX5_fair_43 rfl rfl ?_
    exact hQ _ _ ⟨_, rfl, by simp_all [fFair, ← Int64.not_le], rfl⟩
  · refine j_aload0 dX5_fair_19 ?_
    refine j_iload1 dX5_fair_20 ?_
    refine j_iconst (v := nI 4) dX5_fair_21 (by decide) ?_
    refine cd_X5_41 rfl (s_get hM ha (by first | decide | exact ix_lt hs (by decide) | omega)) hM.1 dX5_fair_22 rfl rfl ?_
    refine j_lconst (v := 0) dX5_fair_25 (by decide) ?_
    refine j_lcmp_eq (tgt := 42) dX5_fair_26 dX5_fair_27 (by decide) (fun c26 => ?_) (fun c26 => ?_)
    · refine j_iconst (v := (-1)) dX5_fair_42 (by decide) ?_
      refine j_iret dX5_fair_43 rfl rfl ?_
      exact hQ _ _ ⟨_, rfl, by simp_all [fFair, ← Int64.not_le], rfl⟩
    · refine j_aload0 dX5_fair_30 ?_
      refine j_iload1 dX5_fair_31 ?_
      refine j_bipush (v := nI 8) dX5_fair_32 (by decide) ?_
      refine cd_X5_41 rfl (s_get hM ha (by first | decide | exact ix_lt hs (by decide) | omega)) hM.1 dX5_fair_34 rfl rfl ?_
      refine j_lconst (v := 0) dX5_fair_37 (by decide) ?_
      refine j_lcmp_le (tgt := 44) dX5_fair_38 dX5_fair_39 (by decide) (fun c38 => ?_) (fun c38 => ?_)
      · refine j_iconst (v := nI 0) dX5_fair_44 (by decide) ?_
        refine j_istore2 dX5_fair_45 (by decide) trivial ?_
        exact L1 c15 c26 c38
      · refine j_iconst (v := (-1)) dX5_fair_42 (by decide) ?_
        refine j_iret dX5_fair_43 rfl rfl ?_
        exact hQ _ _ ⟨_, rfl, by simp_all [fFair, ← Int64.not_le], rfl⟩
end

