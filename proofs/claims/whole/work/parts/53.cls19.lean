/-! calls of a nest mate's own; arrays copied; a number between two others -/
theorem wT_acL : Cond.methodLink RX2 56 arraycopyName ∈ Tb := inT (List.mem_of_getElem? (i := 692) (by decide +kernel)) rfl
theorem wT_acS : Cond.static arraycopyName ∈ Tb := inT (List.mem_of_getElem? (i := 693) (by decide +kernel)) rfl
theorem wT_acN : Cond.native arraycopyName ∈ Tb := inT (List.mem_of_getElem? (i := 694) (by decide +kernel)) rfl
theorem wT_acI : Cond.initialized arraycopyName.cls ∈ Tb := wT_ini_J10
def cpAI (h : Hp) (a0 a N : Nat) : Hp := (h.1, (fun x y => if x = a ∧ y < N then h.2.1 a0 y else h.2.1 x y, h.2.2))
def cpAL (h : Hp) (a0 a N : Nat) : Hp := (h.1, (h.2.1, fun x y => if x = a ∧ y < N then h.2.2 a0 y else h.2.2 x y))
def wn (x lo hi : Int64) : Bool := decide (lo ≤ x) && decide (x ≤ hi)
section
variable {cx : Cx} {mt : Mt} {R : Room} {h : Hp} {pc : Nat} {ls : List (Option Value)} {st : List Value} {bc bs : Nat} {Q : Option Value → Hp → Prop}
theorem cal_n {s : State} {args : Array Value} {own host : String} {mt' : Mt} {idx n d mc ms : Nat} (hc : CalOK mt' n) (hts : ∀ w ∈ Tb, w.before args s = true) (hw : va_Nw (.methodLinkNest own idx mt'.1 host) s) (hR : d + 1 ≤ R.frames ∧ 40 * d + 40 ≤ R.locals) :
    va_CN R s args own idx mt'.1 host mt'.2.1 mt'.2.2.1 mt'.2.2.2 (Cond.code mt'.1 mt'.2.1 mt'.2.2.1 mt'.2.2.2 :: Tb) (Rm d mc ms) mc ms n :=
  va_cnB n hts (Tb_code hc) rfl rfl rfl hw (hts _ hc.2.1) ⟨hc.2.2.1.1, hc.2.2.1.2, hc.2.2.2.1⟩ ⟨hR.1, by show 8 + (mt'.2.2.1 + 11) + 40 * d ≤ R.locals; have := hc.2.2.2.2; have := hR.2; omega⟩
theorem cd_X2_94 {y0 : Int32} {h0 : Hp} {x0 x1 x2 : Int64} {d0 : Nat} (ho : mt.1.cls = RX2) (S : DI cx mX4_within d0 h [.long x0, .long x1, .long x2] y0 h0) (dc : decode mt.2.1 pc = .ok (.invokestatic 94, 3)) (hst : stok st = true) (hR : rok d0 R = true) (K : J cx mt R h0 (pc + 3) ls (.int y0 :: st) bc bs Q) : J cx mt R h pc ls (.long x2 :: .long x1 :: .long x0 :: st) bc bs Q := by
  refine j_back (mt' := mX4_within) (Q' := Ri fun y g => y = y0 ∧ g = h0) (d := d0) (av := [.long x0, .long x1, .long x2]) (rest := st) (mc := 0) (ms := 0) (fun p l e s m args below meth cd H locs cells slots lsA C a1 a3 a4 a5 => ?_) (Nat.zero_le _) (Nat.zero_le _) (fun v h' q => by obtain ⟨x, rfl, q1, q2⟩ := q; rw [q1, q2]; exact K)
  obtain ⟨hx, hb, hml, hret, hlk, hown, hts, hKK, hnm⟩ := id C
  have hw := hKK.2.2.1.1
  rw [← ho] at hw
  exact va_runSN (As := [.long x0, .long x1, .long x2]) ⟨hx, hb, hml, hown, hts⟩ (S l) ⟨cal_n co_X4_within hts hw (rok_of hR), hts _ sm_X4_within, trivial⟩ ⟨Pcx.blind, fun U hU hW => Pcx.go a1 hKK hU hW⟩ rfl rfl a3.1 rfl (lv_room (stok_of hst)) dc ⟨a4, a5⟩
theorem cd_X2_68 {h0 : Hp} {b d0 : Nat} (ho : mt.1.cls = RX2) (S : DV cx mX3_init d0 h [.ref b] h0) (dc : decode mt.2.1 pc = .ok (.invokespecial 68, 3)) (hst : stok st = true) (hR : rok d0 R = true) (K : J cx mt R h0 (pc + 3) ls st bc bs Q) : J cx mt R h pc ls (.ref b :: st) bc bs Q := by
  refine j_back (mt' := mX3_init) (Q' := Rv fun g => g = h0) (d := d0) (av := [.ref b]) (rest := st) (mc := 0) (ms := 0) (fun p l e s m args below meth cd H locs cells slots lsA C a1 a3 a4 a5 => ?_) (Nat.zero_le _) (Nat.zero_le _) (fun v h' q => by obtain ⟨rfl, q⟩ := q; rw [q]; exact K)
  obtain ⟨hx, hb, hml, hret, hlk, hown, hts, hKK, hnm⟩ := id C
  have hw := hKK.2.2.1.2
  rw [← ho] at hw
  exact va_runIN (b := b) (As := []) ⟨hx, hb, hml, hown, hts⟩ (S l) ⟨cal_n co_X3_init hts hw (rok_of hR), rfl, hts _ im_X3_init⟩ ⟨Pcx.blind, fun U hU hW => Pcx.go a1 hKK hU hW⟩ rfl rfl a3.1 rfl (lv_room (stok_of hst)) dc ⟨a4, a5⟩
theorem cpAI_i {h : Hp} {a0 a N : Nat} : (cpAI h a0 a N).i a = va_cpy (h.i a0) (h.i a) 0 0 N := by
  funext y
  show (if a = a ∧ y < N then h.2.1 a0 y else h.2.1 a y) = if 0 ≤ y ∧ y < 0 + N then h.2.1 a0 (0 + (y - 0)) else h.2.1 a y
  by_cases z : y < N
  · rw [if_pos ⟨rfl, z⟩, if_pos ⟨Nat.zero_le _, by omega⟩, Nat.zero_add, Nat.sub_zero]
  · rw [if_neg (fun q => z q.2), if_neg (fun q => z (by omega))]
theorem cpAL_l {h : Hp} {a0 a N : Nat} : (cpAL h a0 a N).l a = va_cpy (h.l a0) (h.l a) 0 0 N := by
  funext y
  show (if a = a ∧ y < N then h.2.2 a0 y else h.2.2 a y) = if 0 ≤ y ∧ y < 0 + N then h.2.2 a0 (0 + (y - 0)) else h.2.2 a y
  by_cases z : y < N
  · rw [if_pos ⟨rfl, z⟩, if_pos ⟨Nat.zero_le _, by omega⟩, Nat.zero_add, Nat.sub_zero]
  · rw [if_neg (fun q => z q.2), if_neg (fun q => z (by omega))]
theorem j_copyI {a0 a n0 n1 : Nat} {n : Int32} (ho : mt.1.cls = RX2) (hk0 : h.kd a0 = kInts n0) (hk1 : h.kd a = kInts n1) (hn : ¬ n < 0) (hni : n.toInt = (n.toNatClampNeg : Int)) (h4 : n.toNatClampNeg ≤ n0) (h5 : n.toNatClampNeg ≤ n1) (hR : rok 0 R = true) (hst : stok st = true) (d : decode mt.2.1 pc = .ok (.invokestatic 56, 3))
    (K : J cx mt R (cpAI h a0 a n.toNatClampNeg) (pc + 3) ls st bc bs Q) : J cx mt R h pc ls (.int n :: .int 0 :: .ref a :: .int 0 :: .ref a0 :: st) bc bs Q := by
  intro p l e s m args below meth cd H locs cells slots lsA Z C a1 a2 a3 a4 a5 kk
  obtain ⟨hx, hb, hml, hret, hlk, hown, hts, hKK, hnm⟩ := id C
  have hw : Cond.methodLink mt.1.cls 56 arraycopyName ∈ Tb := by rw [ho]; exact wT_acL
  intro T hT X
  have hc0 := (a1.ints hk0).2
  obtain ⟨hab, hc1⟩ := a1.ints hk1
  have hA := hKK.1.2 0 _ rfl
  obtain ⟨-, k0, hq0, cm0, hkk0⟩ := hA.1 n0 (fun j => .int (h.i a0 j))
  obtain ⟨-, k1, hq1, cm1, hkk1⟩ := hA.1 n1 (fun j => .int (h.i a j))
  have hz : (0 : Int32).toNatClampNeg = 0 := by decide
  have hz2 : (0 : Int32).toInt = 0 := by decide
  obtain ⟨vm', X', step⟩ := X.arraycopy hx hown (hts _ hw) (hts _ wT_acN) (hts _ wT_acS) (hts _ wT_acI) (src := a0) (dst := a) (cs := vp_cell (cx.2.2.1 0) (n0, .inl (h.i a0))) (cd := vp_cell (cx.2.2.1 0) (n1, .inl (h.i a))) (srcPos := 0) (destPos := 0) (n := n) (by rw [hT]; exact hc0) (by rw [hT]; exact hc1)
    (fun _ h => by cases h) (fun _ h => by cases h) (fun h => by cases h) (fun h => by cases h) hq0 hq1 hkk0 hkk1 rfl (by decide) (by decide) hn
    (by rw [hz2, hni]; show ¬ _ > ((arrV (cx.2.2.1 0) n0 (fun j => .int (h.i a0 j))).slots.size : Int); rw [arrV_size]; omega)
    (by rw [hz2, hni]; show ¬ _ > ((arrV (cx.2.2.1 0) n1 (fun j => .int (h.i a j))).slots.size : Int); rw [arrV_size]; omega)
    (fun vm₁ _ i hi => by
      have e : (vp_cell (cx.2.2.1 0) (n0, .inl (h.i a0))).slots.getD ((0 : Int32).toNatClampNeg + i) .null = .int (h.i a0 ((0 : Int32).toNatClampNeg + i)) := by
        show (arrV (cx.2.2.1 0) n0 (fun j => .int (h.i a0 j))).slots.getD _ _ = _
        rw [Array.getD_eq_getD_getElem?, arrV_read _ _ (by rw [hz]; omega)]
        rfl
      rw [e]
      exact ⟨rfl, trivial⟩)
    (g := F0 m pc lsA (.int n :: .int 0 :: .ref a :: .int 0 :: .ref a0 :: st)) rfl (by rw [hml]; exact a3.1) (rest := st) rfl (by rw [hb]; exact d) (by have := (rok_of hR).1; omega) (by
      have q1 := stok_of hst
      have q2 := (rok_of hR).2
      have q3 : nativeFrameWords "java/lang/System" "arraycopy" 5 = 7 := by decide
      show 2 * 0 + _ + _ ≤ _
      rw [q3]
      omega)
  have e1 : copied (vp_cell (cx.2.2.1 0) (n0, .inl (h.i a0))) (vp_cell (cx.2.2.1 0) (n1, .inl (h.i a))) 0 0 n = vp_cell (cx.2.2.1 0) (n1, .inl (va_cpy (h.i a0) (h.i a) 0 0 n.toNatClampNeg)) := va_copied (fun z => .int z) (cx.2.2.1 0) (cx.2.2.1 0) (h.i a0) (h.i a) (sp := 0) (dp := 0) (by omega)
  rw [e1] at X' step
  have hl : a < H.size := (Array.getElem?_eq_some_iff.mp hc1).1
  generalize hcell : vp_cell (cx.2.2.1 0) (n1, .inl (va_cpy (h.i a0) (h.i a) 0 0 n.toNatClampNeg)) = cell at X' step
  have hheap : ((T.setVm vm').setCell a cell).heap = H.setIfInBounds a cell := by rw [← hT]; rfl
  have oq : ∀ q : Nat, q ≠ a → (H.setIfInBounds a cell)[q]? = H[q]? := fun q hq => by simp [Array.getElem?_setIfInBounds, Ne.symm hq]
  obtain ⟨t, b1, b2⟩ := K p l e s m args below meth cd (H.setIfInBounds a cell) _ cells slots lsA Z C (a1.set (h' := cpAI h a0 a n.toNatClampNeg) hab rfl rfl (by simp) oq (fun x hx => by funext y; exact if_neg (fun z => hx z.1)) (fun _ _ => rfl) (fun _ _ => rfl) (by
      rw [cE_ints (h := cpAI h a0 a n.toNatClampNeg) (n := n1) hk1, cpAI_i]
      show (H.setIfInBounds a cell)[a]? = some _
      rw [hcell]
      simp [Array.getElem?_setIfInBounds, hl])) (fun q hq => by
      rcases List.mem_append.mp hq with h3 | h3
      · exact a2 q h3
      · obtain ⟨z, -, hz⟩ := List.mem_map.mp h3
        rw [← hz]
        exact hab) a3 a4 a5 kk _ hheap X'
  exact ⟨t, step t b1, b2⟩
theorem j_copyL {a0 a n0 n1 : Nat} {n : Int32} (ho : mt.1.cls = RX2) (hk0 : h.kd a0 = kLongs n0) (hk1 : h.kd a = kLongs n1) (hn : ¬ n < 0) (hni : n.toInt = (n.toNatClampNeg : Int)) (h4 : n.toNatClampNeg ≤ n0) (h5 : n.toNatClampNeg ≤ n1) (hR : rok 0 R = true) (hst : stok st = true) (d : decode mt.2.1 pc = .ok (.invokestatic 56, 3))
    (K : J cx mt R (cpAL h a0 a n.toNatClampNeg) (pc + 3) ls st bc bs Q) : J cx mt R h pc ls (.int n :: .int 0 :: .ref a :: .int 0 :: .ref a0 :: st) bc bs Q := by
  intro p l e s m args below meth cd H locs cells slots lsA Z C a1 a2 a3 a4 a5 kk
  obtain ⟨hx, hb, hml, hret, hlk, hown, hts, hKK, hnm⟩ := id C
  have hw : Cond.methodLink mt.1.cls 56 arraycopyName ∈ Tb := by rw [ho]; exact wT_acL
  intro T hT X
  have hc0 := (a1.longs hk0).2
  obtain ⟨hab, hc1⟩ := a1.longs hk1
  have hA := hKK.1.2 1 _ rfl
  obtain ⟨-, k0, hq0, cm0, hkk0⟩ := hA.1 n0 (fun j => .long (h.l a0 j))
  obtain ⟨-, k1, hq1, cm1, hkk1⟩ := hA.1 n1 (fun j => .long (h.l a j))
  have hz : (0 : Int32).toNatClampNeg = 0 := by decide
  have hz2 : (0 : Int32).toInt = 0 := by decide
  obtain ⟨vm', X', step⟩ := X.arraycopy hx hown (hts _ hw) (hts _ wT_acN) (hts _ wT_acS) (hts _ wT_acI) (src := a0) (dst := a) (cs := vp_cell (cx.2.2.1 1) (n0, .inr (.inl (h.l a0)))) (cd := vp_cell (cx.2.2.1 1) (n1, .inr (.inl (h.l a)))) (srcPos := 0) (destPos := 0) (n := n) (by rw [hT]; exact hc0) (by rw [hT]; exact hc1)
    (fun _ h => by cases h) (fun _ h => by cases h) (fun h => by cases h) (fun h => by cases h) hq0 hq1 hkk0 hkk1 rfl (by decide) (by decide) hn
    (by rw [hz2, hni]; show ¬ _ > ((arrV (cx.2.2.1 1) n0 (fun j => .long (h.l a0 j))).slots.size : Int); rw [arrV_size]; omega)
    (by rw [hz2, hni]; show ¬ _ > ((arrV (cx.2.2.1 1) n1 (fun j => .long (h.l a j))).slots.size : Int); rw [arrV_size]; omega)
    (fun vm₁ _ i hi => by
      have e : (vp_cell (cx.2.2.1 1) (n0, .inr (.inl (h.l a0)))).slots.getD ((0 : Int32).toNatClampNeg + i) .null = .long (h.l a0 ((0 : Int32).toNatClampNeg + i)) := by
        show (arrV (cx.2.2.1 1) n0 (fun j => .long (h.l a0 j))).slots.getD _ _ = _
        rw [Array.getD_eq_getD_getElem?, arrV_read _ _ (by rw [hz]; omega)]
        rfl
      rw [e]
      exact ⟨rfl, trivial⟩)
    (g := F0 m pc lsA (.int n :: .int 0 :: .ref a :: .int 0 :: .ref a0 :: st)) rfl (by rw [hml]; exact a3.1) (rest := st) rfl (by rw [hb]; exact d) (by have := (rok_of hR).1; omega) (by
      have q1 := stok_of hst
      have q2 := (rok_of hR).2
      have q3 : nativeFrameWords "java/lang/System" "arraycopy" 5 = 7 := by decide
      show 2 * 0 + _ + _ ≤ _
      rw [q3]
      omega)
  have e1 : copied (vp_cell (cx.2.2.1 1) (n0, .inr (.inl (h.l a0)))) (vp_cell (cx.2.2.1 1) (n1, .inr (.inl (h.l a)))) 0 0 n = vp_cell (cx.2.2.1 1) (n1, .inr (.inl (va_cpy (h.l a0) (h.l a) 0 0 n.toNatClampNeg))) := va_copied (fun z => .long z) (cx.2.2.1 1) (cx.2.2.1 1) (h.l a0) (h.l a) (sp := 0) (dp := 0) (by omega)
  rw [e1] at X' step
  have hl : a < H.size := (Array.getElem?_eq_some_iff.mp hc1).1
  generalize hcell : vp_cell (cx.2.2.1 1) (n1, .inr (.inl (va_cpy (h.l a0) (h.l a) 0 0 n.toNatClampNeg))) = cell at X' step
  have hheap : ((T.setVm vm').setCell a cell).heap = H.setIfInBounds a cell := by rw [← hT]; rfl
  have oq : ∀ q : Nat, q ≠ a → (H.setIfInBounds a cell)[q]? = H[q]? := fun q hq => by simp [Array.getElem?_setIfInBounds, Ne.symm hq]
  obtain ⟨t, b1, b2⟩ := K p l e s m args below meth cd (H.setIfInBounds a cell) _ cells slots lsA Z C (a1.set (h' := cpAL h a0 a n.toNatClampNeg) hab rfl rfl (by simp) oq (fun _ _ => rfl) (fun x hx => by funext y; exact if_neg (fun z => hx z.1)) (fun _ _ => rfl) (by
      rw [cE_longs (h := cpAL h a0 a n.toNatClampNeg) (n := n1) hk1, cpAL_l]
      show (H.setIfInBounds a cell)[a]? = some _
      rw [hcell]
      simp [Array.getElem?_setIfInBounds, hl])) (fun q hq => by
      rcases List.mem_append.mp hq with h3 | h3
      · exact a2 q h3
      · obtain ⟨z, -, hz⟩ := List.mem_map.mp h3
        rw [← hz]
        exact hab) a3 a4 a5 kk _ hheap X'
  exact ⟨t, step t b1, b2⟩
end
theorem t_within {cx : Cx} {h : Hp} {x lo hi : Int64} : DB cx mX4_within 0 h [.long x, .long lo, .long hi] (wn x lo hi) h := by
  refine Sp.of 0 (by decide) (Nat.le_of_ble_eq_true rfl) rfl ?_
  refine j_lload0 (pc := 0) dX4_within_0 ?_
  refine j_lload2 (pc := 1) dX4_within_1 ?_
  refine j_lcmp_lt (pc := 2) (tgt := 17) dX4_within_2 dX4_within_3 (by decide) (fun c2 => ?_) (fun c2 => ?_)
  · refine j_iconst (pc := 17) (v := 0) dX4_within_17 (by decide) ?_
    refine j_iret (pc := 18) dX4_within_18 rfl rfl ?_
    exact ⟨_, rfl, by simp_all [wn, b2i, ← Int64.not_le], rfl⟩
  · refine j_lload0 (pc := 6) dX4_within_6 ?_
    refine j_lload4 (pc := 7) dX4_within_7 ?_
    refine j_lcmp_gt (pc := 9) (tgt := 17) dX4_within_9 dX4_within_10 (by decide) (fun c9 => ?_) (fun c9 => ?_)
    · refine j_iconst (pc := 17) (v := 0) dX4_within_17 (by decide) ?_
      refine j_iret (pc := 18) dX4_within_18 rfl rfl ?_
      exact ⟨_, rfl, by simp_all [wn, b2i, ← Int64.not_le], rfl⟩
    · refine j_iconst (pc := 13) (v := 1) dX4_within_13 (by decide) ?_
      refine j_goto (pc := 14) (tgt := 18) dX4_within_14 (by decide) ?_
      refine j_iret (pc := 18) dX4_within_18 rfl rfl ?_
      exact ⟨_, rfl, by simp_all [wn, b2i, ← Int64.not_le], rfl⟩

