/-! fields, arrays, making -/
theorem inT {w : Cond} (h : w ∈ lw_tbl) (hg : goodWord w = true) : w ∈ Tb := List.mem_filter.mpr ⟨h, hg⟩
theorem lw_of {w : Cond} (h : w ∈ tables_1) : w ∈ lw_tbl := List.mem_append_right _ h
/-- what is known of class c -/
def ClsOK (c : Nat) : Prop := vwCl[c]? = some (nmC c, tbC c, nC c) ∧ (∀ w ∈ u_ws (nmC c) (tbC c) (nC c), w ∈ Tb) ∧ (∀ k, k < nC c → parseFieldDescriptor (tbC c k).2.2.1 = some (tyC c k)) ∧ (∀ a, a < nC c → ∀ b, b < nC c → a ≠ b → (tbC c a).2.1 ≠ (tbC c b).2.1)
theorem cls_0 : ClsOK 0 := ⟨rfl, fun w h => inT ((by decide +kernel : ∀ w ∈ u_ws RX0 TX0 10, w ∈ lw_tbl) w h) ((by decide +kernel : ∀ w ∈ u_ws RX0 TX0 10, goodWord w = true) w h), tyX0_ok, nmX0⟩
theorem cls_1 : ClsOK 1 := ⟨rfl, fun w h => inT ((by decide +kernel : ∀ w ∈ u_ws RX1 TX1 18, w ∈ lw_tbl) w h) ((by decide +kernel : ∀ w ∈ u_ws RX1 TX1 18, goodWord w = true) w h), tyX1_ok, nmX1⟩
theorem cls_2 : ClsOK 2 := ⟨rfl, fun w h => inT ((by decide +kernel : ∀ w ∈ u_ws RX2 TX2 11, w ∈ lw_tbl) w h) ((by decide +kernel : ∀ w ∈ u_ws RX2 TX2 11, goodWord w = true) w h), tyX2_ok, nmX2⟩
theorem cls_3 : ClsOK 3 := ⟨rfl, fun w h => inT ((by decide +kernel : ∀ w ∈ u_ws RX3 TX3 5, w ∈ lw_tbl) w h) ((by decide +kernel : ∀ w ∈ u_ws RX3 TX3 5, goodWord w = true) w h), tyX3_ok, nmX3⟩
theorem cls_4 : ClsOK 4 := ⟨rfl, fun w h => inT ((by decide +kernel : ∀ w ∈ u_ws RX4 TX4 4, w ∈ lw_tbl) w h) ((by decide +kernel : ∀ w ∈ u_ws RX4 TX4 4, goodWord w = true) w h), tyX4_ok, nmX4⟩
theorem cls_5 : ClsOK 5 := ⟨rfl, fun w h => inT ((by decide +kernel : ∀ w ∈ u_ws RX5 TX5 8, w ∈ lw_tbl) w h) ((by decide +kernel : ∀ w ∈ u_ws RX5 TX5 8, goodWord w = true) w h), tyX5_ok, nmX5⟩
theorem fVs_get {h : Hp} {a c k : Nat} (hk : k < nC c) : ((List.range (nC c)).map (fV h a c))[k]? = some (fV h a c k) := by
  rw [List.getElem?_map, List.getElem?_range hk]
  rfl
theorem fVs_V {h : Hp} {a c k : Nat} (hk : k < nC c) : vp_V ((List.range (nC c)).map (fV h a c)) k = fV h a c k := by
  unfold vp_V
  rw [List.getD_eq_getElem?_getD, fVs_get hk]
  rfl
theorem Rep.recv {cx : Cx} {h : Hp} {H : Heap} (hR : Rep cx h H) {s : State} (hK : KK cx s) {a c : Nat} (hc : ClsOK c) (hk : h.kd a = kObj c) : ∃ cell : Cell, H[a]? = some cell ∧ cell.vm.isStatics = false ∧ s.vm.findClass (nmC c) = some cell.cls := by
  obtain ⟨-, q, h1, cell, g1, g2, g3, -⟩ := hR.obj hk
  have e : q = (nmC c, tbC c, nC c) := Option.some.inj (h1.symm.trans hc.1)
  subst e
  exact ⟨cell, g1, by rw [g3]; rfl, by rw [g2]; exact (hK.1.1 c _ hc.1).2.1⟩
section
variable {cx : Cx} {mt : Mt} {R : Room} {h : Hp} {pc : Nat} {ls : List (Option Value)} {st : List Value} {bc bs : Nat} {Q : Option Value → Hp → Prop}
theorem j_getf (c k : Nat) {a idx : Nat} (hc : ClsOK c) (hkN : k < nC c) (hk : h.kd a = kObj c) (hw : Cond.fieldLink mt.1.cls idx (tbC c k).1 (tbC c k).2.1 (tbC c k).2.2.1 ∈ Tb) (d : decode mt.2.1 pc = .ok (.getfield idx, 3))
    (K : J cx mt R h (pc + 3) ls (fV h a c k :: st) bc bs Q) : J cx mt R h pc ls (.ref a :: st) bc bs Q := by
  intro p l e s m args below meth cd H locs cells slots lsA Z C a1 a2 a3 a4 a5 kk
  have hP : va_P cx.2.1 vwCl [(a, .inr (c, (List.range (nC c)).map (fV h a c)))] H := by
    intro j q hj
    have hz : j < 1 := (List.getElem?_eq_some_iff.mp hj).1
    rw [show j = 0 by omega] at hj
    cases hj
    exact (a1.obj hk).2
  exact va_get C.1 C.2.1 C.2.2.2.2.2.2.1 hc.2.1 C.2.2.2.2.2.1 C.2.2.2.2.2.2.2.1.1 hP 0 rfl hc.1 k hkN (C.2.2.2.2.2.2.1 _ hw) (fun x hx => hx) (fVs_get hkN) d (K p l e s m args below meth cd H locs cells slots lsA Z C a1 a2 a3 a4 a5 kk)
/-- a field is written -/
theorem j_putf (c k : Nat) {a idx : Nat} {v : Value} {h' : Hp} (hc : ClsOK c) (hkN : k < nC c) (hk : h.kd a = kObj c) (hw : Cond.fieldLink mt.1.cls idx (tbC c k).1 (tbC c k).2.1 (tbC c k).2.2.1 ∈ Tb) (hfin : (tbC c k).2.2.2 = false) (hn : narrow (tyC c k) v = v) (hfit : fits (tyC c k) v = true)
    (hn' : h'.n = h.n) (hkd : h'.kd = h.kd) (hi : ∀ x, x ≠ a → h'.i x = h.i x) (hl : ∀ x, x ≠ a → h'.l x = h.l x) (hr : ∀ x, x ≠ a → h'.r x = h.r x) (hv : ∀ j, j < nC c → fV h' a c j = updV (fV h a c) k v j)
    (d : decode mt.2.1 pc = .ok (.putfield idx, 3)) (K : J cx mt R h' (pc + 3) ls st bc bs Q) : J cx mt R h pc ls (v :: .ref a :: st) bc bs Q := by
  intro p l e s m args below meth cd H locs cells slots lsA Z C a1 a2 a3 a4 a5 kk
  obtain ⟨hx, hb, hml, hret, hlk, hown, hts, hKK, hnm⟩ := id C
  have hK := hKK.1
  have hap := va_apart (own := mt.1.cls) hts hc.2.1 (tyC c) hc.2.2.1 hc.2.2.2 hK hc.1
  obtain ⟨hab, q, h1, cell, q1, q2, q3, q4⟩ := a1.obj hk
  have hq : q = (nmC c, tbC c, nC c) := Option.some.inj (h1.symm.trans hc.1)
  subst hq
  obtain ⟨hS, hfc, kC, hkC, hkind⟩ := hK.1 c _ hc.1
  obtain ⟨cf, kf, fi, f, hif, hsl⟩ := hS k hkN
  have hlay := hts _ (hc.2.1 _ (u_in_lay hkN))
  unfold u_lay at hlay
  rw [if_neg (by rw [hfin]; decide)] at hlay
  have hst := (u_facts hfc hkC (u_lays hts hc.2.1 hkN) hif).1
  have h6 := u_store hfc hkC hkind hlay hif (hc.2.2.1 k hkN) hn hfit
  refine W.putK hx hb (f := f) ⟨hown, hts _ hw, ⟨_, _, _, hif⟩, hst⟩ (by rw [q2]; exact h6) q1 q3 (by rw [hsl]; exact k2_hasslot (q4 k hkN)) rfl rfl d fun H' e1 e2 e3 => ?_
  rw [hsl] at e1 ⊢
  refine K p l e s m args below meth cd H' _ cells slots lsA Z C (a1.set hab hn' hkd e2 e3 hi hl hr ?_) (fun z hz => ?_) a3 a4 a5 kk
  · rw [cE_obj (by rw [hkd]; exact hk)]
    refine ⟨_, hc.1, t_OB.to (V := updV (vp_V ((List.range (nC c)).map (fV h a c))) k v) ⟨_, e1, q2, q3, t_set q4 hap hkN v⟩ (fun j hj => ?_)⟩
    rw [fVs_V hj, hv j hj]
    unfold updV
    by_cases hjk : j = k
    · rw [if_pos hjk, if_pos hjk]
    · rw [if_neg hjk, if_neg hjk, fVs_V hj]
  · rcases List.mem_append.mp hz with h7 | h7
    · exact a2 z h7
    · rw [List.mem_singleton.mp h7]
      exact hab
/-- a final field, in a constructor -/
theorem j_putF (c k : Nat) {a idx : Nat} {v : Value} {h' : Hp} (hc : ClsOK c) (hkN : k < nC c) (hk : h.kd a = kObj c) (hw : Cond.fieldLink mt.1.cls idx (tbC c k).1 (tbC c k).2.1 (tbC c k).2.2.1 ∈ Tb) (hfin : (tbC c k).2.2.2 = true) (hin : mt.1.name = "<init>") (hdecl : (tbC c k).1 = mt.1.cls) (hn : narrow (tyC c k) v = v) (hfit : fits (tyC c k) v = true)
    (hn' : h'.n = h.n) (hkd : h'.kd = h.kd) (hi : ∀ x, x ≠ a → h'.i x = h.i x) (hl : ∀ x, x ≠ a → h'.l x = h.l x) (hr : ∀ x, x ≠ a → h'.r x = h.r x) (hv : ∀ j, j < nC c → fV h' a c j = updV (fV h a c) k v j)
    (d : decode mt.2.1 pc = .ok (.putfield idx, 3)) (K : J cx mt R h' (pc + 3) ls st bc bs Q) : J cx mt R h pc ls (v :: .ref a :: st) bc bs Q := by
  intro p l e s m args below meth cd H locs cells slots lsA Z C a1 a2 a3 a4 a5 kk
  obtain ⟨hx, hb, hml, hret, hlk, hown, hts, hKK, hnm⟩ := id C
  have hK := hKK.1
  have hap := va_apart (own := mt.1.cls) hts hc.2.1 (tyC c) hc.2.2.1 hc.2.2.2 hK hc.1
  obtain ⟨hab, q, h1, cell, q1, q2, q3, q4⟩ := a1.obj hk
  have hq : q = (nmC c, tbC c, nC c) := Option.some.inj (h1.symm.trans hc.1)
  subst hq
  obtain ⟨hS, hfc, kC, hkC, hkind⟩ := hK.1 c _ hc.1
  obtain ⟨cf, kf, fi, f, hif, hsl⟩ := hS k hkN
  have hlay := hts _ (hc.2.1 _ (u_in_lay hkN))
  unfold u_lay at hlay
  rw [if_pos hfin] at hlay
  have hst := (u_facts hfc hkC (u_lays hts hc.2.1 hkN) hif).1
  have hcf : m.cls = cf := by
    obtain ⟨_, _, c', _, _, _, -, -, hf', -, -, -, hown2, -⟩ := Cond.laysFinal_spec hlay
    have e1 : c' = cf := by have := hif.symm.trans hf'; simp at this; exact this.1.symm
    rw [hdecl] at hown2
    rw [← e1]; exact Option.some.inj (hown.symm.trans hown2)
  have h6 := u_fits hfc hkC hkind (Or.inr hlay) hif (hc.2.2.1 k hkN) hn hfit
  refine W.putFinK hx hb hown (hts _ hw) hif hst hcf (hnm.trans hin) (by rw [q2]; exact h6) q1 q3 (by rw [hsl]; exact k2_hasslot (q4 k hkN)) rfl rfl d fun H' e1 e2 e3 => ?_
  rw [hsl] at e1 ⊢
  refine K p l e s m args below meth cd H' _ cells slots lsA Z C (a1.set hab hn' hkd e2 e3 hi hl hr ?_) (fun z hz => ?_) a3 a4 a5 kk
  · rw [cE_obj (by rw [hkd]; exact hk)]
    refine ⟨_, hc.1, t_OB.to (V := updV (vp_V ((List.range (nC c)).map (fV h a c))) k v) ⟨_, e1, q2, q3, t_set q4 hap hkN v⟩ (fun j hj => ?_)⟩
    rw [fVs_V hj, hv j hj]
    unfold updV
    by_cases hjk : j = k
    · rw [if_pos hjk, if_pos hjk]
    · rw [if_neg hjk, if_neg hjk, fVs_V hj]
  · rcases List.mem_append.mp hz with h7 | h7
    · exact a2 z h7
    · rw [List.mem_singleton.mp h7]
      exact hab
theorem upI_x {f : Nat → Nat → Int32} {a k : Nat} {v : Int32} {x : Nat} (hx : x ≠ a) : up2 f a k v x = f x := by funext y; exact up2_a f v hx
theorem upL_x {f : Nat → Nat → Int64} {a k : Nat} {v : Int64} {x : Nat} (hx : x ≠ a) : up2 f a k v x = f x := by funext y; exact up2_a f v hx
theorem upR_x {f : Nat → Nat → Option Nat} {a k : Nat} {v : Option Nat} {x : Nat} (hx : x ≠ a) : up2 f a k v x = f x := by funext y; exact up2_a f v hx
theorem fV_setI {c k : Nat} (ht : tyC c k = .int ∨ tyC c k = .boolean) {a : Nat} {x : Int32} : ∀ j, j < nC c → fV (h.setI a k x) a c j = updV (fV h a c) k (.int x) j := by
  intro j _
  unfold updV
  by_cases hj : j = k
  · subst hj
    rw [if_pos rfl]
    rcases ht with ht | ht <;> simp [fV, ht, Hp.setI, Hp.i, Hp.l, Hp.r, up2]
  · rw [if_neg hj]
    simp [fV, Hp.setI, Hp.i, Hp.l, Hp.r, up2, hj]
theorem fV_setL {c k : Nat} (ht : tyC c k = .long) {a : Nat} {x : Int64} : ∀ j, j < nC c → fV (h.setL a k x) a c j = updV (fV h a c) k (.long x) j := by
  intro j _
  unfold updV
  by_cases hj : j = k
  · subst hj
    rw [if_pos rfl]
    simp [fV, ht, Hp.setL, Hp.i, Hp.l, Hp.r, up2]
  · rw [if_neg hj]
    simp [fV, Hp.setL, Hp.i, Hp.l, Hp.r, up2, hj]
theorem fV_setR {c k : Nat} (ht : (∃ t, tyC c k = .array t) ∨ ∃ n, tyC c k = .object n) {a : Nat} {x : Option Nat} : ∀ j, j < nC c → fV (h.setR a k x) a c j = updV (fV h a c) k (va_rf x) j := by
  intro j _
  unfold updV
  by_cases hj : j = k
  · subst hj
    rw [if_pos rfl]
    rcases ht with ⟨t, ht⟩ | ⟨t, ht⟩ <;> simp [fV, ht, Hp.setR, Hp.i, Hp.l, Hp.r, up2]
  · rw [if_neg hj]
    simp [fV, Hp.setR, Hp.i, Hp.l, Hp.r, up2, hj]
theorem j_putI (c k : Nat) {a idx : Nat} {x : Int32} (hc : ClsOK c) (hkN : k < nC c) (ht : tyC c k = .int) (hk : h.kd a = kObj c) (hw : Cond.fieldLink mt.1.cls idx (tbC c k).1 (tbC c k).2.1 (tbC c k).2.2.1 ∈ Tb) (hfin : (tbC c k).2.2.2 = false)
    (d : decode mt.2.1 pc = .ok (.putfield idx, 3)) (K : J cx mt R (h.setI a k x) (pc + 3) ls st bc bs Q) : J cx mt R h pc ls (.int x :: .ref a :: st) bc bs Q :=
  j_putf (h' := h.setI a k x) c k hc hkN hk hw hfin (by rw [ht]; rfl) (by rw [ht]; rfl) rfl rfl (fun _ hx => upI_x hx) (fun _ _ => rfl) (fun _ _ => rfl) (fV_setI (Or.inl ht)) d K
theorem j_putZ (c k : Nat) {a idx : Nat} {b : Bool} (hc : ClsOK c) (hkN : k < nC c) (ht : tyC c k = .boolean) (hk : h.kd a = kObj c) (hw : Cond.fieldLink mt.1.cls idx (tbC c k).1 (tbC c k).2.1 (tbC c k).2.2.1 ∈ Tb) (hfin : (tbC c k).2.2.2 = false)
    (d : decode mt.2.1 pc = .ok (.putfield idx, 3)) (K : J cx mt R (h.setI a k (b2i b)) (pc + 3) ls st bc bs Q) : J cx mt R h pc ls (.int (b2i b) :: .ref a :: st) bc bs Q :=
  j_putf (h' := h.setI a k (b2i b)) c k hc hkN hk hw hfin (by rw [ht]; exact b2i_nar b) (by rw [ht]; exact b2i_fit b) rfl rfl (fun _ hx => upI_x hx) (fun _ _ => rfl) (fun _ _ => rfl) (fV_setI (Or.inr ht)) d K
theorem j_putZ' (c k : Nat) {a idx : Nat} {x : Int32} (hc : ClsOK c) (hkN : k < nC c) (ht : tyC c k = .boolean) (hk : h.kd a = kObj c) (hw : Cond.fieldLink mt.1.cls idx (tbC c k).1 (tbC c k).2.1 (tbC c k).2.2.1 ∈ Tb) (hfin : (tbC c k).2.2.2 = false) (hx : x = 0 ∨ x = 1)
    (d : decode mt.2.1 pc = .ok (.putfield idx, 3)) (K : J cx mt R (h.setI a k x) (pc + 3) ls st bc bs Q) : J cx mt R h pc ls (.int x :: .ref a :: st) bc bs Q :=
  j_putf (h' := h.setI a k x) c k hc hkN hk hw hfin (by rw [ht]; rcases hx with rfl | rfl <;> rfl) (by rw [ht]; rcases hx with rfl | rfl <;> rfl) rfl rfl (fun _ hx => upI_x hx) (fun _ _ => rfl) (fun _ _ => rfl) (fV_setI (Or.inr ht)) d K
theorem j_putL (c k : Nat) {a idx : Nat} {x : Int64} (hc : ClsOK c) (hkN : k < nC c) (ht : tyC c k = .long) (hk : h.kd a = kObj c) (hw : Cond.fieldLink mt.1.cls idx (tbC c k).1 (tbC c k).2.1 (tbC c k).2.2.1 ∈ Tb) (hfin : (tbC c k).2.2.2 = false)
    (d : decode mt.2.1 pc = .ok (.putfield idx, 3)) (K : J cx mt R (h.setL a k x) (pc + 3) ls st bc bs Q) : J cx mt R h pc ls (.long x :: .ref a :: st) bc bs Q :=
  j_putf (h' := h.setL a k x) c k hc hkN hk hw hfin (by rw [ht]; rfl) (by rw [ht]; rfl) rfl rfl (fun _ _ => rfl) (fun _ hx => upL_x hx) (fun _ _ => rfl) (fV_setL ht) d K
theorem j_putFI (c k : Nat) {a idx : Nat} {x : Int32} (hc : ClsOK c) (hkN : k < nC c) (ht : tyC c k = .int) (hk : h.kd a = kObj c) (hw : Cond.fieldLink mt.1.cls idx (tbC c k).1 (tbC c k).2.1 (tbC c k).2.2.1 ∈ Tb) (hfin : (tbC c k).2.2.2 = true) (hin : mt.1.name = "<init>") (hdecl : (tbC c k).1 = mt.1.cls)
    (d : decode mt.2.1 pc = .ok (.putfield idx, 3)) (K : J cx mt R (h.setI a k x) (pc + 3) ls st bc bs Q) : J cx mt R h pc ls (.int x :: .ref a :: st) bc bs Q :=
  j_putF (h' := h.setI a k x) c k hc hkN hk hw hfin hin hdecl (by rw [ht]; rfl) (by rw [ht]; rfl) rfl rfl (fun _ hx => upI_x hx) (fun _ _ => rfl) (fun _ _ => rfl) (fV_setI (Or.inl ht)) d K
theorem j_putFL (c k : Nat) {a idx : Nat} {x : Int64} (hc : ClsOK c) (hkN : k < nC c) (ht : tyC c k = .long) (hk : h.kd a = kObj c) (hw : Cond.fieldLink mt.1.cls idx (tbC c k).1 (tbC c k).2.1 (tbC c k).2.2.1 ∈ Tb) (hfin : (tbC c k).2.2.2 = true) (hin : mt.1.name = "<init>") (hdecl : (tbC c k).1 = mt.1.cls)
    (d : decode mt.2.1 pc = .ok (.putfield idx, 3)) (K : J cx mt R (h.setL a k x) (pc + 3) ls st bc bs Q) : J cx mt R h pc ls (.long x :: .ref a :: st) bc bs Q :=
  j_putF (h' := h.setL a k x) c k hc hkN hk hw hfin hin hdecl (by rw [ht]; rfl) (by rw [ht]; rfl) rfl rfl (fun _ _ => rfl) (fun _ hx => upL_x hx) (fun _ _ => rfl) (fV_setL ht) d K
theorem j_putFR (c k : Nat) {a idx x : Nat} (hc : ClsOK c) (hkN : k < nC c) (ht : (∃ t, tyC c k = .array t) ∨ ∃ n, tyC c k = .object n) (hk : h.kd a = kObj c) (hw : Cond.fieldLink mt.1.cls idx (tbC c k).1 (tbC c k).2.1 (tbC c k).2.2.1 ∈ Tb) (hfin : (tbC c k).2.2.2 = true) (hin : mt.1.name = "<init>") (hdecl : (tbC c k).1 = mt.1.cls)
    (d : decode mt.2.1 pc = .ok (.putfield idx, 3)) (K : J cx mt R (h.setR a k (some x)) (pc + 3) ls st bc bs Q) : J cx mt R h pc ls (.ref x :: .ref a :: st) bc bs Q :=
  j_putF (h' := h.setR a k (some x)) c k hc hkN hk hw hfin hin hdecl (by rcases ht with ⟨t, ht⟩ | ⟨t, ht⟩ <;> rw [ht] <;> rfl) (by rcases ht with ⟨t, ht⟩ | ⟨t, ht⟩ <;> rw [ht] <;> rfl) rfl rfl (fun _ _ => rfl) (fun _ _ => rfl) (fun _ hx => upR_x hx) (fV_setR (x := some x) ht) d K
/-- arrays -/
theorem j_iald {a n : Nat} {i : Int32} (hk : h.kd a = kInts n) (hin : vp_in i n) (d : decode mt.2.1 pc = .ok (.iaload, 1)) (K : J cx mt R h (pc + 1) ls (.int (h.i a i.toNatClampNeg) :: st) bc bs Q) : J cx mt R h pc ls (.int i :: .ref a :: st) bc bs Q := by
  intro p l e s m args below meth cd H locs cells slots lsA Z C a1 a2 a3 a4 a5 kk
  have hP : va_P cx.2.1 vwCl [(a, .inl (cx.2.2.1 0, n, .inl (h.i a)))] H := by
    intro j q hj
    have hz : j < 1 := (List.getElem?_eq_some_iff.mp hj).1
    rw [show j = 0 by omega] at hj
    cases hj
    exact (a1.ints hk).2
  exact va_iald C.1 C.2.1 C.2.2.2.2.2.2.2.1.1 hP 0 0 rfl rfl hin d (K p l e s m args below meth cd H locs cells slots lsA Z C a1 a2 a3 a4 a5 kk)
theorem j_lald {a n : Nat} {i : Int32} (hk : h.kd a = kLongs n) (hin : vp_in i n) (d : decode mt.2.1 pc = .ok (.laload, 1)) (K : J cx mt R h (pc + 1) ls (.long (h.l a i.toNatClampNeg) :: st) bc bs Q) : J cx mt R h pc ls (.int i :: .ref a :: st) bc bs Q := by
  intro p l e s m args below meth cd H locs cells slots lsA Z C a1 a2 a3 a4 a5 kk
  have hP : va_P cx.2.1 vwCl [(a, .inl (cx.2.2.1 1, n, .inr (.inl (h.l a))))] H := by
    intro j q hj
    have hz : j < 1 := (List.getElem?_eq_some_iff.mp hj).1
    rw [show j = 0 by omega] at hj
    cases hj
    exact (a1.longs hk).2
  exact va_lald C.1 C.2.1 C.2.2.2.2.2.2.2.1.1 hP 0 1 rfl rfl hin d (K p l e s m args below meth cd H locs cells slots lsA Z C a1 a2 a3 a4 a5 kk)
theorem tyA_at (cA : Nat → ClassId) {c : Nat} (hc : c < 4) : (tyA cA)[c + 2]? = some (cA (c + 2), .object (nmC c)) := by
  rcases (show c = 0 ∨ c = 1 ∨ c = 2 ∨ c = 3 by omega) with rfl | rfl | rfl | rfl <;> rfl
theorem j_aald0 {a c n : Nat} {i : Int32} (hc : c < 4) (hk : h.kd a = kRefs c n) (hin : vp_in i n) (d : decode mt.2.1 pc = .ok (.aaload, 1)) (K : J cx mt R h (pc + 1) ls (va_rf (h.r a i.toNatClampNeg) :: st) bc bs Q) : J cx mt R h pc ls (.int i :: .ref a :: st) bc bs Q := by
  intro p l e s m args below meth cd H locs cells slots lsA Z C a1 a2 a3 a4 a5 kk
  have hP : va_P cx.2.1 vwCl [(a, .inl (cx.2.2.1 (c + 2), n, .inr (.inr (.inr (.inr (h.r a))))))] H := by
    intro j q hj
    have hz : j < 1 := (List.getElem?_eq_some_iff.mp hj).1
    rw [show j = 0 by omega] at hj
    cases hj
    exact (a1.refs (by omega) hk).2
  exact va_aldq C.1 C.2.1 C.2.2.2.2.2.2.2.1.1 hP 0 (c + 2) rfl (tyA_at _ hc) hin d (K p l e s m args below meth cd H locs cells slots lsA Z C a1 a2 a3 a4 a5 kk)
theorem j_aald {a c n b : Nat} {i : Int32} (hc : c < 4) (hk : h.kd a = kRefs c n) (hin : vp_in i n) (hr : h.r a i.toNatClampNeg = some b) (d : decode mt.2.1 pc = .ok (.aaload, 1)) (K : J cx mt R h (pc + 1) ls (.ref b :: st) bc bs Q) : J cx mt R h pc ls (.int i :: .ref a :: st) bc bs Q :=
  j_aald0 hc hk hin d (by rw [hr]; exact K)
theorem j_aaldN {a c n : Nat} {i : Int32} (hc : c < 4) (hk : h.kd a = kRefs c n) (hin : vp_in i n) (hr : h.r a i.toNatClampNeg = none) (d : decode mt.2.1 pc = .ok (.aaload, 1)) (K : J cx mt R h (pc + 1) ls (.null :: st) bc bs Q) : J cx mt R h pc ls (.int i :: .ref a :: st) bc bs Q :=
  j_aald0 hc hk hin d (by rw [hr]; exact K)
theorem j_alenI {a n : Nat} (hk : h.kd a = kInts n) (d : decode mt.2.1 pc = .ok (.arraylength, 1)) (K : J cx mt R h (pc + 1) ls (.int (Int32.ofNat n) :: st) bc bs Q) : J cx mt R h pc ls (.ref a :: st) bc bs Q := by
  intro p l e s m args below meth cd H locs cells slots lsA Z C a1 a2 a3 a4 a5 kk
  have hP : va_P cx.2.1 vwCl [(a, .inl (cx.2.2.1 0, n, .inl (h.i a)))] H := by
    intro j q hj
    have hz : j < 1 := (List.getElem?_eq_some_iff.mp hj).1
    rw [show j = 0 by omega] at hj
    cases hj
    exact (a1.ints hk).2
  exact va_alen C.1 C.2.1 C.2.2.2.2.2.2.2.1.1 hP 0 0 rfl rfl rfl d (K p l e s m args below meth cd H locs cells slots lsA Z C a1 a2 a3 a4 a5 kk)
theorem j_alenL {a n : Nat} (hk : h.kd a = kLongs n) (d : decode mt.2.1 pc = .ok (.arraylength, 1)) (K : J cx mt R h (pc + 1) ls (.int (Int32.ofNat n) :: st) bc bs Q) : J cx mt R h pc ls (.ref a :: st) bc bs Q := by
  intro p l e s m args below meth cd H locs cells slots lsA Z C a1 a2 a3 a4 a5 kk
  have hP : va_P cx.2.1 vwCl [(a, .inl (cx.2.2.1 1, n, .inr (.inl (h.l a))))] H := by
    intro j q hj
    have hz : j < 1 := (List.getElem?_eq_some_iff.mp hj).1
    rw [show j = 0 by omega] at hj
    cases hj
    exact (a1.longs hk).2
  exact va_alen C.1 C.2.1 C.2.2.2.2.2.2.2.1.1 hP 0 1 rfl rfl rfl d (K p l e s m args below meth cd H locs cells slots lsA Z C a1 a2 a3 a4 a5 kk)
theorem j_alenR {a c n : Nat} (hc : c < 4) (hk : h.kd a = kRefs c n) (d : decode mt.2.1 pc = .ok (.arraylength, 1)) (K : J cx mt R h (pc + 1) ls (.int (Int32.ofNat n) :: st) bc bs Q) : J cx mt R h pc ls (.ref a :: st) bc bs Q := by
  intro p l e s m args below meth cd H locs cells slots lsA Z C a1 a2 a3 a4 a5 kk
  have hP : va_P cx.2.1 vwCl [(a, .inl (cx.2.2.1 (c + 2), n, .inr (.inr (.inr (.inr (h.r a))))))] H := by
    intro j q hj
    have hz : j < 1 := (List.getElem?_eq_some_iff.mp hj).1
    rw [show j = 0 by omega] at hj
    cases hj
    exact (a1.refs (by omega) hk).2
  exact va_alen C.1 C.2.1 C.2.2.2.2.2.2.2.1.1 hP 0 (c + 2) rfl (tyA_at _ hc) rfl d (K p l e s m args below meth cd H locs cells slots lsA Z C a1 a2 a3 a4 a5 kk)
theorem locs_put {locs : List Loc} {a k base : Nat} (h : ∀ q ∈ locs, base ≤ q.base) (ha : base ≤ a) : ∀ q ∈ locs ++ [(⟨a, k⟩ : Loc)], base ≤ q.base := by
  intro z hz
  rcases List.mem_append.mp hz with h7 | h7
  · exact h z h7
  · rw [List.mem_singleton.mp h7]
    exact ha
theorem j_iast {a n : Nat} {i x : Int32} (hk : h.kd a = kInts n) (hin : vp_in i n) (d : decode mt.2.1 pc = .ok (.iastore, 1)) (K : J cx mt R (h.setI a i.toNatClampNeg x) (pc + 1) ls st bc bs Q) : J cx mt R h pc ls (.int x :: .int i :: .ref a :: st) bc bs Q := by
  intro p l e s m args below meth cd H locs cells slots lsA Z C a1 a2 a3 a4 a5 kk
  have hc := a1.ints hk
  refine W.iast C.1 C.2.1 hc.2 ((C.2.2.2.2.2.2.2.1.1.2 0 _ rfl).1 n (fun j => .int (h.i a j))) (fun q => by cases q) (by show ¬ (i < 0 ∨ (arrV _ _ _).slots.size ≤ _); rw [arrV_size]; exact hin) rfl rfl d fun H1 e1 z oq => ?_
  refine K p l e s m args below meth cd H1 _ cells slots lsA Z C (a1.set (h' := h.setI a i.toNatClampNeg x) hc.1 rfl rfl z oq (fun _ hx => upI_x hx) (fun _ _ => rfl) (fun _ _ => rfl) ?_) (locs_put a2 hc.1) a3 a4 a5 kk
  rw [cE_ints (h := h.setI a i.toNatClampNeg x) (n := n) hk]
  show H1[a]? = some (vp_cell _ _)
  rw [e1, vp_cell_i, vp_cell_i, arrV_store]
  congr 2
  funext q
  by_cases hq : q = i.toNatClampNeg
  · subst hq
    simp [updV, Hp.setI, Hp.i, up2]
  · simp [updV, Hp.setI, Hp.i, up2, hq]
theorem j_last {a n : Nat} {i : Int32} {x : Int64} (hk : h.kd a = kLongs n) (hin : vp_in i n) (d : decode mt.2.1 pc = .ok (.lastore, 1)) (K : J cx mt R (h.setL a i.toNatClampNeg x) (pc + 1) ls st bc bs Q) : J cx mt R h pc ls (.long x :: .int i :: .ref a :: st) bc bs Q := by
  intro p l e s m args below meth cd H locs cells slots lsA Z C a1 a2 a3 a4 a5 kk
  have hc := a1.longs hk
  refine W.last C.1 C.2.1 hc.2 ((C.2.2.2.2.2.2.2.1.1.2 1 _ rfl).1 n (fun j => .long (h.l a j))) (fun q => by cases q) (by show ¬ (i < 0 ∨ (arrV _ _ _).slots.size ≤ _); rw [arrV_size]; exact hin) rfl rfl d fun H1 e1 z oq => ?_
  refine K p l e s m args below meth cd H1 _ cells slots lsA Z C (a1.set (h' := h.setL a i.toNatClampNeg x) hc.1 rfl rfl z oq (fun _ _ => rfl) (fun _ hx => upL_x hx) (fun _ _ => rfl) ?_) (locs_put a2 hc.1) a3 a4 a5 kk
  rw [cE_longs (h := h.setL a i.toNatClampNeg x) (n := n) hk]
  show H1[a]? = some (vp_cell _ _)
  rw [e1, vp_cell_l, vp_cell_l, arrV_store]
  congr 2
  funext q
  by_cases hq : q = i.toNatClampNeg
  · subst hq
    simp [updV, Hp.setL, Hp.l, up2]
  · simp [updV, Hp.setL, Hp.l, up2, hq]
theorem j_aast {a c n v : Nat} {i : Int32} (hc : c < 4) (hC : ClsOK c) (hk : h.kd a = kRefs c n) (hkv : h.kd v = kObj c) (hin : vp_in i n) (d : decode mt.2.1 pc = .ok (.aastore, 1)) (K : J cx mt R (h.setR a i.toNatClampNeg (some v)) (pc + 1) ls st bc bs Q) : J cx mt R h pc ls (.ref v :: .int i :: .ref a :: st) bc bs Q := by
  intro p l e s m args below meth cd H locs cells slots lsA Z C a1 a2 a3 a4 a5 kk
  have hcell := a1.refs (by omega) hk
  have hK := C.2.2.2.2.2.2.2.1.1
  have hlt : i.toNatClampNeg < n := Nat.not_le.mp fun q => hin (Or.inr q)
  have h0 : ¬ i < 0 := fun q => hin (Or.inl q)
  obtain ⟨-, r', hr', cellV, g1, g2, g3, -⟩ := a1.obj hkv
  have hcls := (hK.1 c _ hC.1).2
  obtain ⟨kA, comp, k1, k2, k3, -⟩ := (hK.2 (c + 2) _ (tyA_at _ hc)).2
  have hcomp : comp = cx.2.1.1 c := Option.some.inj (k3.symm.trans hcls.1)
  subst hcomp
  obtain ⟨kC, hkC, -⟩ := hcls.2
  refine W.aast C.1 C.2.1 hcell.2 (fun q h => by cases h) (fun h => by cases h) k1 k2 rfl hkC ⟨h0, by show _ < (arrV _ _ _).slots.size; rw [arrV_size]; exact hlt⟩ g1 (fun q h => by rw [g3] at h; cases h) (by rw [g2]; exact hkC) (by rw [g2]; exact va_assign hcls) rfl rfl d fun H1 e1 z oq => ?_
  refine K p l e s m args below meth cd H1 _ cells slots lsA Z C (a1.set (h' := h.setR a i.toNatClampNeg (some v)) hcell.1 rfl rfl z oq (fun _ _ => rfl) (fun _ _ => rfl) (fun _ hx => upR_x hx) ?_) (locs_put a2 hcell.1) a3 a4 a5 kk
  rw [cE_refs (h := h.setR a i.toNatClampNeg (some v)) (c := c) (n := n) (by omega) hk]
  show H1[a]? = some (vp_cell _ _)
  rw [e1, vp_cell_q, vp_cell_q, arrV_store]
  congr 2
  funext q
  by_cases hq : q = i.toNatClampNeg
  · subst hq
    simp [updV, Hp.setR, Hp.r, up2, va_rf]
  · simp [updV, Hp.setR, Hp.r, up2, hq]
end
