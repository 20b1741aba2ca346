/-! the law's entry -/
set_option maxHeartbeats 4000000 in
theorem lw_KK {s : State} {b L : Nat} {xs : Nat → Int32} (hts : ∀ w ∈ lw_tbl, w.before #[Value.ref b] s = true) (hX : va_X b L xs s s.heap) (hgv : (Jvm.Cond.and given_1 narrow_1).before #[Value.ref b] s = true) : ∃ (D : va_G) (cA : Nat → ClassId) (t : Nat), KK (s.heap, D, cA, t, b, L, xs) s := by
  have htT : ∀ w ∈ Tb, w.before #[Value.ref b] s = true := fun w hw => hts w (List.mem_filter.mp hw).1
  have hs := flat_of_before _ hgv
  obtain ⟨c0, i0, k0⟩ := u_known (C := RX0) (T := TX0) (N := 10) htT cls_0.2.1 (htT _ wT_ins_X0)
  obtain ⟨c1, i1, k1⟩ := u_known (C := RX1) (T := TX1) (N := 18) htT cls_1.2.1 (htT _ wT_ins_X1)
  obtain ⟨c2, i2, k2⟩ := u_known (C := RX2) (T := TX2) (N := 11) htT cls_2.2.1 (htT _ wT_ins_X2)
  obtain ⟨c3, i3, k3⟩ := u_known (C := RX3) (T := TX3) (N := 5) htT cls_3.2.1 (htT _ wT_ins_X3)
  obtain ⟨c4, i4, k4⟩ := u_known (C := RX4) (T := TX4) (N := 4) htT cls_4.2.1 (htT _ wT_ins_X4)
  obtain ⟨c5, i5, k5⟩ := u_known (C := RX5) (T := TX5) (N := 8) htT cls_5.2.1 (htT _ wT_ins_X5)
  obtain ⟨dC, dI, hKc⟩ : ∃ (dC : Nat → ClassId) (dI : Nat → Nat → Nat), ∀ (k : Nat) (q : vw_C), vwCl[k]? = some q → u_Kn s q.1 q.2.1 q.2.2 (dC k) (dI k) := by
    refine ⟨fun k => if k = 0 then c0 else if k = 1 then c1 else if k = 2 then c2 else if k = 3 then c3 else if k = 4 then c4 else c5, fun k => if k = 0 then i0 else if k = 1 then i1 else if k = 2 then i2 else if k = 3 then i3 else if k = 4 then i4 else i5, ?_⟩
    intro k q hq
    match k, hq with
    | 0, hq => cases hq; exact k0
    | 1, hq => cases hq; exact k1
    | 2, hq => cases hq; exact k2
    | 3, hq => cases hq; exact k3
    | 4, hq => cases hq; exact k4
    | 5, hq => cases hq; exact k5
    | k + 6, hq => simp [vwCl] at hq
  obtain ⟨a0, ka0, m0, f0, g0, z0⟩ := Cond.arrayClass_spec (htT _ wT_arr_int)
  obtain ⟨a1, ka1, m1, f1, g1, z1⟩ := Cond.arrayClass_spec (htT _ wT_arr_long)
  have o2 : (Cond.arrayOver (.object RX0)).before #[Value.ref b] s = true := hts _ (by decide +kernel)
  have o3 : (Cond.arrayOver (.object RX1)).before #[Value.ref b] s = true := hts _ (by decide +kernel)
  have o4 : (Cond.arrayOver (.object RX2)).before #[Value.ref b] s = true := hts _ (by decide +kernel)
  have o5 : (Cond.arrayOver (.object RX3)).before #[Value.ref b] s = true := hts _ (by decide +kernel)
  obtain ⟨m2, a2, ka2, e2, -, g2, z2, f2⟩ := Cond.arrayOver_spec o2
  obtain ⟨m3, a3, ka3, e3, -, g3, z3, f3⟩ := Cond.arrayOver_spec o3
  obtain ⟨m4, a4, ka4, e4, -, g4, z4, f4⟩ := Cond.arrayOver_spec o4
  obtain ⟨m5, a5, ka5, e5, -, g5, z5, f5⟩ := Cond.arrayOver_spec o5
  have hA : ∀ a : Nat, a < s.heap.size → ¬ (fun q : Nat => s.heap.size ≤ q) a := fun a h => Nat.not_le.mpr h
  obtain ⟨t, ht, hT⟩ := va_Tof (tm := .static RX5 "FIELDS" "[I") (ty := .int) (N := 12) (f := fun k => .int (fldN k)) (A := fun q : Nat => s.heap.size ≤ q) (by decide) (hs _ (by decide +kernel)) (va_eqt (hs _ (by decide +kernel))) (fun j hj => by
    rcases (show j = 0 ∨ j = 1 ∨ j = 2 ∨ j = 3 ∨ j = 4 ∨ j = 5 ∨ j = 6 ∨ j = 7 ∨ j = 8 ∨ j = 9 ∨ j = 10 ∨ j = 11 by omega) with rfl | rfl | rfl | rfl | rfl | rfl | rfl | rfl | rfl | rfl | rfl | rfl <;> exact va_eqt (hs _ (by decide +kernel))) hA
  have hZ := va_Zref (A := fun q : Nat => s.heap.size ≤ q) (hts (.laysStatic RX5 "FIELDS" "[I") (by decide +kernel)) (htT _ wT_ini_X5) ht hA
  refine ⟨(dC, dI), fun k => if k = 0 then a0 else if k = 1 then a1 else if k = 2 then a2 else if k = 3 then a3 else if k = 4 then a4 else a5, t, ⟨hKc, ?_⟩, ⟨va_AO.of o2, va_AO.of o3, va_AO.of o4, va_AO.of o5⟩, ⟨va_Nw.of rfl (hts _ (by decide +kernel)), va_Nw.of rfl (hts _ (by decide +kernel))⟩, hZ, hT, hX⟩
  intro k q hq
  match k, hq with
  | 0, hq => cases hq; exact ⟨fun n z => ⟨fun k h => (by cases h), ka0, g0, m0, z0⟩, f0⟩
  | 1, hq => cases hq; exact ⟨fun n z => ⟨fun k h => (by cases h), ka1, g1, m1, z1⟩, f1⟩
  | 2, hq => cases hq; exact ⟨fun n z => ⟨fun k h => (by cases h), ka2, g2, m2, z2⟩, ka2, m2, g2, z2, e2, f2⟩
  | 3, hq => cases hq; exact ⟨fun n z => ⟨fun k h => (by cases h), ka3, g3, m3, z3⟩, ka3, m3, g3, z3, e3, f3⟩
  | 4, hq => cases hq; exact ⟨fun n z => ⟨fun k h => (by cases h), ka4, g4, m4, z4⟩, ka4, m4, g4, z4, e4, f4⟩
  | 5, hq => cases hq; exact ⟨fun n z => ⟨fun k h => (by cases h), ka5, g5, m5, z5⟩, ka5, m5, g5, z5, e5, f5⟩
  | k + 6, hq => simp [tyA] at hq
theorem whole_start {p : Program} {e : Env} {s : State} {m : MethodId} {below : List Frame} {meth : Method} {c : Code} (l : Launch) {b L : Nat} {xs : Nat → Int32} (hL : L ≤ 2560) (C0 : lw_At p s m meth c b L xs) : W p l e room_1 s m #[Value.ref b] below meth c s.heap [] 0 0 (lw_Z below #[Value.ref b] s) (entryFrame m ([Value.ref b] : List Value).toArray 4) := by
  obtain ⟨hx, hb, hr, hml, hown, hts, hX, hbl, hlocks, hgv⟩ := id C0
  obtain ⟨D, cA, t, hKK⟩ := lw_KK hts hX hgv
  have htT : ∀ w ∈ Tb, w.before #[Value.ref b] s = true := fun w hw => hts w (List.mem_filter.mp hw).1
  have Jm := lw_J (nm := meth.name) (cx := (s.heap, D, cA, t, b, L, xs)) (Q := fun v _ => v = some (.int 1)) (h := ((s.heap.size, fun _ => (0, 0), fun _ _ => none), (fun _ _ => 0, fun _ _ => 0))) hbl hL (fun _ => rfl)
  have hl := lv_entry ([.ref b]) (n := 4) (Nat.le_of_ble_eq_true rfl)
  rw [lg_entry_eq]
  generalize (lg_sl ([.ref b]) ++ List.replicate (4 - (lg_sl ([.ref b])).length) Slot.unset).toArray = lsA at hl ⊢
  have hl : lv_has lsA 4 [(0, .ref b)] := hl
  refine Jm p l e s m #[Value.ref b] below meth c s.heap [] 0 0 lsA _ ⟨hx, hb, hml, hr, hlocks, hown, htT, hKK, rfl⟩ ⟨Nat.le_refl _, rfl, fun _ _ => rfl, fun a ha => absurd rfl ha⟩ (fun q hq => by cases hq) ⟨hl.1, hl.2.1, fun i v hi => ?_⟩ (by decide) (by decide) (fun v h' pc' lsA' H' locs' cells' slots' hv hret hrep hlo hc1 hs1 => ?_)
  · match i, hi with
    | 0, hi =>
      cases hi
      exact hl.2.2 (0, .ref b) (List.mem_cons_self)
    | 1, hi => simp at hi
    | 2, hi => simp at hi
    | 3, hi => simp at hi
    | i + 4, hi => simp at hi
  · have hv : v = some (.int 1) := hv
    subst hv
    refine va_forget (fun q hq => hlo q hq) ?_
    refine W.widen (k := 600000) (n := 7302250) hc1 hs1 ?_
    exact lw_ret hx hb hr hlocks hret.1

