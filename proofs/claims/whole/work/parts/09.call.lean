/-! making cells; calls; contracts -/
def okT (t : FieldType) : Bool := match t with | .int => true | .boolean => true | .long => true | .array _ => true | .object _ => true | _ => false
theorem fV_new {h : Hp} {c k t len : Nat} (hT : okT (tyC c k) = true) : fV (h.new t len) h.n c k = defaultValue (tyC c k) := by
  unfold fV
  generalize tyC c k = ty at hT
  cases ty <;> first | (simp [okT] at hT; done) | simp [Hp.new, Hp.i, Hp.l, Hp.r, Hp.n, defaultValue, va_rf]
section
variable {cx : Cx} {mt : Mt} {R : Room} {h : Hp} {pc : Nat} {ls : List (Option Value)} {st : List Value} {bc bs : Nat} {Q : Option Value → Hp → Prop}
theorem j_new (c : Nat) {idx : Nat} (hc : ClsOK c) (hT : ∀ k, k < nC c → okT (tyC c k) = true) (hw : Cond.classLink mt.1.cls idx (nmC c) ∈ Tb) (hi : Cond.instantiable (nmC c) (nC c) ∈ Tb) (hz : Cond.initialized (nmC c) ∈ Tb) (d : decode mt.2.1 pc = .ok (.new idx, 3))
    (K : J cx mt R (h.new (10 + c) 0) (pc + 3) ls (.ref h.n :: st) bc bs Q) : J cx mt R h pc ls st (bc + 1) (bs + nC c) Q := by
  intro p l e s m args below meth cd H locs cells slots lsA Z C a1 a2 a3 a4 a5 kk
  obtain ⟨hx, hb, hml, hret, hlk, hown, hts, hKK, hnm⟩ := id C
  have hKn := hKK.1.1 c _ hc.1
  refine W.newcK hx hb hown (hts _ hw) (hts _ hi) (hts _ hz) rfl d (by omega) (by omega) hKn.2.1 a1.2.1 fun H1 kC hkC e1 z1 o1 => ?_
  refine K p l e s m args below meth cd H1 locs (cells + 1) (slots + nC c) lsA Z C (a1.push (10 + c) 0 (by rw [z1, a1.2.1]) (fun q hq => o1 q (by rw [← a1.2.1]; exact hq)) ?_) a2 a3 (by omega) (by omega) kk
  rw [cE_obj (c := c) (by simp [Hp.new, Hp.kd, Hp.n])]
  refine ⟨_, hc.1, (u_born (tyC c) hts hc.2.1 hKn hkC e1 hc.2.2.1).to (fun j hj => ?_)⟩
  rw [fVs_V hj, fV_new (hT j hj)]
theorem j_newI {N : Nat} {n : Int32} (hn : ¬ n < 0) (hN : n.toNatClampNeg = N) (hN2 : N ≤ 1000000) (hw : Cond.arrayClass .int ∈ Tb) (d : decode mt.2.1 pc = .ok (.newarray .int, 2))
    (K : J cx mt R (h.new 1 N) (pc + 2) ls (.ref h.n :: st) bc bs Q) : J cx mt R h pc ls (.int n :: st) (bc + 1) (bs + N) Q := by
  intro p l e s m args below meth cd H locs cells slots lsA Z C a1 a2 a3 a4 a5 kk
  obtain ⟨hx, hb, hml, hret, hlk, hown, hts, hKK, hnm⟩ := id C
  have hA := hKK.1.2 0 _ rfl
  refine va_newaK (atype := .int) hx hb (hts _ hw) rfl d rfl hn hN (by show N * 4 ≤ _; omega) (by omega) (by omega) a1.2.1 fun H1 cA e1 z1 o1 hAr hNm => ?_
  have hcA : cA = cx.2.2.1 0 := Option.some.inj (hNm.symm.trans hA.2)
  subst hcA
  refine K p l e s m args below meth cd H1 locs (cells + 1) (slots + N) lsA Z C (a1.push 1 N (by rw [z1, a1.2.1]) (fun q hq => o1 q (by rw [← a1.2.1]; exact hq)) ?_) a2 a3 (by omega) (by omega) kk
  rw [cE_ints (n := N) (by simp [Hp.new, Hp.kd, Hp.n])]
  show H1[h.n]? = some (vp_cell _ _)
  rw [e1, vp_cell_i]
  congr 2
  funext q
  simp [Hp.new, Hp.i, Hp.n]
  rfl
theorem j_newL {N : Nat} {n : Int32} (hn : ¬ n < 0) (hN : n.toNatClampNeg = N) (hN2 : N ≤ 1000000) (hw : Cond.arrayClass .long ∈ Tb) (d : decode mt.2.1 pc = .ok (.newarray .long, 2))
    (K : J cx mt R (h.new 2 N) (pc + 2) ls (.ref h.n :: st) bc bs Q) : J cx mt R h pc ls (.int n :: st) (bc + 1) (bs + N) Q := by
  intro p l e s m args below meth cd H locs cells slots lsA Z C a1 a2 a3 a4 a5 kk
  obtain ⟨hx, hb, hml, hret, hlk, hown, hts, hKK, hnm⟩ := id C
  have hA := hKK.1.2 1 _ rfl
  refine va_newaK (atype := .long) hx hb (hts _ hw) rfl d rfl hn hN (by show N * 8 ≤ _; omega) (by omega) (by omega) a1.2.1 fun H1 cA e1 z1 o1 hAr hNm => ?_
  have hcA : cA = cx.2.2.1 1 := Option.some.inj (hNm.symm.trans hA.2)
  subst hcA
  refine K p l e s m args below meth cd H1 locs (cells + 1) (slots + N) lsA Z C (a1.push 2 N (by rw [z1, a1.2.1]) (fun q hq => o1 q (by rw [← a1.2.1]; exact hq)) ?_) a2 a3 (by omega) (by omega) kk
  rw [cE_longs (n := N) (by simp [Hp.new, Hp.kd, Hp.n])]
  show H1[h.n]? = some (vp_cell _ _)
  rw [e1, vp_cell_l]
  congr 2
  funext q
  simp [Hp.new, Hp.l, Hp.n]
  rfl
theorem KK.ao {s : State} (hK : KK cx s) {c : Nat} (hc : c < 4) : va_AO (nmC c) s := by
  rcases (show c = 0 ∨ c = 1 ∨ c = 2 ∨ c = 3 by omega) with rfl | rfl | rfl | rfl
  · exact hK.2.1.1
  · exact hK.2.1.2.1
  · exact hK.2.1.2.2.1
  · exact hK.2.1.2.2.2
theorem j_newR (c : Nat) {idx N : Nat} {n : Int32} (hc : c < 4) (hn : ¬ n < 0) (hN : n.toNatClampNeg = N) (hN2 : N ≤ 1000000) (hw : Cond.classLink mt.1.cls idx (nmC c) ∈ Tb) (d : decode mt.2.1 pc = .ok (.anewarray idx, 3))
    (K : J cx mt R (h.new (3 + c) N) (pc + 3) ls (.ref h.n :: st) bc bs Q) : J cx mt R h pc ls (.int n :: st) (bc + 1) (bs + N) Q := by
  intro p l e s m args below meth cd H locs cells slots lsA Z C a1 a2 a3 a4 a5 kk
  obtain ⟨hx, hb, hml, hret, hlk, hown, hts, hKK, hnm⟩ := id C
  obtain ⟨kA0, comp0, k1, k2, k3, k4⟩ := (hKK.1.2 (c + 2) _ (tyA_at _ hc)).2
  subst hN
  refine W.anew hx hb hown (hts _ hw) (va_AO.use (hKK.ao hc)) rfl d rfl hn (by omega) (by omega) (by omega) fun cA kA comp f1 f2 f3 f4 => ?_
  have hcA : cA = cx.2.2.1 (c + 2) := Option.some.inj (f1.symm.trans k4)
  subst hcA
  generalize hH1 : H.push ({ cls := cx.2.2.1 (c + 2), slots := Array.replicate n.toNatClampNeg .null, vm := .none } : Cell) = H1
  have z1 : H1.size = H.size + 1 := by rw [← hH1, Array.size_push]
  have e1 : H1[H.size]? = some (arrV (cx.2.2.1 (c + 2)) n.toNatClampNeg (fun _ => .null)) := by rw [← hH1, Array.getElem?_push_size, ← arrV_new]
  have o1 : ∀ q : Nat, q < H.size → H1[q]? = H[q]? := fun q hq => by rw [← hH1, Array.getElem?_push, if_neg (Nat.ne_of_lt hq)]
  have hsz : H.size = h.n := a1.2.1
  have K1 := K p l e s m args below meth cd H1 locs (cells + 1) (slots + n.toNatClampNeg) lsA Z C (a1.push (3 + c) n.toNatClampNeg z1 o1 (by
    rw [cE_refs (c := c) (n := n.toNatClampNeg) (by omega) (by simp [Hp.new, Hp.kd, Hp.n])]
    show H1[h.n]? = some (vp_cell _ _)
    rw [← hsz, e1, vp_cell_q]
    congr 2
    funext q
    simp [Hp.new, Hp.r, Hp.n, hsz, va_rf])) a2 a3 (by omega) (by omega) kk
  rw [← hsz] at K1
  exact K1
theorem j_objInit {a idx : Nat} (hw : Cond.methodLink mt.1.cls idx Lib.objectInit ∈ Tb) (hw2 : Cond.instanceMethod Lib.objectInit ∈ Tb) (hw3 : Cond.code Lib.objectInit ⟨#[0xb1]⟩ 1 none ∈ Tb) (hR : 1 ≤ R.frames ∧ 40 ≤ R.locals) (hst : (st.map fun v => v.category).sum ≤ 8) (d : decode mt.2.1 pc = .ok (.invokespecial idx, 3))
    (K : J cx mt R h (pc + 3) ls st bc bs Q) : J cx mt R h pc ls (.ref a :: st) bc bs Q := by
  intro p l e s m args below meth cd H locs cells slots lsA Z C a1 a2 a3 a4 a5 kk
  obtain ⟨hx, hb, hml, hret, hlk, hown, hts, hKK, hnm⟩ := id C
  exact W.objInit hx hb hown (hts _ hw) (hts _ hw2) (hts _ hw3) rfl (by rw [hml]; exact a3.1) rfl d hR.1 (by show 2 * 0 + _ + 12 ≤ _; omega) (K p l e s m args below meth cd H locs cells slots lsA Z C a1 a2 a3 a4 a5 kk)
/-- what a call needs of the callee's words: its method link apart -/
def CalOK (mt' : Mt) (n : Nat) : Prop := Cond.code mt'.1 mt'.2.1 mt'.2.2.1 mt'.2.2.2 ∈ Tb ∧ Cond.initialized mt'.1.cls ∈ Tb ∧ (mt'.1.cls ≠ "java/lang/invoke/MethodHandle" ∧ mt'.1.cls ≠ "java/lang/invoke/VarHandle") ∧ (parseMethodDescriptor mt'.1.desc).map (fun d => d.parameters.length) = some n ∧ mt'.2.2.1 ≤ 21
theorem Tb_code {mt' : Mt} {n : Nat} (hc : CalOK mt' n) : GoodIn Tb (Cond.code mt'.1 mt'.2.1 mt'.2.2.1 mt'.2.2.2 :: Tb) := by
  intro w hw
  rcases List.mem_cons.mp hw with h1 | h1
  · rw [h1]; exact Tb_good _ hc.1
  · exact Tb_good _ h1
theorem cal_b {s : State} {args : Array Value} {own : String} {mt' : Mt} {idx n d mc ms : Nat} (hc : CalOK mt' n) (hts : ∀ w ∈ Tb, w.before args s = true) (hw : Cond.methodLink own idx mt'.1 ∈ Tb) (hR : d + 1 ≤ R.frames ∧ 40 * d + 40 ≤ R.locals) :
    CallB R s args own idx mt'.1 mt'.2.1 mt'.2.2.1 mt'.2.2.2 (Cond.code mt'.1 mt'.2.1 mt'.2.2.1 mt'.2.2.2 :: Tb) (Rm d mc ms) mc ms n :=
  callB_of n hts (Tb_code hc) rfl rfl rfl (hts _ hc.2.1) (hts _ hw) ⟨hc.2.2.1.1, hc.2.2.1.2, hc.2.2.2.1⟩ ⟨hR.1, by show 8 + (mt'.2.2.1 + 11) + 40 * d ≤ R.locals; have := hc.2.2.2.2; have := hR.2; omega⟩
def Pcx (cx : Cx) (h : Hp) (av : List Value) : Array Value → State → Prop := fun v U => v = av.toArray ∧ Rep cx h U.heap ∧ KK cx U
theorem Pcx.blind {cx : Cx} {h : Hp} {av : List Value} : FrameBlind (Pcx cx h av) := fun a U g mk q => ⟨q.1, q.2.1, q.2.2.calling g mk a⟩
theorem Pcx.go {cx : Cx} {h : Hp} {av : List Value} {s U : State} {H : Heap} (hR : Rep cx h H) (hK : KK cx s) (hU : U.heap = H) (hW : s.WarmedH U.vm) : Pcx cx h av av.toArray U := ⟨rfl, by rw [hU]; exact hR, hK.warm hW⟩
/-- behind a call -/
theorem j_back {mt' : Mt} {d mc ms : Nat} {rest : List Value} {Q' : Option Value → Hp → Prop} {stk : List Value} {av : List Value}
    (hrun : ∀ (p : Program) (l : Launch) (e : Env) (s : State) (m : MethodId) (args : Array Value) (below : List Frame) (meth : Method) (c : Code) (H : Heap) (locs : List Loc) (cells slots : Nat) (lsA : Array Slot),
      Jx cx mt p s m args meth c → Rep cx h H → Lc lsA mt.2.2.1 ls → cells + mc ≤ R.cells → slots + ms ≤ R.slots →
      va_Run p l e R s m args below meth c H locs cells slots mc ms (F0 m pc lsA stk) rest (fun st oc t => ∃ v h', oc = .returned v ∧ Q' v h' ∧ Rep cx h' t.heap) (fun q => cx.base ≤ q))
    (h1 : mc ≤ bc) (h2 : ms ≤ bs) (K : ∀ v h', Q' v h' → J cx mt R h' (pc + 3) ls (v.toList ++ rest) (bc - mc) (bs - ms) Q) : J cx mt R h pc ls stk bc bs Q := by
  intro p l e s m args below meth cd H locs cells slots lsA Z C a1 a2 a3 a4 a5 kk
  intro T hT X
  obtain ⟨v, st₀, t, T', L, h0, X', hL, e1, e2, ⟨v', h', hv, hq, hRep⟩, st⟩ := hrun p l e s m args below meth cd H locs cells slots lsA C a1 a3 (by omega) (by omega) T hT X
  cases hv
  obtain ⟨t2, b1, b2⟩ := K _ h' hq p l e s m args below meth cd T'.heap (locs ++ L) (cells + mc) (slots + ms) lsA Z C (by rw [e1]; exact hRep) (fun q hq => by
    rcases List.mem_append.mp hq with h3 | h3
    · exact a2 q h3
    · exact hL q h3) a3 (by omega) (by omega) kk T' rfl X'
  exact ⟨t2, st t2 b1, b2⟩
theorem j_callV {mt' : Mt} {d mc ms n c b idx : Nat} {As : List Value} {Q' : Option Value → Hp → Prop} {stk : List Value} (S : Sp cx mt' d mc ms h (.ref b :: As) Q') (hc : CalOK mt' n) (hi : Cond.instanceMethod mt'.1 ∈ Tb) (hse : Cond.selects mt'.1.cls mt'.1 mt'.1 ∈ Tb) (hw : Cond.methodLink mt.1.cls idx mt'.1 ∈ Tb) (hC : ClsOK c) (hcn : nmC c = mt'.1.cls) (hk : h.kd b = kObj c)
    (hn : As.length = n) (hstk : stk = As.reverse ++ .ref b :: st) (hst : (st.map fun v => v.category).sum ≤ 8) (hR : d + 1 ≤ R.frames ∧ 40 * d + 40 ≤ R.locals) (h1 : mc ≤ bc) (h2 : ms ≤ bs) (dc : decode mt.2.1 pc = .ok (.invokevirtual idx, 3))
    (K : ∀ v h', Q' v h' → J cx mt R h' (pc + 3) ls (v.toList ++ st) (bc - mc) (bs - ms) Q) : J cx mt R h pc ls stk bc bs Q := by
  refine j_back (mt' := mt') (d := d) (av := .ref b :: As) (fun p l e s m args below meth cd H locs cells slots lsA C a1 a3 a4 a5 => ?_) h1 h2 K
  obtain ⟨hx, hb, hml, hret, hlk, hown, hts, hKK, hnm⟩ := id C
  have hre := a1.recv hKK hC hk
  rw [hcn] at hre
  exact va_runV (C := mt'.1.cls) (b := b) (As := As) ⟨hx, hb, hml, hown, hts⟩ (S l) ⟨cal_b hc hts hw hR, hts _ hi, hts _ hse⟩ ⟨Pcx.blind, hre, fun U hU hW => Pcx.go a1 hKK hU hW⟩ rfl hn a3.1 hstk (lv_room hst) dc ⟨a4, a5⟩
theorem j_callI {mt' : Mt} {d mc ms n b idx : Nat} {As : List Value} {Q' : Option Value → Hp → Prop} {stk : List Value} (S : Sp cx mt' d mc ms h (.ref b :: As) Q') (hc : CalOK mt' n) (hr0 : mt'.2.2.2 = none) (hi : Cond.instanceMethod mt'.1 ∈ Tb) (hni : mt'.1.name = "<init>") (hw : Cond.methodLink mt.1.cls idx mt'.1 ∈ Tb)
    (hn : As.length = n) (hstk : stk = As.reverse ++ .ref b :: st) (hst : (st.map fun v => v.category).sum ≤ 8) (hR : d + 1 ≤ R.frames ∧ 40 * d + 40 ≤ R.locals) (h1 : mc ≤ bc) (h2 : ms ≤ bs) (dc : decode mt.2.1 pc = .ok (.invokespecial idx, 3))
    (K : ∀ v h', Q' v h' → J cx mt R h' (pc + 3) ls (v.toList ++ st) (bc - mc) (bs - ms) Q) : J cx mt R h pc ls stk bc bs Q := by
  refine j_back (mt' := mt') (d := d) (av := .ref b :: As) (fun p l e s m args below meth cd H locs cells slots lsA C a1 a3 a4 a5 => ?_) h1 h2 K
  obtain ⟨hx, hb, hml, hret, hlk, hown, hts, hKK, hnm⟩ := id C
  have hcb := cal_b (R := R) (d := d) (mc := mc) (ms := ms) hc hts hw hR
  rw [hr0] at hcb
  have hS := S l
  rw [hr0] at hS
  exact va_runI (b := b) (As := As) ⟨hx, hb, hml, hown, hts⟩ hS ⟨hcb, hni, hts _ hi⟩ ⟨Pcx.blind, fun U hU hW => Pcx.go a1 hKK hU hW⟩ rfl hn a3.1 hstk (lv_room hst) dc ⟨a4, a5⟩
theorem j_callS {mt' : Mt} {d mc ms n idx : Nat} {As : List Value} {Q' : Option Value → Hp → Prop} {stk : List Value} (S : Sp cx mt' d mc ms h As Q') (hc : CalOK mt' n) (hi : Cond.static mt'.1 ∈ Tb) (hw : Cond.methodLink mt.1.cls idx mt'.1 ∈ Tb)
    (hn : As.length = n) (hstk : stk = As.reverse ++ st) (hst : (st.map fun v => v.category).sum ≤ 8) (hR : d + 1 ≤ R.frames ∧ 40 * d + 40 ≤ R.locals) (h1 : mc ≤ bc) (h2 : ms ≤ bs) (dc : decode mt.2.1 pc = .ok (.invokestatic idx, 3))
    (K : ∀ v h', Q' v h' → J cx mt R h' (pc + 3) ls (v.toList ++ st) (bc - mc) (bs - ms) Q) : J cx mt R h pc ls stk bc bs Q := by
  refine j_back (mt' := mt') (d := d) (av := As) (fun p l e s m args below meth cd H locs cells slots lsA C a1 a3 a4 a5 => ?_) h1 h2 K
  obtain ⟨hx, hb, hml, hret, hlk, hown, hts, hKK, hnm⟩ := id C
  exact va_runS (As := As) ⟨hx, hb, hml, hown, hts⟩ (S l) ⟨cal_b hc hts hw hR, hts _ hi⟩ ⟨Pcx.blind, fun U hU hW => Pcx.go a1 hKK hU hW⟩ rfl hn a3.1 hstk (lv_room hst) dc ⟨a4, a5⟩
/-- a contract out of the judgement at the entry -/
def l0 : List Value → List (Option Value)
  | [] => []
  | .long x :: vs => some (.long x) :: none :: l0 vs
  | .double x :: vs => some (.double x) :: none :: l0 vs
  | v :: vs => some v :: l0 vs
theorem l0_args : ∀ (vs : List Value) (o i : Nat) (v : Value), (l0 vs)[i]? = some (some v) → (o + i, v) ∈ lv_args o vs := by
  intro vs
  induction vs with
  | nil => intro o i v h; simp [l0] at h
  | cons x vs ih =>
    intro o i v h
    have one : ∀ {w : Value}, w.category = 1 → l0 (w :: vs) = some w :: l0 vs → (l0 (w :: vs))[i]? = some (some v) → (o + i, v) ∈ lv_args o (w :: vs) := by
      intro w hw e h
      rw [e] at h
      cases i with
      | zero =>
        have e2 : w = v := by simpa using h
        subst e2
        simp [lv_args]
      | succ i =>
        have h2 := ih (o + 1) i v (by simpa using h)
        rw [show o + (i + 1) = o + 1 + i by omega]
        simp only [lv_args, hw]
        exact List.mem_cons_of_mem _ (by simpa using h2)
    have two : ∀ {w : Value}, w.category = 2 → l0 (w :: vs) = some w :: none :: l0 vs → (l0 (w :: vs))[i]? = some (some v) → (o + i, v) ∈ lv_args o (w :: vs) := by
      intro w hw e h
      rw [e] at h
      cases i with
      | zero =>
        have e2 : w = v := by simpa using h
        subst e2
        simp [lv_args]
      | succ i =>
        cases i with
        | zero => simp at h
        | succ i =>
          have h2 := ih (o + 2) i v (by simpa using h)
          rw [show o + (i + 1 + 1) = o + 2 + i by omega]
          simp only [lv_args, hw]
          exact List.mem_cons_of_mem _ (by simpa using h2)
    cases x <;> first | exact one rfl rfl h | exact two rfl rfl h
theorem Sp.of {mt : Mt} {d mc ms : Nat} {av : List Value} {ls : List (Option Value)} (k : Nat) (hy : plainName mt.1.cls = true) (hle : (lg_sl av).length ≤ mt.2.2.1) (hls : ls = l0 av ++ List.replicate k none) (K : J cx mt (Rm d mc ms) h 0 ls [] mc ms Q) : Sp cx mt d mc ms h av Q := by
  intro l
  refine Met.ofW (cc := mt.2.1) (maxL := mt.2.2.1) (ret := mt.2.2.2) hy rfl ?_
  intro p e s m args below meth c s₁ B hml hv
  obtain ⟨rfl, hRep, hKK⟩ := hv
  have hts := atoms_spec (ws := Cond.code mt.1 mt.2.1 mt.2.2.1 mt.2.2.2 :: Tb) B.pre
  have hlocks := B.notSynchronized
  have hret := B.returns
  have C : Jx cx mt p s m av.toArray meth c := ⟨B.exec, B.bytes, hml, B.returns, B.notSynchronized, findClass_of_methodNamed B.named, fun w hw => hts w (List.mem_cons_of_mem _ hw), hKK, (name_of_methodNamed B.named B.method).1⟩
  have hl := lv_entry av (n := mt.2.2.1) hle
  rw [lg_entry_eq]
  generalize (lg_sl av ++ List.replicate (mt.2.2.1 - (lg_sl av).length) Slot.unset).toArray = lsA at hl ⊢
  refine K p l e s m av.toArray below meth c s.heap [] 0 0 lsA _ C hRep (fun q hq => by cases hq) ⟨hl.1, hl.2.1, fun i v hi => ?_⟩ (by show 0 + mc ≤ mc; omega) (by show 0 + ms ≤ ms; omega) ?_
  · subst hls
    have h1 : (l0 av)[i]? = some (some v) := by
      by_cases hlt : i < (l0 av).length
      · rwa [List.getElem?_append_left hlt] at hi
      · rw [List.getElem?_append_right (by omega), List.getElem?_replicate] at hi
        split at hi <;> simp at hi
    have h2 := l0_args av 0 i v h1
    rw [Nat.zero_add] at h2
    exact hl.2.2 (i, v) h2
  · intro v h' pc' lsA' H' locs' cells' slots' hQ hret' hR' hlo hc hs
    refine W.widen (k := mc) (n := ms) hc hs ?_
    have hq : ∀ t : State, t.heap = H' → s.WarmedH t.vm → ∃ v' h'', (Outcome.returned v) = .returned v' ∧ Q v' h'' ∧ Rep cx h'' t.heap := fun t ht _ => ⟨v, h', rfl, hQ, by rw [ht]; exact hR'⟩
    match v, hret', hq with
    | none, hr, hq => exact W.vret B.exec B.bytes (hret.trans hr.2) hq hlo hr.1 hlocks
    | some (.int x), hr, hq => obtain ⟨hr1, ty, hr2, hr3⟩ := hr; exact W.zret B.exec B.bytes (hret.trans hr2) hr3 hq hlo hr1 hlocks
    | some (.long x), hr, hq => exact W.lret B.exec B.bytes (hret.trans hr.2) hq hlo hr.1 hlocks
    | some .null, hr, hq => obtain ⟨hr1, n, hr2⟩ := hr; exact W.aret B.exec B.bytes (hret.trans hr2) (Or.inl ⟨n, rfl⟩) (Or.inl rfl) hq hlo hr1 hlocks
    | some (.ref x), hr, hq => obtain ⟨hr1, n, hr2⟩ := hr; exact W.aret B.exec B.bytes (hret.trans hr2) (Or.inl ⟨n, rfl⟩) (Or.inr ⟨x, rfl⟩) hq hlo hr1 hlocks
end
