/-! the typed heap: how many cells there are, of what kind each is, its references; its ints and its longs -/
abbrev vwCl : List vw_C := [(RX0, TX0, 10), (RX1, TX1, 18), (RX2, TX2, 11), (RX3, TX3, 5), (RX4, TX4, 4), (RX5, TX5, 8)]
abbrev Sh : Type := Nat × (Nat → Nat × Nat) × (Nat → Nat → Option Nat)
abbrev Dt : Type := (Nat → Nat → Int32) × (Nat → Nat → Int64)
abbrev Hp : Type := Sh × Dt
abbrev Hp.n (h : Hp) : Nat := h.1.1
abbrev Hp.kd (h : Hp) : Nat → Nat × Nat := h.1.2.1
abbrev Hp.r (h : Hp) : Nat → Nat → Option Nat := h.1.2.2
abbrev Hp.i (h : Hp) : Nat → Nat → Int32 := h.2.1
abbrev Hp.l (h : Hp) : Nat → Nat → Int64 := h.2.2
def up2 {α : Type} (f : Nat → Nat → α) (a k : Nat) (v : α) : Nat → Nat → α := fun x y => if x = a ∧ y = k then v else f x y
def Hp.setI (h : Hp) (a k : Nat) (v : Int32) : Hp := (h.1, (up2 h.2.1 a k v, h.2.2))
def Hp.setL (h : Hp) (a k : Nat) (v : Int64) : Hp := (h.1, (h.2.1, up2 h.2.2 a k v))
def Hp.setR (h : Hp) (a k : Nat) (v : Option Nat) : Hp := ((h.1.1, h.1.2.1, up2 h.1.2.2 a k v), h.2)
def Hp.new (h : Hp) (t len : Nat) : Hp :=
  ((h.n + 1, (fun a => if a = h.n then (t, len) else h.kd a), (fun a k => if a = h.n then none else h.r a k)), ((fun a k => if a = h.n then 0 else h.i a k), (fun a k => if a = h.n then 0 else h.l a k)))
theorem up2_s {α : Type} (f : Nat → Nat → α) (a k : Nat) (v : α) : up2 f a k v a k = v := by simp [up2]
theorem up2_a {α : Type} (f : Nat → Nat → α) {a k : Nat} (v : α) {x y : Nat} (h : x ≠ a) : up2 f a k v x y = f x y := by simp [up2, h]
theorem up2_k {α : Type} (f : Nat → Nat → α) {a k : Nat} (v : α) {x y : Nat} (h : y ≠ k) : up2 f a k v x y = f x y := by simp [up2, h]
/-- kinds: 1 an int array, 2 a long array, 3 + c an array of class c, 10 + c an object of class c -/
abbrev kInts (n : Nat) : Nat × Nat := (1, n)
abbrev kLongs (n : Nat) : Nat × Nat := (2, n)
abbrev kRefs (c n : Nat) : Nat × Nat := (3 + c, n)
abbrev kObj (c : Nat) : Nat × Nat := (10 + c, 0)
def tyC (c : Nat) : Nat → FieldType := match c with | 0 => tyX0 | 1 => tyX1 | 2 => tyX2 | 3 => tyX3 | 4 => tyX4 | _ => tyX5
def tbC (c : Nat) : u_T := match c with | 0 => TX0 | 1 => TX1 | 2 => TX2 | 3 => TX3 | 4 => TX4 | _ => TX5
def nmC (c : Nat) : String := match c with | 0 => RX0 | 1 => RX1 | 2 => RX2 | 3 => RX3 | 4 => RX4 | _ => RX5
def nC (c : Nat) : Nat := match c with | 0 => 10 | 1 => 18 | 2 => 11 | 3 => 5 | 4 => 4 | _ => 8
def fV (h : Hp) (a c k : Nat) : Value := match tyC c k with
  | .int => .int (h.i a k)
  | .boolean => .int (h.i a k)
  | .long => .long (h.l a k)
  | _ => va_rf (h.r a k)
def cE (cA : Nat → ClassId) (h : Hp) (a : Nat) : va_E :=
  if (h.kd a).1 = 1 then .inl (cA 0, (h.kd a).2, .inl (h.i a))
  else if (h.kd a).1 = 2 then .inl (cA 1, (h.kd a).2, .inr (.inl (h.l a)))
  else if (h.kd a).1 < 10 then .inl (cA ((h.kd a).1 - 1), (h.kd a).2, .inr (.inr (.inr (.inr (h.r a)))))
  else .inr ((h.kd a).1 - 10, (List.range (nC ((h.kd a).1 - 10))).map (fV h a ((h.kd a).1 - 10)))
abbrev Cx : Type := Heap × va_G × (Nat → ClassId) × Nat × Nat × Nat × (Nat → Int32)
abbrev Cx.base (cx : Cx) : Nat := cx.1.size
def Rep (cx : Cx) (h : Hp) (H : Heap) : Prop :=
  cx.base ≤ h.n ∧ H.size = h.n ∧ (∀ q, q < cx.base → H[q]? = cx.1[q]?) ∧ ∀ a, (h.kd a).1 ≠ 0 → cx.base ≤ a ∧ va_at cx.2.1 vwCl (a, cE cx.2.2.1 h a) H
def tyA (cA : Nat → ClassId) : List (ClassId × FieldType) := [(cA 0, .int), (cA 1, .long), (cA 2, .object RX0), (cA 3, .object RX1), (cA 4, .object RX2), (cA 5, .object RX3)]
def fldN (k : Nat) : Int32 := match k with | 0 => 0 | 1 => 3 | 2 => 4 | 3 => 5 | 4 => 6 | 5 => 7 | 6 => 8 | 7 => 9 | 8 => 10 | 9 => 11 | 10 => 12 | _ => 2
def KK (cx : Cx) (U : State) : Prop :=
  va_K cx.2.1 vwCl (tyA cx.2.2.1) U ∧ (va_AO RX0 U ∧ va_AO RX1 U ∧ va_AO RX2 U ∧ va_AO RX3 U)
  ∧ (va_Nw (.methodLinkNest RX2 94 yX4_within RX4) U ∧ va_Nw (.methodLinkNest RX2 68 yX3_init RX4) U)
  ∧ va_Z RX5 "FIELDS" "[I" (.ref cx.2.2.2.1) (fun q => cx.base ≤ q) U cx.1 ∧ va_T .int cx.2.2.2.1 12 (fun k => .int (fldN k)) (fun q => cx.base ≤ q) U cx.1
  ∧ va_X cx.2.2.2.2.1 cx.2.2.2.2.2.1 cx.2.2.2.2.2.2 U cx.1
def Tb : List Cond := lw_tbl.filter goodWord
theorem Tb_good : GoodIn Tb Tb := fun w h => ⟨h, good_of_word (List.mem_filter.mp h).2⟩
theorem KK.moved {cx : Cx} {u U : State} (hvm : u.vm.Alike U.vm) (hn : ∀ w, (w = .methodLinkNest RX2 94 yX4_within RX4 ∨ w = .methodLinkNest RX2 68 yX3_init RX4) → va_Nw w u → va_Nw w U) (h : KK cx u) : KK cx U :=
  ⟨va_K.moved hvm h.1, ⟨h.2.1.1.moved hvm, h.2.1.2.1.moved hvm, h.2.1.2.2.1.moved hvm, h.2.1.2.2.2.moved hvm⟩, ⟨hn _ (Or.inl rfl) h.2.2.1.1, hn _ (Or.inr rfl) h.2.2.1.2⟩, h.2.2.2.1.moved hvm, h.2.2.2.2.1.moved hvm, h.2.2.2.2.2.moved hvm⟩
theorem KK.warm {cx : Cx} {u U : State} (hW : u.WarmedH U.vm) (h : KK cx u) : KK cx U :=
  KK.moved hW.alike (fun w hw hz => by rcases hw with rfl | rfl <;> exact va_Nw.warmM hW hz) h
theorem KK.calling {cx : Cx} {U : State} (g : JFrame) (mk : MethodId) (a : Array Value) (h : KK cx U) : KK cx (U.calling g mk a) :=
  KK.moved (u := U) (U := U.calling g mk a) (Vm.Alike.refl U.vm) (fun w hw hz => by rcases hw with rfl | rfl <;> exact va_Nw.same rfl rfl hz) h
theorem Rep.at {cx : Cx} {h : Hp} {H : Heap} (hR : Rep cx h H) {a t n : Nat} (hk : h.kd a = (t + 1, n)) : cx.base ≤ a ∧ va_at cx.2.1 vwCl (a, cE cx.2.2.1 h a) H := hR.2.2.2 a (by rw [hk]; exact Nat.succ_ne_zero t)
theorem Rep.lt {cx : Cx} {h : Hp} {H : Heap} (hR : Rep cx h H) {a t n : Nat} (hk : h.kd a = (t + 1, n)) : a < h.n := by rw [← hR.2.1]; exact (hR.at hk).2.lt
theorem cE_ints {cA : Nat → ClassId} {h : Hp} {a n : Nat} (hk : h.kd a = kInts n) : cE cA h a = .inl (cA 0, n, .inl (h.i a)) := by simp [cE, hk]
theorem cE_longs {cA : Nat → ClassId} {h : Hp} {a n : Nat} (hk : h.kd a = kLongs n) : cE cA h a = .inl (cA 1, n, .inr (.inl (h.l a))) := by simp [cE, hk]
theorem cE_refs {cA : Nat → ClassId} {h : Hp} {a c n : Nat} (hc : c < 7) (hk : h.kd a = kRefs c n) : cE cA h a = .inl (cA (c + 2), n, .inr (.inr (.inr (.inr (h.r a))))) := by
  simp only [cE, hk]
  rw [if_neg (by omega), if_neg (by omega), if_pos (by omega)]
  congr 2
  congr 1
  omega
theorem cE_obj {cA : Nat → ClassId} {h : Hp} {a c : Nat} (hk : h.kd a = kObj c) : cE cA h a = .inr (c, (List.range (nC c)).map (fV h a c)) := by
  simp only [cE, hk]
  rw [if_neg (by omega), if_neg (by omega), if_neg (by omega)]
  simp
theorem Rep.ints {cx : Cx} {h : Hp} {H : Heap} (hR : Rep cx h H) {a n : Nat} (hk : h.kd a = kInts n) : cx.base ≤ a ∧ H[a]? = some (vp_cell (cx.2.2.1 0) (n, .inl (h.i a))) := by
  have h1 := hR.at hk
  rw [cE_ints hk] at h1
  exact h1
theorem Rep.longs {cx : Cx} {h : Hp} {H : Heap} (hR : Rep cx h H) {a n : Nat} (hk : h.kd a = kLongs n) : cx.base ≤ a ∧ H[a]? = some (vp_cell (cx.2.2.1 1) (n, .inr (.inl (h.l a)))) := by
  have h1 := hR.at hk
  rw [cE_longs hk] at h1
  exact h1
theorem Rep.refs {cx : Cx} {h : Hp} {H : Heap} (hR : Rep cx h H) {a c n : Nat} (hc : c < 7) (hk : h.kd a = kRefs c n) : cx.base ≤ a ∧ H[a]? = some (vp_cell (cx.2.2.1 (c + 2)) (n, .inr (.inr (.inr (.inr (h.r a)))))) := by
  have h1 := hR.2.2.2 a (by rw [hk]; show 3 + c ≠ 0; omega)
  rw [cE_refs hc hk] at h1
  exact h1
theorem Rep.obj {cx : Cx} {h : Hp} {H : Heap} (hR : Rep cx h H) {a c : Nat} (hk : h.kd a = kObj c) : cx.base ≤ a ∧ ∃ q : vw_C, vwCl[c]? = some q ∧ t_OB a (cx.2.1.1 c) q.2.2 (cx.2.1.2 c) H (vp_V ((List.range (nC c)).map (fV h a c))) := by
  have h1 := hR.2.2.2 a (by rw [hk]; show 10 + c ≠ 0; omega)
  rw [cE_obj hk] at h1
  exact h1
/-- a cell is written: the others stay -/
theorem Rep.set {cx : Cx} {h h' : Hp} {H H1 : Heap} (hR : Rep cx h H) {a : Nat} (hb : cx.base ≤ a) (hn : h'.n = h.n) (hkd : h'.kd = h.kd) (z : H1.size = H.size) (oq : ∀ q : Nat, q ≠ a → H1[q]? = H[q]?)
    (hi : ∀ x, x ≠ a → h'.i x = h.i x) (hl : ∀ x, x ≠ a → h'.l x = h.l x) (hr : ∀ x, x ≠ a → h'.r x = h.r x) (ha : va_at cx.2.1 vwCl (a, cE cx.2.2.1 h' a) H1) : Rep cx h' H1 := by
  refine ⟨by rw [hn]; exact hR.1, by rw [z, hn]; exact hR.2.1, fun q hq => ?_, fun x hx => ?_⟩
  · rw [oq q (by omega)]
    exact hR.2.2.1 q hq
  · rw [hkd] at hx
    have h0 := hR.2.2.2 x hx
    refine ⟨h0.1, ?_⟩
    by_cases hxa : x = a
    · subst hxa
      exact ha
    · have he : cE cx.2.2.1 h' x = cE cx.2.2.1 h x := by
        unfold cE fV
        rw [hkd, hi x hxa, hl x hxa, hr x hxa]
      rw [he]
      exact h0.2.kept (oq x hxa)
/-- a cell is made -/
theorem Rep.push {cx : Cx} {h : Hp} {H H1 : Heap} (hR : Rep cx h H) (t len : Nat) (z : H1.size = H.size + 1) (oq : ∀ q : Nat, q < H.size → H1[q]? = H[q]?)
    (ha : va_at cx.2.1 vwCl (h.n, cE cx.2.2.1 (h.new t len) h.n) H1) : Rep cx (h.new t len) H1 := by
  have hsz := hR.2.1
  refine ⟨Nat.le_succ_of_le hR.1, by rw [z, hsz]; rfl, fun q hq => ?_, fun x hx => ?_⟩
  · rw [oq q (by have := hR.1; omega)]
    exact hR.2.2.1 q hq
  · by_cases hxa : x = h.n
    · subst hxa
      exact ⟨hR.1, ha⟩
    · have hk : (h.new t len).kd x = h.kd x := by simp [Hp.new, Hp.kd, hxa]
      rw [hk] at hx
      have h0 := hR.2.2.2 x hx
      refine ⟨h0.1, ?_⟩
      have he : cE cx.2.2.1 (h.new t len) x = cE cx.2.2.1 h x := by
        have e1 : (h.new t len).i x = h.i x := by funext k; simp [Hp.new, Hp.i, hxa]
        have e2 : (h.new t len).l x = h.l x := by funext k; simp [Hp.new, Hp.l, hxa]
        have e3 : (h.new t len).r x = h.r x := by funext k; simp [Hp.new, Hp.r, hxa]
        unfold cE fV
        rw [hk, e1, e2, e3]
      rw [he]
      exact h0.2.kept (oq x h0.2.lt)
