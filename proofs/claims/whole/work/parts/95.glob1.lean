/-! the whole: the class's rings beside the reference's numbers -/
def gup (Γ : Nat → Gh) (a : Nat) (γ : Gh) : Nat → Gh := fun b => if b = a then γ else Γ b
theorem gup_s {Γ : Nat → Gh} {a : Nat} {γ : Gh} : gup Γ a γ a = γ := if_pos rfl
theorem gup_n {Γ : Nat → Gh} {a b : Nat} {γ : Gh} (h : b ≠ a) : gup Γ a γ b = Γ b := if_neg h
def MI (h : Hp) (M n C m K : Nat) (Γ : Nat → Gh) : Prop :=
  MSh h.1 M ∧ h.i M 1 = nI n ∧ n ≤ 40 ∧ h.i M 4 = nI C ∧ C ≤ K ∧ h.i M 7 = nI m ∧ m ≤ 180
  ∧ (∀ a, a < n → ∀ j, j < 1393 → h.l (M + 1) (1393 * a + j) = (Γ a).f j)
  ∧ (∀ c, c < C → ∃ a, a < n ∧ h.i (M + 3) c = nI a)
  ∧ (∀ a, a < n → (Γ a).r = (Γ a).F + cnt (isC h M (nI a)) C)
  ∧ (∀ a, a < n → ∀ c, c < C → h.i (M + 3) c = nI a → ∀ j, j < 1393 → h.l (M + 2) (1393 * c + j) = (Γ a).G ((Γ a).F + cnt (isC h M (nI a)) c) j)
  ∧ ∀ a, a < n → ∀ i, i < 600 → ∀ k, k < 5 → h.l (M + 4) (sx a i k) = (Γ a).Z i k
/-- everything between two calls -/
def GI (h : Hp) (ow : Nat → Nat) (X M n C m K : Nat) (Aof : Nat → Nat) (Γ : Nat → Gh) : Prop :=
  MI h M n C m K Γ ∧ PSh h.1 X ∧ h.i X 1 = nI n ∧ h.i X 3 = nI m ∧ X + 3 ≤ h.n ∧ M + 6 ≤ h.n ∧ (∀ x, X ≤ x → x < X + 3 → ow x = 50000) ∧ (∀ x, M ≤ x → x < M + 6 → ow x = 60000) ∧ (∀ a, a < n → h.r (X + 1) a = some (Aof a) ∧ CR h ow a (Aof a) K (Γ a)) ∧ ∀ i, i < m → h.l (X + 2) i = h.l (M + 5) i
def GX (h : Hp) (X M K : Nat) : Prop := ∃ (ow : Nat → Nat) (n C m : Nat) (Aof : Nat → Nat) (Γ : Nat → Gh), GI h ow X M n C m K Aof Γ
theorem cnt_lt2 {p : Nat → Bool} {c : Nat} (hp : p c = true) : ∀ n, c < n → cnt p c < cnt p n := by
  intro n hn
  have h1 : cnt p (c + 1) = cnt p c + 1 := by
    have e : cnt p (c + 1) = cnt p c + (if p c then 1 else 0) := rfl
    rw [e, hp, if_pos rfl]
  have := cnt_mono p (show c + 1 ≤ n by omega)
  omega
section
variable {h g g2 : Hp} {ow ow' : Nat → Nat} {X M n C m K a : Nat} {Aof : Nat → Nat} {Γ : Nat → Gh} {γ' : Gh}
theorem MI.frame (I : MI h M n C m K Γ) (hE : ∀ x, M ≤ x → x < M + 6 → Eq1 h g x) : MI g M n C m K Γ := by
  obtain ⟨i1, i2, i3, i4, i5, i6, i7, i8, i9, i10, i11, i12⟩ := I
  have e0 := hE M (by omega) (by omega)
  have e1 := hE (M + 1) (by omega) (by omega)
  have e2 := hE (M + 2) (by omega) (by omega)
  have e3 := hE (M + 3) (by omega) (by omega)
  have e4 := hE (M + 4) (by omega) (by omega)
  have e5 := hE (M + 5) (by omega) (by omega)
  have ec : ∀ r, isC g M r = isC h M r := fun r => by funext c; unfold isC; rw [e3.2.2.1]
  obtain ⟨m1, ⟨m2, m3⟩, ⟨m4, m5⟩, ⟨m6, m7⟩, ⟨m8, m9⟩, ⟨m10, m11⟩⟩ := i1
  refine ⟨⟨e0.1.trans m1, ⟨(e0.2.1 0).trans m2, e1.1.trans m3⟩, ⟨(e0.2.1 2).trans m4, e2.1.trans m5⟩, ⟨(e0.2.1 3).trans m6, e3.1.trans m7⟩, ⟨(e0.2.1 5).trans m8, e4.1.trans m9⟩, ⟨(e0.2.1 6).trans m10, e5.1.trans m11⟩⟩, (e0.2.2.1 1).trans i2, i3, (e0.2.2.1 4).trans i4, i5, (e0.2.2.1 7).trans i6, i7, fun a ha j hj => (e1.2.2.2 _).trans (i8 a ha j hj), fun c hc => ?_, fun a ha => ?_, fun a ha c hc hca j hj => ?_, fun a ha i hi k hk => (e4.2.2.2 _).trans (i12 a ha i hi k hk)⟩
  · obtain ⟨a, ha, e⟩ := i9 c hc
    exact ⟨a, ha, (e3.2.2.1 c).trans e⟩
  · rw [ec]; exact i10 a ha
  · rw [ec, e2.2.2.2]
    exact i11 a ha c hc ((e3.2.2.1 c).symm.trans hca) j hj
theorem MI.mono {K' : Nat} (I : MI h M n C m K Γ) (hK : K ≤ K') : MI h M n C m K' Γ := ⟨I.1, I.2.1, I.2.2.1, I.2.2.2.1, Nat.le_trans I.2.2.2.2.1 hK, I.2.2.2.2.2⟩
theorem MI.self (I : MI h M n C m K Γ) (ha : a < n) : h = mh h M a (Γ a).f := (mh_self (fun b hb => (I.2.2.2.2.2.2.2.1 a ha b hb).symm)).symm
theorem MI.ri (I : MI h M n C m K Γ) (ha : a < n) : isRi h M (nI a) = true := by
  unfold isRi
  rw [I.2.1, decide_eq_true (nI_pos' (by have := I.2.2.1; omega)), decide_eq_true (nI_lt ha (by have := I.2.2.1; omega))]
  rfl
theorem mh_o {f : Fl} {x : Nat} (hx : x ≠ M + 1) : Eq1 h (mh h M a f) x := ⟨rfl, fun _ => rfl, fun _ => rfl, fun _ => if_neg (fun z => hx z.1)⟩
theorem mh_oa {f : Fl} {b j : Nat} (hb : b ≠ a) (hj : j < 1393) : (mh h M a f).l (M + 1) (1393 * b + j) = h.l (M + 1) (1393 * b + j) := if_neg (fun z => by omega)
/-- the ring's own numbers change -/
theorem MI.set {f : Fl} (I : MI h M n C m K Γ) (ha : a < n) (hK : K < 512) : MI (mh h M a f) M n C m (K + 1) (gup Γ a ((Γ a).set f)) := by
  obtain ⟨i1, i2, i3, i4, i5, i6, i7, i8, i9, i10, i11, i12⟩ := I
  have ec : ∀ r, isC (mh h M a f) M r = isC h M r := fun r => rfl
  refine ⟨i1, i2, i3, i4, by omega, i6, i7, fun b hb j hj => ?_, i9, fun b hb => ?_, fun b hb c hc hcb j hj => ?_, fun b hb i hi k hk => ?_⟩
  · by_cases e : b = a
    · subst e
      rw [gup_s, mh_get hj]
      show f j = upG (Γ b).G (Γ b).r f (Γ b).r j
      rw [upG_s]
    · rw [gup_n e, mh_oa e hj]
      exact i8 b hb j hj
  · rw [ec]
    by_cases e : b = a
    · subst e
      rw [gup_s]
      exact i10 b hb
    · rw [gup_n e]
      exact i10 b hb
  · rw [ec, (mh_o (h := h) (M := M) (a := a) (f := f) (x := M + 2) (by omega)).2.2.2]
    have hcb : h.i (M + 3) c = nI b := hcb
    by_cases e : b = a
    · subst e
      rw [gup_s]
      have hr := i10 b hb
      have hlt := cnt_lt2 (p := isC h M (nI b)) (decide_eq_true hcb) C hc
      show _ = upG (Γ b).G (Γ b).r f ((Γ b).F + cnt (isC h M (nI b)) c) j
      rw [upG_n (by omega)]
      exact i11 b hb c hc hcb j hj
    · rw [gup_n e]
      exact i11 b hb c hc hcb j hj
  · rw [(mh_o (h := h) (M := M) (a := a) (f := f) (x := M + 4) (by omega)).2.2.2]
    by_cases e : b = a
    · subst e
      rw [gup_s]
      exact i12 b hb i hi k hk
    · rw [gup_n e]
      exact i12 b hb i hi k hk
/-- a call on ring a: the class's part done, then the reference's -/
theorem GI.step (I : GI h ow X M n C m K Aof Γ) (hK : K < 512) (ha : a < n) (R : CR g ow' a (Aof a) (K + 1) γ') (oth : Oth h g ow a) (how : ∀ x, x < h.n → ow' x = ow x) :
    MI g M n C m K Γ ∧ ∀ (g2 : Hp) (C' : Nat), g2.1 = g.1 → (∀ x, (x < M ∨ M + 6 ≤ x) → Eq1 g g2 x) → (∀ i, g2.l (M + 5) i = g.l (M + 5) i) → MI g2 M n C' m (K + 1) (gup Γ a γ') → GI g2 ow' X M n C' m (K + 1) Aof (gup Γ a γ') := by
  obtain ⟨i1, i2, i3, i4, i5, i6, i7, i8, i9, i10⟩ := I
  have hn4 := i1.2.2.1
  have eX : ∀ x, X ≤ x → x < X + 3 → Eq1 h g x := fun x h1 h2 => oth.2 x (by omega) (by rw [i7 x h1 h2]; omega)
  have eM : ∀ x, M ≤ x → x < M + 6 → Eq1 h g x := fun x h1 h2 => oth.2 x (by omega) (by rw [i8 x h1 h2]; omega)
  refine ⟨i1.frame eM, fun g2 C' hsh hE hl hM => ?_⟩
  have hXM : ∀ x, X ≤ x → x < X + 3 → x < M ∨ M + 6 ≤ x := fun x h1 h2 => by
    rcases Nat.lt_or_ge x M with z | z
    · exact Or.inl z
    · rcases Nat.lt_or_ge x (M + 6) with y | y
      · have := i7 x h1 h2
        have := i8 x z y
        omega
      · exact Or.inr y
  have eX2 : ∀ x, X ≤ x → x < X + 3 → Eq1 h g2 x := fun x h1 h2 => (eX x h1 h2).trans (hE x (hXM x h1 h2))
  have gn : g2.n = g.n := by show g2.1.1 = _; rw [hsh]
  have hgn := oth.1
  refine ⟨hM, ?_, ((eX2 X (by omega) (by omega)).2.2.1 1).trans i3, ((eX2 X (by omega) (by omega)).2.2.1 3).trans i4, by omega, by omega, fun x h1 h2 => (how x (by omega)).trans (i7 x h1 h2), fun x h1 h2 => (how x (by omega)).trans (i8 x h1 h2), fun b hb => ⟨((eX2 (X + 1) (by omega) (by omega)).2.1 b).trans (i9 b hb).1, ?_⟩, fun i hi => ?_⟩
  · obtain ⟨p1, ⟨p2, p3⟩, ⟨p4, p5⟩⟩ := i2
    exact ⟨(eX2 X (by omega) (by omega)).1.trans p1, ⟨((eX2 X (by omega) (by omega)).2.1 0).trans p2, (eX2 (X + 1) (by omega) (by omega)).1.trans p3⟩, ⟨((eX2 X (by omega) (by omega)).2.1 2).trans p4, (eX2 (X + 2) (by omega) (by omega)).1.trans p5⟩⟩
  · -- from the class's heap on, only the reference's cells differ
    have fin : ∀ b', b' < 40 → ∀ γb, CR g ow' b' (Aof b) (K + 1) γb → CR g2 ow' b' (Aof b) (K + 1) γb := fun b' hb' γb Rb => Rb.frame hb' (by omega) (Nat.le_refl _) (by omega) (fun _ _ => rfl) (fun x hx hl => hE x (by
      rcases Nat.lt_or_ge x M with z | z
      · exact Or.inl z
      · rcases Nat.lt_or_ge x (M + 6) with y | y
        · have a1 := (how x (by omega)).trans (i8 x z y)
          omega
        · exact Or.inr y))
    by_cases e : b = a
    · subst e
      rw [gup_s]
      exact fin b (by omega) _ R
    · rw [gup_n e]
      exact fin b (by omega) _ ((i9 b hb).2.frame (by omega) (by omega) (Nat.le_succ _) hgn how (fun x hx hl => oth.2 x hx (by omega)))
  · rw [(eX2 (X + 2) (by omega) (by omega)).2.2.2, hl, (eM (M + 5) (by omega) (by omega)).2.2.2]
    exact i10 i hi
theorem GI.mono (I : GI h ow X M n C m K Aof Γ) (hK : K < 512) : GI h ow X M n C m (K + 1) Aof Γ := by
  obtain ⟨i1, i2, i3, i4, i5, i6, i7, i8, i9, i10⟩ := I
  have hn4 := i1.2.2.1
  exact ⟨i1.mono (Nat.le_succ _), i2, i3, i4, i5, i6, i7, i8, fun b hb => ⟨(i9 b hb).1, (i9 b hb).2.frame (by omega) (by omega) (Nat.le_succ _) (Nat.le_refl _) (fun _ _ => rfl) (fun _ _ _ => Eq1.refl)⟩, i10⟩
/-- is there such a ring? -/
theorem GI.ri (I : GI h ow X M n C m K Aof Γ) (r : Int32) : (pF h X n r = none ∧ isRi h M r = false) ∨ ∃ a, a < n ∧ r = nI a ∧ pF h X n r = some (Aof a) ∧ isRi h M r = true := by
  obtain ⟨i1, i2, i3, i4, i5, i6, i7, i8, i9, i10⟩ := I
  have hn4 := i1.2.2.1
  unfold pF isRi
  rw [i1.2.1]
  by_cases hk : ¬ r < 0 ∧ r < nI n
  · right
    rcases pk_ix r (n := n) (by omega) with z | z | ⟨j, hj, rfl⟩
    · exact absurd z hk.1
    · exact absurd hk.2 (Int32.not_lt.mpr z)
    · refine ⟨j, hj, rfl, ?_, ?_⟩
      · rw [if_pos hk, nI_clamp (by omega)]
        exact (i9 j hj).1
      · rw [decide_eq_true (Int32.not_lt.mp hk.1), decide_eq_true hk.2]
        rfl
  · left
    refine ⟨if_neg hk, ?_⟩
    by_cases h1 : 0 ≤ r
    · rw [decide_eq_false (fun z => hk ⟨Int32.not_lt.mpr h1, z⟩), Bool.and_false]
    · rw [decide_eq_false h1, Bool.false_and]
theorem mh_fr {f : Fl} : (mh h M a f).1 = h.1 ∧ (∀ x, (x < M ∨ M + 6 ≤ x) → Eq1 h (mh h M a f) x) ∧ ∀ i, (mh h M a f).l (M + 5) i = h.l (M + 5) i := ⟨rfl, fun x hx => mh_o (by omega), fun i => (mh_o (by omega)).2.2.2 i⟩
end

