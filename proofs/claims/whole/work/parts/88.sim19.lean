/-! a ring of the class, with its books and its stops -/
abbrev Gh : Type := Nat × Nat × (Nat → Fl) × (Nat → Nat → Int64)
abbrev Gh.F (γ : Gh) : Nat := γ.1
abbrev Gh.r (γ : Gh) : Nat := γ.2.1
abbrev Gh.G (γ : Gh) : Nat → Fl := γ.2.2.1
abbrev Gh.Z (γ : Gh) : Nat → Nat → Int64 := γ.2.2.2
abbrev Gh.f (γ : Gh) : Fl := γ.2.2.1 γ.2.1
def upG (G : Nat → Fl) (k : Nat) (f : Fl) : Nat → Fl := fun j => if j = k then f else G j
def Gh.set (γ : Gh) (f : Fl) : Gh := (γ.F, γ.r, upG γ.G γ.r f, γ.Z)
theorem upG_s {G : Nat → Fl} {k : Nat} {f : Fl} : upG G k f k = f := if_pos rfl
theorem upG_n {G : Nat → Fl} {k j : Nat} {f : Fl} (h : j ≠ k) : upG G k f j = G j := if_neg h
def StV (h : Hp) (q : Nat) (z : Nat → Int64) : Prop := (h.i q 0).toInt64 = z 0 ∧ (h.i q 1).toInt64 = z 1 ∧ h.l q 2 = z 2 ∧ h.l q 3 = z 3 ∧ ¬ z 2 < 0
/-- the numbers: each round's book is right, lots and stops only grow -/
def GhOK (K : Nat) (γ : Gh) : Prop :=
  γ.F ≤ γ.r ∧ γ.r ≤ 60 ∧ (∀ k, γ.F ≤ k → k ≤ γ.r → Ok K (γ.G k) ∧ γ.G k 5 = lN k) ∧ (∀ k k', γ.F ≤ k → k ≤ k' → k' ≤ γ.r → (γ.G k 10).toInt ≤ (γ.G k' 10).toInt ∧ (γ.G k 8).toInt ≤ (γ.G k' 8).toInt) ∧ ∀ k, γ.F ≤ k → k < γ.r → γ.G k 4 = 1
def CR (h : Hp) (ow : Nat → Nat) (a A K : Nat) (γ : Gh) : Prop :=
  RSh h.1 A ∧ A + 68 ≤ h.n ∧ (∀ x, A ≤ x → x < A + 68 → ow x = 1000 * a) ∧ h.i A 10 = nI γ.F ∧ GhOK K γ ∧ Sm h A (A + 5) γ.f
  ∧ (∀ k b, k < 60 → h.r (A + 67) k = some b → BSh h.1 b ∧ b + 62 ≤ h.n ∧ ∀ x, b ≤ x → x < b + 62 → ow x = 1000 * a + 1 + k)
  ∧ (∀ k, γ.F ≤ k → k < γ.r → ∃ b, h.r (A + 67) k = some b ∧ Sm h A b (γ.G k))
  ∧ (∀ i q, i < 512 → h.r (A + 4) i = some q → h.kd q = kObj 3 ∧ q < h.n ∧ ow q = 1000 * a + 100 + i)
  ∧ ∀ i, i < (γ.f 8).toInt.toNat → ∃ q, h.r (A + 4) i = some q ∧ StV h q (γ.Z i) ∧ (γ.f 4 = 2 → h.l q 4 = γ.Z i 4) ∧ (¬ γ.f 4 = 2 → γ.Z i 4 = 0)
theorem GhOK.mono {K K' : Nat} {γ : Gh} (I : GhOK K γ) (hK : K ≤ K') : GhOK K' γ := ⟨I.1, I.2.1, fun k h1 h2 => ⟨(I.2.2.1 k h1 h2).1.mono hK, (I.2.2.1 k h1 h2).2⟩, I.2.2.2.1, I.2.2.2.2⟩
section
variable {h g : Hp} {ow ow' : Nat → Nat} {a A K : Nat} {γ : Gh}
theorem CR.ok (I : CR h ow a A K γ) : Ok K γ.f := (I.2.2.2.2.1.2.2.1 γ.r I.2.2.2.2.1.1 (Nat.le_refl _)).1
theorem CR.f5 (I : CR h ow a A K γ) : γ.f 5 = lN γ.r := (I.2.2.2.2.1.2.2.1 γ.r I.2.2.2.2.1.1 (Nat.le_refl _)).2
theorem CR.sm (I : CR h ow a A K γ) : Sm h A (A + 5) γ.f := I.2.2.2.2.2.1
theorem CR.hr (I : CR h ow a A K γ) : h.i (A + 5) 2 = nI γ.r := by
  have := I.2.2.2.2.1.2.1
  exact (t64_n (by omega)).mp ((I.sm.k 5 (by decide)).symm.trans I.f5)
/-- how many stops there are -/
theorem CR.c (I : CR h ow a A K γ) (hK : K < 2 ^ 31) : ∃ c, c ≤ K ∧ γ.f 8 = lN c ∧ (γ.f 8).toInt.toNat = c ∧ h.i (A + 5) 7 = nI c := by
  obtain ⟨c, hc, e⟩ := I.ok.1.2.2.2.2.2.2.2.2.1
  exact ⟨c, hc, e, by rw [e, lN_nat (by omega)], (t64_n (by omega)).mp ((I.sm.k 8 (by decide)).symm.trans e)⟩
/-- where no cell of the ring changes, nothing of it does -/
theorem CR.frame {K' : Nat} (I : CR h ow a A K γ) (ha : a < 40) (hK0 : K ≤ 512) (hK : K ≤ K') (hn : h.n ≤ g.n) (how : ∀ x, x < h.n → ow' x = ow x) (hE : ∀ x, x < h.n → ow x / 1000 = a → Eq1 h g x) : CR g ow' a A K' γ := by
  obtain ⟨c, hc, e8, ec, -⟩ := I.c (by omega)
  obtain ⟨i1, i2, i3, i4, i5, i6, i7, i8, i9, i10⟩ := I
  have lA : ∀ x, A ≤ x → x < A + 68 → Eq1 h g x := fun x h1 h2 => hE x (by omega) (by rw [i3 x h1 h2]; omega)
  have lB : ∀ k b, k < 60 → h.r (A + 67) k = some b → ∀ x, b ≤ x → x < b + 62 → Eq1 h g x := fun k b hk hb x h1 h2 => hE x (by have := (i7 k b hk hb).2.1; omega) (by rw [(i7 k b hk hb).2.2 x h1 h2]; omega)
  have lS : ∀ i q, i < 512 → h.r (A + 4) i = some q → Eq1 h g q := fun i q hi hq => hE q (i9 i q hi hq).2.1 (by rw [(i9 i q hi hq).2.2]; omega)
  have e67 := (lA (A + 67) (by omega) (by omega)).2.1
  have e4 := (lA (A + 4) (by omega) (by omega)).2.1
  have smA : ∀ B f, (∀ x, B ≤ x → x < B + 62 → Eq1 h g x) → Sm h A B f → Sm g A B f := fun B f hB S => S.frame (fun x hx => by
    rcases hx with z | z | z | z | z
    · exact lA x (by omega) (by omega)
    · exact lA x (by omega) (by omega)
    · exact lA x (by omega) (by omega)
    · exact lA x (by omega) (by omega)
    · exact hB x z.1 z.2)
  refine ⟨Eq1.rshA lA i1, by omega, fun x h1 h2 => (how x (by omega)).trans (i3 x h1 h2), ((lA A (by omega) (by omega)).2.2.1 10).trans i4, i5.mono hK, smA _ _ (fun x h1 h2 => lA x (by omega) (by omega)) i6, fun k b hk hb => ?_, fun k h1 h2 => ?_, fun i q hi hq => ?_, fun i hi => ?_⟩
  · rw [e67] at hb
    obtain ⟨b1, b2, b3⟩ := i7 k b hk hb
    exact ⟨Eq1.bsh (lB k b hk hb) b1, by omega, fun x h1 h2 => (how x (by omega)).trans (b3 x h1 h2)⟩
  · obtain ⟨b, hb, S⟩ := i8 k h1 h2
    exact ⟨b, (e67 k).trans hb, smA b _ (lB k b (by have := i5.2.1; omega) hb) S⟩
  · rw [e4] at hq
    obtain ⟨b1, b2, b3⟩ := i9 i q hi hq
    exact ⟨(lS i q hi hq).1.trans b1, by omega, (how q b2).trans b3⟩
  · obtain ⟨q, hq, ⟨s1, s2, s3, s4, s5⟩, s6, s7⟩ := i10 i hi
    have e := lS i q (by omega) hq
    exact ⟨q, (e4 i).trans hq, ⟨by rw [e.2.2.1]; exact s1, by rw [e.2.2.1]; exact s2, by rw [e.2.2.2]; exact s3, by rw [e.2.2.2]; exact s4, s5⟩, by rw [e.2.2.2]; exact s6, s7⟩
theorem GhOK.set {f : Fl} (I : GhOK K γ) (O : Ok (K + 1) f) (h5 : f 5 = γ.f 5) (h8 : (γ.f 8).toInt ≤ (f 8).toInt) (h10 : (γ.f 10).toInt ≤ (f 10).toInt) : GhOK (K + 1) (γ.set f) := by
  obtain ⟨i1, i2, i3, i4, i5⟩ := I
  have eG : ∀ k, k < γ.r → upG γ.G γ.r f k = γ.G k := fun k hk => upG_n (by omega)
  refine ⟨i1, i2, fun k h1 h2 => ?_, fun k k' h1 h2 h3 => ?_, fun k h1 h2 => ?_⟩
  · show Ok (K + 1) (upG γ.G γ.r f k) ∧ upG γ.G γ.r f k 5 = lN k
    rcases Nat.lt_or_ge k γ.r with z | z
    · rw [eG k z]
      exact ⟨(i3 k h1 h2).1.mono (Nat.le_succ _), (i3 k h1 h2).2⟩
    · have e : k = γ.r := Nat.le_antisymm h2 z
      rw [e, upG_s]
      exact ⟨O, h5.trans (i3 γ.r i1 (Nat.le_refl _)).2⟩
  · show (upG γ.G γ.r f k 10).toInt ≤ (upG γ.G γ.r f k' 10).toInt ∧ (upG γ.G γ.r f k 8).toInt ≤ (upG γ.G γ.r f k' 8).toInt
    rcases Nat.lt_or_ge k' γ.r with z | z
    · rw [eG k (by omega), eG k' z]
      exact i4 k k' h1 h2 h3
    · have e : k' = γ.r := Nat.le_antisymm h3 z
      rw [e, upG_s]
      rcases Nat.lt_or_ge k γ.r with y | y
      · rw [eG k y]
        have := i4 k γ.r h1 (by omega) (Nat.le_refl _)
        exact ⟨Int.le_trans this.1 h10, Int.le_trans this.2 h8⟩
      · have e2 : k = γ.r := by omega
        rw [e2, upG_s]
        exact ⟨Int.le_refl _, Int.le_refl _⟩
  · show upG γ.G γ.r f k 4 = 1
    rw [eG k h2]
    exact i5 k h1 h2
/-- only the ring's own cells change, and none of its references -/
theorem CR.inn {f : Fl} (I : CR h ow a A K γ) (hK : K < 512) (hsh : g.1 = h.1) (hE : ∀ x, (x < A ∨ A + 68 ≤ x) → Eq1 h g x) (h10i : g.i A 10 = h.i A 10) (S : Sm g A (A + 5) f) (O : Ok (K + 1) f) (h5 : f 5 = γ.f 5) (h8 : f 8 = γ.f 8) (h10 : (γ.f 10).toInt ≤ (f 10).toInt) (h42 : f 4 = 2 ↔ γ.f 4 = 2)
    (hcp : ∀ k b, γ.F ≤ k → k < γ.r → (b + 62 ≤ A ∨ A + 68 ≤ b) → Sm h A b (γ.G k) → Sm g A b (γ.G k)) : CR g ow a A (K + 1) (γ.set f) := by
  have hgn : g.n = h.n := by show g.1.1 = _; rw [hsh]
  have hgr : ∀ x k, g.r x k = h.r x k := fun x k => by show g.1.2.2 x k = _; rw [hsh]
  have hgk : ∀ x, g.kd x = h.kd x := fun x => by show g.1.2.1 x = _; rw [hsh]
  obtain ⟨c, hc, e8, ec, -⟩ := I.c (by omega)
  obtain ⟨i1, i2, i3, i4, i5, i6, i7, i8, i9, i10⟩ := I
  have lB : ∀ k b, k < 60 → h.r (A + 67) k = some b → b + 62 ≤ A ∨ A + 68 ≤ b := fun k b hk hb => by
    have hl := (i7 k b hk hb).2.2
    rcases Nat.lt_or_ge A (b + 62) with z | z
    · rcases Nat.lt_or_ge b (A + 68) with y | y
      · exfalso
        rcases Nat.lt_or_ge b A with w | w
        · have a1 := hl A (by omega) z
          have a2 := i3 A (Nat.le_refl _) (by omega)
          omega
        · have a1 := hl b (Nat.le_refl _) (by omega)
          have a2 := i3 b w y
          omega
      · exact Or.inr y
    · exact Or.inl z
  have lS : ∀ i q, i < 512 → h.r (A + 4) i = some q → Eq1 h g q := fun i q hi hq => hE q (by
    have a1 := (i9 i q hi hq).2.2
    rcases Nat.lt_or_ge q A with z | z
    · exact Or.inl z
    · rcases Nat.lt_or_ge q (A + 68) with y | y
      · have a2 := i3 q z y
        omega
      · exact Or.inr y)
  have eset : (γ.set f).f = f := upG_s
  refine ⟨by rw [hsh]; exact i1, by omega, i3, h10i.trans i4, i5.set O h5 (by rw [h8]; exact Int.le_refl _) h10, by rw [eset]; exact S, fun k b hk hb => ?_, fun k h1 h2 => ?_, fun i q hi hq => ?_, fun i hi => ?_⟩
  · rw [hgr] at hb
    obtain ⟨b1, b2, b3⟩ := i7 k b hk hb
    exact ⟨by rw [hsh]; exact b1, by omega, b3⟩
  · obtain ⟨b, hb, Sb⟩ := i8 k h1 h2
    have hk6 : k < 60 := Nat.lt_of_lt_of_le h2 i5.2.1
    refine ⟨b, (hgr _ _).trans hb, ?_⟩
    have e : (γ.set f).G k = γ.G k := upG_n (Nat.ne_of_lt h2)
    rw [e]
    exact hcp k b h1 h2 (lB k b hk6 hb) Sb
  · rw [hgr] at hq
    obtain ⟨b1, b2, b3⟩ := i9 i q hi hq
    exact ⟨(hgk q).trans b1, by omega, b3⟩
  · rw [eset, h8] at hi
    obtain ⟨q, hq, ⟨s1, s2, s3, s4, s5⟩, s6, s7⟩ := i10 i hi
    have e := lS i q (by omega) hq
    rw [eset]
    exact ⟨q, (hgr _ _).trans hq, ⟨by rw [e.2.2.1]; exact s1, by rw [e.2.2.1]; exact s2, by rw [e.2.2.2]; exact s3, by rw [e.2.2.2]; exact s4, s5⟩, fun z => by rw [e.2.2.2]; exact s6 (h42.mp z), fun z => s7 (fun y => z (h42.mpr y))⟩
/-- only the ring's book changes -/
theorem CR.simple {f : Fl} (I : CR h ow a A K γ) (hK : K < 512) (hsh : g.1 = h.1) (hE : ∀ x, (x < A + 5 ∨ A + 67 ≤ x) → Eq1 h g x) (S : Sm g A (A + 5) f) (O : Ok (K + 1) f) (h5 : f 5 = γ.f 5) (h8 : f 8 = γ.f 8) (h10 : f 10 = γ.f 10) (h42 : f 4 = 2 ↔ γ.f 4 = 2) : CR g ow a A (K + 1) (γ.set f) :=
  I.inn hK hsh (fun x hx => hE x (by omega)) ((hE A (by omega)).2.2.1 10) S O h5 h8 (by rw [h10]; exact Int.le_refl _) h42 (fun k b _ _ hb Sb => Sb.frame (fun x hx => hE x (by omega)))
end

