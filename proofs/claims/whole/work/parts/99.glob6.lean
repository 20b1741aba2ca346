/-! the calls: a new ring, an image -/
theorem fits_eq {k p f c : Int32} : fitsR k p f c = true ↔ rgOK k p f c := by
  unfold fitsR rgOK
  rw [Bool.and_eq_true, Bool.and_eq_true, Bool.and_eq_true, wn03, wn1p, wn0p, wn0c]
  constructor
  · rintro ⟨a1, a2, a3, a4⟩
    exact ⟨fun z => a1 (Or.inl z), Int32.not_lt.mp (fun z => a1 (Or.inr z)), Int32.not_lt.mp (fun z => a2 (Or.inl z)), Int32.not_lt.mp (fun z => a2 (Or.inr z)), fun z => a3 (Or.inl z), Int32.not_lt.mp (fun z => a3 (Or.inr z)), fun z => a4 (Or.inl z), Int32.not_lt.mp (fun z => a4 (Or.inr z))⟩
  · rintro ⟨b1, b2, b3, b4, b5, b6, b7, b8⟩
    exact ⟨fun z => z.elim b1 (Int32.not_lt.mpr b2), fun z => z.elim (Int32.not_lt.mpr b3) (Int32.not_lt.mpr b4), fun z => z.elim b5 (Int32.not_lt.mpr b6), fun z => z.elim b7 (Int32.not_lt.mpr b8)⟩
section
variable {cx : Cx} {h g g0 : Hp} {ow ow' : Nat → Nat} {X M n C m K a A : Nat} {Aof : Nat → Nat} {Γ : Nat → Gh} {r : Int32} {γ' : Gh}
theorem pAdd_eq {x : Nat} (h1 : x ≠ X) (h2 : x ≠ X + 1) : Eq1 h (pAdd h X n A) x := (Eq1.setR h2).trans (Eq1.setI h1)
/-- one ring more -/
theorem GI.grow (I : GI h ow X M n C m K Aof Γ) (hK : K < 512) (hn : n < 40) (R : CR g0 ow' n A (K + 1) γ') (hn0 : h.n ≤ g0.n) (hE0 : ∀ x, x < h.n → Eq1 h g0 x) (how : ∀ x, x < h.n → ow' x = ow x) :
    MI (pAdd g0 X n A) M n C m K Γ ∧ ∀ g2 : Hp, g2.1 = (pAdd g0 X n A).1 → (∀ x, (x < M ∨ M + 6 ≤ x) → Eq1 (pAdd g0 X n A) g2 x) → (∀ i, g2.l (M + 5) i = (pAdd g0 X n A).l (M + 5) i) → MI g2 M (n + 1) C m (K + 1) (gup Γ n γ') → GX g2 X M (K + 1) := by
  have xm := I.xm
  obtain ⟨i1, i2, i3, i4, i5, i6, i7, i8, i9, i10⟩ := I
  have eA : ∀ x, x ≠ X → x ≠ X + 1 → Eq1 g0 (pAdd g0 X n A) x := fun x h1 h2 => pAdd_eq h1 h2
  have eXk : ∀ x, (pAdd g0 X n A).kd x = g0.kd x := fun x => rfl
  have eXr : (pAdd g0 X n A).r (X + 1) n = some A := up2_s _ _ _ _
  have eXo : ∀ b, b ≠ n → (pAdd g0 X n A).r (X + 1) b = g0.r (X + 1) b := fun b hb => up2_k _ _ hb
  have eX0 : ∀ k, (pAdd g0 X n A).r X k = g0.r X k := fun k => up2_a _ _ (by omega)
  have eX1 : (pAdd g0 X n A).i X 1 = nI (n + 1) := up2_s _ _ _ _
  have eX3 : (pAdd g0 X n A).i X 3 = g0.i X 3 := up2_k _ _ (by decide)
  have egn : (pAdd g0 X n A).n = g0.n := rfl
  generalize pAdd g0 X n A = g at eA eXk eXr eXo eX0 eX1 eX3 egn ⊢
  have eM : ∀ x, M ≤ x → x < M + 6 → Eq1 h g x := fun x h1 h2 => (hE0 x (by omega)).trans (eA x (fun e => xm X x (by omega) (by omega) h1 h2 e.symm) (fun e => xm (X + 1) x (by omega) (by omega) h1 h2 e.symm))
  refine ⟨i1.frame eM, fun g2 hsh hE hl hM => ⟨ow', n + 1, C, m, fun b => if b = n then A else Aof b, gup Γ n γ', hM, ?_, ?_, ?_, ?_, ?_, ?_, ?_, fun b hb => ?_, fun i hi => ?_⟩⟩
  · obtain ⟨p1, ⟨p2, p3⟩, ⟨p4, p5⟩⟩ := i2
    rw [hsh]
    exact ⟨(eXk X).trans ((hE0 X (by omega)).1.trans p1), ⟨(eX0 0).trans (((hE0 X (by omega)).2.1 0).trans p2), (eXk (X + 1)).trans ((hE0 (X + 1) (by omega)).1.trans p3)⟩, ⟨(eX0 2).trans (((hE0 X (by omega)).2.1 2).trans p4), (eXk (X + 2)).trans ((hE0 (X + 2) (by omega)).1.trans p5)⟩⟩
  · rw [(hE X (by
      rcases Nat.lt_or_ge X M with z | z
      · exact Or.inl z
      · rcases Nat.lt_or_ge X (M + 6) with y | y
        · exact absurd rfl (xm X X (by omega) (by omega) z y)
        · exact Or.inr y)).2.2.1]
    exact eX1
  · rw [(hE X (by
      rcases Nat.lt_or_ge X M with z | z
      · exact Or.inl z
      · rcases Nat.lt_or_ge X (M + 6) with y | y
        · exact absurd rfl (xm X X (by omega) (by omega) z y)
        · exact Or.inr y)).2.2.1]
    exact eX3.trans (((hE0 X (by omega)).2.2.1 3).trans i4)
  · have : g2.n = g.n := by show g2.1.1 = _; rw [hsh]
    omega
  · have : g2.n = g.n := by show g2.1.1 = _; rw [hsh]
    omega
  · exact fun x h1 h2 => (how x (by omega)).trans (i7 x h1 h2)
  · exact fun x h1 h2 => (how x (by omega)).trans (i8 x h1 h2)
  · have g2n : g2.n = g.n := by show g2.1.1 = _; rw [hsh]
    have g2r : ∀ x k, g2.r x k = g.r x k := fun x k => by show g2.1.2.2 x k = _; rw [hsh]
    have lab : ∀ x, x < g0.n → ow' x / 1000 < 40 → Eq1 g0 g2 x := fun x hx hl => by
      have n1 : ∀ y, X ≤ y → y < X + 3 → x ≠ y := fun y h1 h2 e => by
        have a1 := (how y (by omega)).trans (i7 y h1 h2)
        rw [e] at hl
        omega
      have n2 : ∀ y, M ≤ y → y < M + 6 → x ≠ y := fun y h1 h2 e => by
        have a1 := (how y (by omega)).trans (i8 y h1 h2)
        rw [e] at hl
        omega
      refine (eA x (n1 X (by omega) (by omega)) (n1 (X + 1) (by omega) (by omega))).trans (hE x ?_)
      rcases Nat.lt_or_ge x M with z | z
      · exact Or.inl z
      · rcases Nat.lt_or_ge x (M + 6) with y | y
        · exact absurd rfl (n2 x z y)
        · exact Or.inr y
    by_cases e : b = n
    · rw [e]
      show g2.r (X + 1) n = some (if n = n then A else Aof n) ∧ CR g2 ow' n (if n = n then A else Aof n) (K + 1) (gup Γ n γ' n)
      rw [if_pos rfl, gup_s]
      exact ⟨(g2r _ _).trans eXr, R.frame hn (by omega) (Nat.le_refl _) (by omega) (fun _ _ => rfl) (fun x hx hl => lab x hx (by omega))⟩
    · show g2.r (X + 1) b = some (if b = n then A else Aof b) ∧ CR g2 ow' b (if b = n then A else Aof b) (K + 1) (gup Γ n γ' b)
      rw [if_neg e, gup_n e]
      obtain ⟨b1, b2⟩ := i9 b (by omega)
      exact ⟨(g2r _ _).trans ((eXo b e).trans (((hE0 (X + 1) (by omega)).2.1 b).trans b1)), b2.frame (by omega) (by omega) (Nat.le_succ _) (by omega) how (fun x hx hl => (hE0 x hx).trans (lab x (by omega) (by rw [how x hx]; omega)))⟩
  · have e2 : Eq1 h g2 (X + 2) := ((hE0 (X + 2) (by omega)).trans (eA (X + 2) (by omega) (by omega))).trans (hE (X + 2) (by
      rcases Nat.lt_or_ge (X + 2) M with z | z
      · exact Or.inl z
      · rcases Nat.lt_or_ge (X + 2) (M + 6) with y | y
        · exact absurd rfl (xm (X + 2) (X + 2) (by omega) (by omega) z y)
        · exact Or.inr y))
    rw [e2.2.2.2, hl, (eM (M + 5) (by omega) (by omega)).2.2.2]
    exact i10 i hi
theorem MI.grow {f : Fl} (I : MI h M n C m K Γ) (hK : K < 512) (hn : n < 40) (hsh : g.1 = h.1) (hi1 : g.i M 1 = nI (n + 1)) (hio : ∀ x k, (x ≠ M ∨ k ≠ 1) → g.i x k = h.i x k) (hl : ∀ x, x ≠ M + 4 → ∀ k, g.l x k = h.l x k) (hz : ∀ b, b < n → ∀ i, i < 600 → ∀ k, k < 5 → g.l (M + 4) (sx b i k) = h.l (M + 4) (sx b i k)) (hf : ∀ j, j < 1393 → γ'.f j = f j) (hrF : γ'.r = γ'.F) (hZ : ∀ i, i < 600 → ∀ k, k < 5 → g.l (M + 4) (sx n i k) = γ'.Z i k) : MI (mh g M n f) M (n + 1) C m (K + 1) (gup Γ n γ') := by
  obtain ⟨i1, i2, i3, i4, i5, i6, i7, i8, i9, i10, i11, i12⟩ := I
  have ec : ∀ r, isC (mh g M n f) M r = isC h M r := fun r => by
    funext c
    unfold isC
    rw [show (mh g M n f).i (M + 3) c = g.i (M + 3) c from rfl, hio _ _ (Or.inl (by omega))]
  have hnone : ∀ c, c < C → ¬ h.i (M + 3) c = nI n := fun c hc e => by
    obtain ⟨b, hb, e'⟩ := i9 c hc
    have := (nI_eq (by omega) (by omega)).mp (e'.symm.trans e)
    omega
  refine ⟨by rw [show (mh g M n f).1 = g.1 from rfl, hsh]; exact i1, hi1, by omega, (hio _ _ (Or.inr (by decide))).trans i4, by omega, (hio _ _ (Or.inr (by decide))).trans i6, i7, fun b hb j hj => ?_, fun c hc => ?_, fun b hb => ?_, fun b hb c hc hcb j hj => ?_, fun b hb i hi k hk => ?_⟩
  · by_cases e : b = n
    · rw [e, gup_s, mh_get hj]
      exact (hf j hj).symm
    · rw [gup_n e, mh_oa e hj, hl _ (by omega)]
      exact i8 b (by omega) j hj
  · obtain ⟨b, hb, e'⟩ := i9 c hc
    exact ⟨b, by omega, (hio _ _ (Or.inl (by omega))).trans e'⟩
  · rw [ec]
    by_cases e : b = n
    · rw [e, gup_s, cnt_none (p := isC h M (nI n)) C (fun c hc => decide_eq_false (hnone c hc))]
      omega
    · rw [gup_n e]
      exact i10 b (by omega)
  · rw [ec, (mh_o (h := g) (M := M) (a := n) (f := f) (x := M + 2) (by omega)).2.2.2, hl _ (by omega)]
    have hcb : h.i (M + 3) c = nI b := (hio _ _ (Or.inl (by omega))).symm.trans hcb
    by_cases e : b = n
    · rw [e] at hcb
      exact absurd hcb (hnone c hc)
    · rw [gup_n e]
      exact i11 b (by omega) c hc hcb j hj
  · rw [(mh_o (h := g) (M := M) (a := n) (f := f) (x := M + 4) (by omega)).2.2.2]
    by_cases e : b = n
    · rw [e, gup_s]
      exact hZ i hi k hk
    · rw [gup_n e, hz b (by omega) i hi k hk]
      exact i12 b (by omega) i hi k hk
theorem ca_ring {k p f c : Int32} (I : GI h ow X M n C m K Aof Γ) (hK : K < 512) : Cal cx mX4_ring mX5_ring h [.int k, .int p, .int f, .int c] X M K := by
  have Tx := qx_ring (cx := cx) (k := k) (p := p) (f := f) (c := c) I.2.1 I.2.2.1 I.1.2.2.1 I.2.2.2.2.1
  by_cases hy : rgOK k p f c ∧ n < 40
  · have e1 : pRing h X n k p f c = (nI n, pAdd (rgN (h.new (10 + 2) 0) h.n k p.toInt64 f.toInt64 c.toInt64) X n h.n) := if_pos ⟨fits_eq.mpr hy.1, hy.2⟩
    rw [e1] at Tx
    have R := fun Z => cr_new (h := h) (ow := ow) (K := K + 1) (n := n) (Z := Z) hy.1
    generalize rgN (h.new (10 + 2) 0) h.n k p.toInt64 f.toInt64 c.toInt64 = g0 at Tx R
    have en := (R (fun _ _ => 0)).2.1
    have eE := (R (fun _ _ => 0)).2.2
    obtain ⟨m1, fin⟩ := I.grow hK hy.2 (R (fun i k => (pAdd g0 X n h.n).l (M + 4) (sx n i k))).1 (by omega) eE (fun x hx => if_pos hx)
    generalize pAdd g0 X n h.n = g at Tx m1 fin
    have T := s_ring (cx := cx) (h := g) (M := M) (ki := k) (pa := p) (fi := f) (ch := c) m1.1 m1.2.1 m1.2.2.1
    have e2 : (fun (y : Int32) (g' : Hp) => (rgOK k p f c ∧ n < 40 ∧ y = nI n ∧ g' = mh (g.setI M 1 (nI (n + 1))) M n (newF k p f c)) ∨ (¬ (rgOK k p f c ∧ n < 40) ∧ y = -1 ∧ g' = g)) = fun y g' => y = nI n ∧ g' = mh (g.setI M 1 (nI (n + 1))) M n (newF k p f c) := by
      funext y g'
      exact propext ⟨fun z => z.elim (fun z => z.2.2) (fun z => absurd hy z.1), fun z => Or.inl ⟨hy.1, hy.2, z⟩⟩
    rw [e2] at T
    refine ⟨_, _, _, 4, 1, 68, 2093, by decide, by decide, by decide, by decide, Tx, T, m1.1.1, fin _ rfl (fun x hx => (Eq1.setI (by omega)).trans (mh_o (by omega))) (fun i => (mh_o (by omega)).2.2.2 i) ?_⟩
    exact m1.grow hK hy.2 rfl (up2_s _ _ _ _) (fun x k hx => by
      rcases hx with z | z
      · exact up2_a _ _ z
      · exact up2_k _ _ z) (fun _ _ _ => rfl) (fun _ _ _ _ _ _ => rfl) (fun j hj => rfl) rfl (fun i hi k hk => rfl)
  · have e1 : pRing h X n k p f c = (-1, h) := if_neg (fun z => hy ⟨fits_eq.mp z.1, z.2⟩)
    rw [e1] at Tx
    have T := s_ring (cx := cx) (h := h) (M := M) (ki := k) (pa := p) (fi := f) (ch := c) I.1.1 I.1.2.1 I.1.2.2.1
    have e2 : (fun (y : Int32) (g' : Hp) => (rgOK k p f c ∧ n < 40 ∧ y = nI n ∧ g' = mh (h.setI M 1 (nI (n + 1))) M n (newF k p f c)) ∨ (¬ (rgOK k p f c ∧ n < 40) ∧ y = -1 ∧ g' = h)) = fun y g' => y = -1 ∧ g' = h := by
      funext y g'
      exact propext ⟨fun z => z.elim (fun z => absurd ⟨z.1, z.2.1⟩ hy) (fun z => z.2), fun z => Or.inr ⟨hy, z⟩⟩
    rw [e2] at T
    exact ⟨_, _, _, 4, 1, 68, 2093, by decide, by decide, by decide, by decide, Tx, T, I.1.1.1, ⟨ow, n, C, m, Aof, Γ, I.mono hK⟩⟩
theorem ca_image (I : GI h ow X M n C m K Aof Γ) (hK : K < 512) : Cal cx mX4_image mX5_image h [.int r] X M K := by
  rcases I.ri r with ⟨p, q⟩ | ⟨a, ha, hr, p, q⟩
  · exact ⟨(-1), h, h, 1, 1, 0, 0, by decide, by decide, by decide, by decide, qn_image I.2.1 I.2.2.1 I.1.2.2.1 p, sb_image I.1.1 q, I.1.1.1, ⟨ow, n, C, m, Aof, Γ, I.mono hK⟩⟩
  · have R := I.cr ha
    have a4 := I.a4 ha
    rcases Nat.lt_or_ge n 40 with hn | hn
    · obtain ⟨c, hc, e8, ec, e7⟩ := R.c (by omega)
      have Ti := t_imageOfThis (cx := cx) R.1 e7 (by omega) R.2.1 (fun i hi => by
        obtain ⟨q, hq, -⟩ := R.2.2.2.2.2.2.2.2.2 i (by rw [ec]; exact hi)
        obtain ⟨q1, q2, -⟩ := R.2.2.2.2.2.2.2.2.1 i q (by omega) hq
        exact ⟨q, hq, q1, q2⟩) (fun i hi => R.sm.plB R.ok hi)
      have R2 := fun Z' hZ' => cr_image (n := n) (Z' := Z') R hK hc e8 hZ'
      obtain ⟨CZ, en, eE⟩ := R2 (Γ a).Z (fun _ _ _ _ => rfl)
      have hX1 : PSh (rIm h (Aof a) c).1 X := by
        obtain ⟨p1, ⟨p2, p3⟩, ⟨p4, p5⟩⟩ := I.2.1
        have hXn := I.2.2.2.2.1
        exact ⟨(eE X (by omega)).1.trans p1, ⟨((eE X (by omega)).2.1 0).trans p2, (eE (X + 1) (by omega)).1.trans p3⟩, ⟨((eE X (by omega)).2.1 2).trans p4, (eE (X + 2) (by omega)).1.trans p5⟩⟩
      have Tx := qs_image (cx := cx) I.2.1 I.2.2.1 hn p R.1 hX1 (((eE X (by have := I.2.2.2.2.1; omega)).2.2.1 1).trans I.2.2.1) CZ.1.1 Ti
      generalize rIm h (Aof a) c = g0 at Tx R2 en eE
      obtain ⟨Z', hZd⟩ : ∃ Z' : Nat → Nat → Int64, Z' = fun i k => (imS ((pAdd g0 X n h.n).setI M 1 (nI (n + 1))) M a n (5 * c)).l (M + 4) (sx n i k) := ⟨_, rfl⟩
      have xm := I.xm
      have hM6 := I.2.2.2.2.2.1
      have e4 : Eq1 h (pAdd g0 X n h.n) (M + 4) := (eE (M + 4) (by omega)).trans (pAdd_eq (fun e => xm X (M + 4) (by omega) (by omega) (by omega) (by omega) e.symm) (fun e => xm (X + 1) (M + 4) (by omega) (by omega) (by omega) (by omega) e.symm))
      have hZ' : ∀ i k, i < c → k < 5 → Z' i k = (Γ a).Z i k := fun i k hi hk => by
        rw [hZd]
        refine (if_pos ⟨rfl, by unfold sx; omega, by unfold sx; omega⟩).trans ?_
        show (pAdd g0 X n h.n).l (M + 4) (3000 * a + (sx n i k - 3000 * n)) = _
        rw [show 3000 * a + (sx n i k - 3000 * n) = sx a i k by unfold sx; omega, e4.2.2.2]
        exact I.1.2.2.2.2.2.2.2.2.2.2.2 a ha i (by omega) k hk
      obtain ⟨m1, fin⟩ := I.grow hK hn (R2 Z' hZ').1 (by omega) eE (fun x hx => if_pos hx)
      generalize pAdd g0 X n h.n = g at Tx m1 fin hZd
      have T := s_image (cx := cx) (h := g) (M := M) (a := a) (f := (Γ a).f) (n := n) (st := c) m1.1 a4 (m1.ri ha) m1.2.1 hn (by omega) e8 (by omega)
      rw [← m1.self ha, ← hr] at T
      have y1 : (imS (g.setI M 1 (nI (n + 1))) M a n (5 * c)).1 = g.1 := rfl
      have y2 : (imS (g.setI M 1 (nI (n + 1))) M a n (5 * c)).i M 1 = nI (n + 1) := up2_s _ _ _ _
      have y3 : ∀ x k, (x ≠ M ∨ k ≠ 1) → (imS (g.setI M 1 (nI (n + 1))) M a n (5 * c)).i x k = g.i x k := fun x k hx => by
        rcases hx with z | z
        · exact up2_a _ _ z
        · exact up2_k _ _ z
      have y4 : ∀ x, x ≠ M + 4 → ∀ k, (imS (g.setI M 1 (nI (n + 1))) M a n (5 * c)).l x k = g.l x k := fun x hx k => if_neg (fun z => hx z.1)
      have y5 : ∀ b, b < n → ∀ i, i < 600 → ∀ k, k < 5 → (imS (g.setI M 1 (nI (n + 1))) M a n (5 * c)).l (M + 4) (sx b i k) = g.l (M + 4) (sx b i k) := fun b hb i hi k hk => if_neg (fun z => by have := z.2.1; unfold sx at this; omega)
      have ys : mh (imS (g.setI M 1 (nI (n + 1))) M a n (5 * c)) M a (Γ a).f = imS (g.setI M 1 (nI (n + 1))) M a n (5 * c) := mh_self (fun b hb => ((y4 (M + 1) (by omega) _).trans (m1.2.2.2.2.2.2.2.1 a ha b hb)).symm)
      rw [ys] at T
      generalize imS (g.setI M 1 (nI (n + 1))) M a n (5 * c) = y at T y1 y2 y3 y4 y5 hZd
      have eW : ∀ x, (x < M ∨ M + 6 ≤ x) → Eq1 g y x := fun x hx => ⟨by show y.1.2.1 x = _; rw [y1], fun k => by show y.1.2.2 x k = _; rw [y1], fun k => y3 x k (Or.inl (by omega)), fun k => y4 x (by omega) k⟩
      refine ⟨_, _, _, 5, 1, c + 67 + 1, c * 5 + 2082 + 11, by decide, by decide, by omega, by omega, Tx, T, m1.1.1, fin _ y1 (fun x hx => (eW x hx).trans (mh_o (by omega))) (fun i => ((mh_o (by omega)).2.2.2 i).trans (y4 _ (by omega) i)) ?_⟩
      exact m1.grow hK hn y1 y2 y3 y4 y5 (fun j hj => rfl) rfl (fun i hi k hk => by rw [hZd])
    · have hn4 := I.1.2.2.1
      have Tx := qf_image (cx := cx) I.2.1 I.2.2.1 (by omega) p
      have T := s_imageF (cx := cx) (h := h) (f := (Γ a).f) I.1.1 a4 (I.1.ri ha) I.1.2.1 (by omega)
      rw [← I.1.self ha, ← hr] at T
      exact ⟨_, _, _, 1, 1, 0, 0, by decide, by decide, by decide, by decide, Tx, T, I.1.1.1, ⟨ow, n, C, m, Aof, Γ, I.mono hK⟩⟩
end

