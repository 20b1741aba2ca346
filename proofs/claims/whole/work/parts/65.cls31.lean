/-! the class: what a new ring holds -/
theorem new_i {h : Hp} {t len k : Nat} : (h.new t len).i h.n k = 0 := if_pos rfl
theorem new_l {h : Hp} {t len k : Nat} : (h.new t len).l h.n k = 0 := if_pos rfl
theorem new_r {h : Hp} {t len k : Nat} : (h.new t len).r h.n k = none := if_pos rfl
/-- only the reference k of A differs -/
def StA (g g' : Hp) (A k a : Nat) : Prop := g'.kd A = g.kd A ∧ (∀ j, g'.i A j = g.i A j) ∧ (∀ j, g'.l A j = g.l A j) ∧ g'.r A k = some a ∧ ∀ j, j ≠ k → g'.r A j = g.r A j
theorem setR_A {g g0 : Hp} {A k a : Nat} (e : Eq1 g0 g A) : StA g0 (g.setR A k (some a)) A k a :=
  ⟨e.1, e.2.2.1, e.2.2.2, up2_s _ _ _ _, fun j hj => (up2_k _ _ hj).trans (e.2.1 j)⟩
theorem stg {g : Hp} {A t len k a : Nat} (hn : g.n = a) (ha : A < a) : ((g.new t len).setR A k (some a)).n = a + 1 ∧ ((g.new t len).setR A k (some a)).kd a = (t, len) ∧ (∀ j, ((g.new t len).setR A k (some a)).r a j = none) ∧ (∀ x, x ≠ A → x ≠ a → Eq1 g ((g.new t len).setR A k (some a)) x) ∧ StA g ((g.new t len).setR A k (some a)) A k a := by
  refine ⟨?_, ?_, fun j => ?_, fun x h1 h2 => ?_, ?_⟩
  · show g.n + 1 = _
    omega
  · rw [← hn]
    exact new_kn
  · refine (up2_a _ _ (by omega)).trans ?_
    rw [← hn]
    exact new_r
  · exact (Eq1.new (by omega)).trans (Eq1.setR h1)
  · exact setR_A (Eq1.new (by omega))
/-- a new book's numbers -/
theorem bkN_val {h : Hp} {B : Nat} (hk : h.kd B = kObj 0) (hn : h.n = B + 1) (hz : ∀ k, h.i B k = 0 ∧ h.l B k = 0) : (∀ i, i < 60 → ∀ k, (bkN h B).i (B + 2 + i) k = (if k = 2 then -1 else 0) ∧ (bkN h B).l (B + 2 + i) k = 0) ∧ (∀ k, (bkN h B).i B k = (if k = 4 ∨ k = 5 then -1 else 0)) ∧ ∀ k, (bkN h B).l B k = 0 := by
  have key : ∀ N, (∀ i, i < N → ∀ k, (itr (bkS B) N (bk0 h B)).i (B + 2 + i) k = (if k = 2 then -1 else 0) ∧ (itr (bkS B) N (bk0 h B)).l (B + 2 + i) k = 0) ∧ ∀ k, (itr (bkS B) N (bk0 h B)).i B k = 0 ∧ (itr (bkS B) N (bk0 h B)).l B k = 0 := by
    intro N
    induction N with
    | zero =>
      refine ⟨fun i hi => absurd hi (Nat.not_lt_zero _), fun k => ?_⟩
      have e : Eq1 h (h.new (3 + 1) 60) B := Eq1.new (by omega)
      exact ⟨(e.2.2.1 k).trans (hz k).1, (e.2.2.2 k).trans (hz k).2⟩
    | succ N ih =>
      have hg : (itr (bkS B) N (bk0 h B)).n = B + 2 + N := (BI.all hk hn N).1
      show (∀ i, i < N + 1 → ∀ k, (bkS B N (itr (bkS B) N (bk0 h B))).i (B + 2 + i) k = (if k = 2 then -1 else 0) ∧ (bkS B N (itr (bkS B) N (bk0 h B))).l (B + 2 + i) k = 0) ∧ ∀ k, (bkS B N (itr (bkS B) N (bk0 h B))).i B k = 0 ∧ (bkS B N (itr (bkS B) N (bk0 h B))).l B k = 0
      generalize itr (bkS B) N (bk0 h B) = g at hg ih ⊢
      have eo : ∀ x, x ≠ B + 2 + N → x ≠ B + 1 → Eq1 g (bkS B N g) x := fun x h1 h2 => by
        unfold bkS
        exact ((Eq1.new (by omega)).trans (Eq1.setI h1)).trans (Eq1.setR h2)
      refine ⟨fun i hi k => ?_, fun k => ?_⟩
      · by_cases e : i = N
        · subst e
          unfold bkS
          rw [← hg]
          constructor
          · show up2 (g.new (10 + 1) 0).2.1 g.n 2 (-1) g.n k = _
            by_cases h2 : k = 2
            · subst h2; rw [up2_s, if_pos rfl]
            · rw [up2_k _ _ h2, if_neg h2]
              exact new_i
          · exact new_l (h := g) (t := 10 + 1) (len := 0)
        · have z := eo (B + 2 + i) (by omega) (by omega)
          have y := ih.1 i (by omega) k
          exact ⟨(z.2.2.1 k).trans y.1, (z.2.2.2 k).trans y.2⟩
      · have z := eo B (by omega) (by omega)
        exact ⟨(z.2.2.1 k).trans (ih.2 k).1, (z.2.2.2 k).trans (ih.2 k).2⟩
  have q := key 60
  unfold bkN
  generalize itr (bkS B) 60 (bk0 h B) = g at q ⊢
  refine ⟨fun i hi k => ?_, fun k => ?_, fun k => (q.2 k).2⟩
  · have z : Eq1 g ((g.setI B 4 (-1)).setI B 5 (-1)) (B + 2 + i) := (Eq1.setI (by omega)).trans (Eq1.setI (by omega))
    exact ⟨(z.2.2.1 k).trans (q.1 i hi k).1, (z.2.2.2 k).trans (q.1 i hi k).2⟩
  · show up2 (up2 g.2.1 B 4 (-1)) B 5 (-1) B k = _
    by_cases h5 : k = 5
    · subst h5; rw [up2_s, if_pos (Or.inr rfl)]
    · rw [up2_k _ _ h5]
      by_cases h4 : k = 4
      · subst h4; rw [up2_s, if_pos (Or.inl rfl)]
      · rw [up2_k _ _ h4, if_neg (fun z => z.elim h4 h5)]
        exact (q.2 k).1
def RgV (h g : Hp) (A : Nat) (k : Int32) (p f c : Int64) : Prop :=
  RSh g.1 A ∧ g.n = A + 68 ∧ (∀ x, x < A → Eq1 h g x) ∧ (∀ j, g.i A j = if j = 0 then k else h.i A j) ∧ (∀ j, g.l A j = if j = 2 then f else if j = 1 then p else h.l A j) ∧ (∀ j, g.r (A + 4) j = none) ∧ (∀ j, g.r (A + 67) j = none)
  ∧ (∀ j, g.i (A + 5) j = if j = 4 ∨ j = 5 then -1 else 0) ∧ (∀ j, g.l (A + 5) j = if j = 8 then c else 0) ∧ ∀ i, i < 60 → ∀ j, g.i (A + 5 + 2 + i) j = (if j = 2 then -1 else 0) ∧ g.l (A + 5 + 2 + i) j = 0
theorem rgN_val {h : Hp} {A : Nat} {k : Int32} {p f c : Int64} (hk : h.kd A = kObj 2) (hn : h.n = A + 1) : RgV h (rgN h A k p f c) A k p f c := by
  unfold rgN
  have a1 : (rg1 h A k p f).kd A = kObj 2 := hk
  have a2 : (rg1 h A k p f).n = A + 1 := hn
  have a3 : ∀ x, x ≠ A → Eq1 h (rg1 h A k p f) x := fun x hx => ((Eq1.setI hx).trans (Eq1.setL hx)).trans (Eq1.setL hx)
  have a4 : ∀ j, (rg1 h A k p f).i A j = if j = 0 then k else h.i A j := fun j => by
    show up2 h.2.1 A 0 k A j = _
    by_cases e : j = 0
    · subst e; rw [up2_s, if_pos rfl]
    · rw [up2_k _ _ e, if_neg e]
  have a5 : ∀ j, (rg1 h A k p f).l A j = if j = 2 then f else if j = 1 then p else h.l A j := fun j => by
    show up2 (up2 h.2.2 A 1 p) A 2 f A j = _
    by_cases e : j = 2
    · subst e; rw [up2_s, if_pos rfl]
    · rw [up2_k _ _ e, if_neg e]
      by_cases e : j = 1
      · subst e; rw [up2_s, if_pos rfl]
      · rw [up2_k _ _ e, if_neg e]
  generalize rg1 h A k p f = g1 at a1 a2 a3 a4 a5 ⊢
  have s2 : (rg2 g1 A).n = A + 1 + 1 ∧ (rg2 g1 A).kd (A + 1) = (1, 60) ∧ (∀ j, (rg2 g1 A).r (A + 1) j = none) ∧ (∀ x, x ≠ A → x ≠ A + 1 → Eq1 g1 (rg2 g1 A) x) ∧ StA g1 (rg2 g1 A) A 3 (A + 1) := stg a2 (by omega)
  generalize rg2 g1 A = g2 at s2 ⊢
  obtain ⟨b1, b2, b3, b4, b5⟩ := s2
  have s3 : (rg3 g2 A).n = A + 2 + 1 ∧ (rg3 g2 A).kd (A + 2) = (1, 60) ∧ (∀ j, (rg3 g2 A).r (A + 2) j = none) ∧ (∀ x, x ≠ A → x ≠ A + 2 → Eq1 g2 (rg3 g2 A) x) ∧ StA g2 (rg3 g2 A) A 5 (A + 2) := stg (by omega) (by omega)
  generalize rg3 g2 A = g3 at s3 ⊢
  obtain ⟨c1, c2, c3, c4, c5⟩ := s3
  have s4 : (rg4 g3 A).n = A + 3 + 1 ∧ (rg4 g3 A).kd (A + 3) = (2, 240) ∧ (∀ j, (rg4 g3 A).r (A + 3) j = none) ∧ (∀ x, x ≠ A → x ≠ A + 3 → Eq1 g3 (rg4 g3 A) x) ∧ StA g3 (rg4 g3 A) A 6 (A + 3) := stg (by omega) (by omega)
  generalize rg4 g3 A = g4 at s4 ⊢
  obtain ⟨d1, d2, d3, d4, d5⟩ := s4
  have s5 : (rg5 g4 A).n = A + 4 + 1 ∧ (rg5 g4 A).kd (A + 4) = (3 + 3, 512) ∧ (∀ j, (rg5 g4 A).r (A + 4) j = none) ∧ (∀ x, x ≠ A → x ≠ A + 4 → Eq1 g4 (rg5 g4 A) x) ∧ StA g4 (rg5 g4 A) A 7 (A + 4) := stg (by omega) (by omega)
  generalize rg5 g4 A = g5 at s5 ⊢
  obtain ⟨e1, e2, e3, e4, e5⟩ := s5
  have hb1 : (g5.new (10 + 0) 0).kd (A + 5) = kObj 0 := by rw [show A + 5 = g5.n by omega]; exact new_kn
  have hb2 : (g5.new (10 + 0) 0).n = A + 5 + 1 := by show g5.n + 1 = _; omega
  have hb3 := bkN_val hb1 hb2 (fun j => by rw [show A + 5 = g5.n by omega]; exact ⟨new_i, new_l⟩)
  have hb4 := bkN_sh hb1 hb2
  have hb5 := bkN_n hb1 hb2
  have hb6 : ∀ x, x < A + 5 → Eq1 g5 (bkN (g5.new (10 + 0) 0) (A + 5)) x := fun x hx => (Eq1.new (by omega)).trans (bkN_eq hb1 hb2 hx)
  have s6 : (rg6 g5 A).n = A + 67 ∧ BSh (rg6 g5 A).1 (A + 5) ∧ (∀ x, x < A + 5 → x ≠ A → Eq1 g5 (rg6 g5 A) x) ∧ StA g5 (rg6 g5 A) A 8 (A + 5) ∧ (∀ j, (rg6 g5 A).i (A + 5) j = if j = 4 ∨ j = 5 then -1 else 0) ∧ (∀ j, (rg6 g5 A).l (A + 5) j = 0) ∧ ∀ i, i < 60 → ∀ j, (rg6 g5 A).i (A + 5 + 2 + i) j = (if j = 2 then -1 else 0) ∧ (rg6 g5 A).l (A + 5 + 2 + i) j = 0 := by
    unfold rg6
    generalize bkN (g5.new (10 + 0) 0) (A + 5) = y at hb3 hb4 hb5 hb6 ⊢
    exact ⟨by show y.n = _; omega, Eq1.bsh (fun x h1 h2 => Eq1.setR (by omega)) hb4, fun x h1 h2 => (hb6 x h1).trans (Eq1.setR h2), setR_A (hb6 A (by omega)), hb3.2.1, hb3.2.2, hb3.1⟩
  clear hb1 hb2 hb3 hb4 hb5 hb6
  generalize rg6 g5 A = g6 at s6 ⊢
  obtain ⟨f1, f2, f3, f4, f5, f6, f7⟩ := s6
  have s7 : (rg7 g6 A c).1 = g6.1 ∧ (∀ x, x ≠ A + 5 → Eq1 g6 (rg7 g6 A c) x) ∧ (∀ j, (rg7 g6 A c).i (A + 5) j = g6.i (A + 5) j) ∧ ∀ j, (rg7 g6 A c).l (A + 5) j = if j = 8 then c else 0 := by
    refine ⟨rfl, fun x hx => Eq1.setL hx, fun j => rfl, fun j => ?_⟩
    show up2 g6.2.2 (A + 5) 8 c (A + 5) j = _
    by_cases e : j = 8
    · subst e; rw [up2_s, if_pos rfl]
    · rw [up2_k _ _ e, if_neg e]; exact f6 j
  generalize rg7 g6 A c = g7 at s7 ⊢
  obtain ⟨i1, i2, i3, i4⟩ := s7
  have i5 : g7.n = A + 67 := by show g7.1.1 = _; rw [i1]; exact f1
  have s8 : (rg8 g7 A).n = A + 67 + 1 ∧ (rg8 g7 A).kd (A + 67) = (3 + 0, 60) ∧ (∀ j, (rg8 g7 A).r (A + 67) j = none) ∧ (∀ x, x ≠ A → x ≠ A + 67 → Eq1 g7 (rg8 g7 A) x) ∧ StA g7 (rg8 g7 A) A 9 (A + 67) := stg i5 (by omega)
  generalize rg8 g7 A = g8 at s8 ⊢
  obtain ⟨j1, j2, j3, j4, j5⟩ := s8
  have x1 : Eq1 g2 g8 (A + 1) := ((c4 _ (by omega) (by omega)).trans ((d4 _ (by omega) (by omega)).trans (e4 _ (by omega) (by omega)))).trans (((f3 _ (by omega) (by omega)).trans (i2 _ (by omega))).trans (j4 _ (by omega) (by omega)))
  have x2 : Eq1 g3 g8 (A + 2) := ((d4 _ (by omega) (by omega)).trans (e4 _ (by omega) (by omega))).trans (((f3 _ (by omega) (by omega)).trans (i2 _ (by omega))).trans (j4 _ (by omega) (by omega)))
  have x3 : Eq1 g4 g8 (A + 3) := (e4 _ (by omega) (by omega)).trans (((f3 _ (by omega) (by omega)).trans (i2 _ (by omega))).trans (j4 _ (by omega) (by omega)))
  have x4 : Eq1 g5 g8 (A + 4) := ((f3 _ (by omega) (by omega)).trans (i2 _ (by omega))).trans (j4 _ (by omega) (by omega))
  have x5 : ∀ x, A + 5 ≤ x → x < A + 67 → x ≠ A + 5 → Eq1 g6 g8 x := fun x h1 h2 h3 => (i2 x h3).trans (j4 x (by omega) (by omega))
  have x6 : Eq1 g7 g8 (A + 5) := j4 _ (by omega) (by omega)
  have x7 : Eq1 g6 g7 A := i2 A (by omega)
  have y1 : g8.kd A = kObj 2 := (j5.1.trans x7.1).trans (((f4.1.trans e5.1).trans (d5.1.trans c5.1)).trans (b5.1.trans a1))
  have y3 : g8.r A 3 = some (A + 1) := (j5.2.2.2.2 3 (by decide)).trans ((x7.2.1 3).trans ((f4.2.2.2.2 3 (by decide)).trans ((e5.2.2.2.2 3 (by decide)).trans ((d5.2.2.2.2 3 (by decide)).trans ((c5.2.2.2.2 3 (by decide)).trans b5.2.2.2.1)))))
  have y5 : g8.r A 5 = some (A + 2) := (j5.2.2.2.2 5 (by decide)).trans ((x7.2.1 5).trans ((f4.2.2.2.2 5 (by decide)).trans ((e5.2.2.2.2 5 (by decide)).trans ((d5.2.2.2.2 5 (by decide)).trans c5.2.2.2.1))))
  have y6 : g8.r A 6 = some (A + 3) := (j5.2.2.2.2 6 (by decide)).trans ((x7.2.1 6).trans ((f4.2.2.2.2 6 (by decide)).trans ((e5.2.2.2.2 6 (by decide)).trans d5.2.2.2.1)))
  have y7 : g8.r A 7 = some (A + 4) := (j5.2.2.2.2 7 (by decide)).trans ((x7.2.1 7).trans ((f4.2.2.2.2 7 (by decide)).trans e5.2.2.2.1))
  have y8 : g8.r A 8 = some (A + 5) := (j5.2.2.2.2 8 (by decide)).trans ((x7.2.1 8).trans f4.2.2.2.1)
  have yB : BSh g8.1 (A + 5) := by
    refine ⟨?_, ?_, ?_, fun i hi => ⟨?_, ?_⟩⟩
    · exact x6.1.trans (by show g7.1.2.1 _ = _; rw [i1]; exact f2.1)
    · exact (x6.2.1 0).trans (by show g7.1.2.2 _ _ = _; rw [i1]; exact f2.2.1)
    · exact (x5 (A + 5 + 1) (by omega) (by omega) (by omega)).1.trans f2.2.2.1
    · exact ((x5 (A + 5 + 1) (by omega) (by omega) (by omega)).2.1 i).trans (f2.2.2.2 i hi).1
    · exact (x5 (A + 5 + 2 + i) (by omega) (by omega) (by omega)).1.trans (f2.2.2.2 i hi).2
  refine ⟨⟨y1, ⟨y3, x1.1.trans b2⟩, ⟨y5, x2.1.trans c2⟩, ⟨y6, x3.1.trans d2⟩, ⟨y7, x4.1.trans e2⟩, ⟨y8, yB⟩, ⟨j5.2.2.2.1, j2⟩⟩, by omega, fun x hx => ?_, fun j => ?_, fun j => ?_, fun j => (x4.2.1 j).trans (e3 j), j3, fun j => ?_, fun j => ?_, fun i hi j => ?_⟩
  · exact ((a3 x (by omega)).trans ((b4 x (by omega) (by omega)).trans ((c4 x (by omega) (by omega)).trans ((d4 x (by omega) (by omega)).trans (e4 x (by omega) (by omega)))))).trans (((f3 x (by omega) (by omega)).trans (i2 x (by omega))).trans (j4 x (by omega) (by omega)))
  · exact (j5.2.1 j).trans ((x7.2.2.1 j).trans ((f4.2.1 j).trans ((e5.2.1 j).trans ((d5.2.1 j).trans ((c5.2.1 j).trans ((b5.2.1 j).trans (a4 j)))))))
  · exact (j5.2.2.1 j).trans ((x7.2.2.2 j).trans ((f4.2.2.1 j).trans ((e5.2.2.1 j).trans ((d5.2.2.1 j).trans ((c5.2.2.1 j).trans ((b5.2.2.1 j).trans (a5 j)))))))
  · exact (x6.2.2.1 j).trans ((i3 j).trans (f5 j))
  · exact (x6.2.2.2 j).trans (i4 j)
  · have z := x5 (A + 5 + 2 + i) (by omega) (by omega) (by omega)
    exact ⟨(z.2.2.1 j).trans (f7 i hi j).1, (z.2.2.2 j).trans (f7 i hi j).2⟩

