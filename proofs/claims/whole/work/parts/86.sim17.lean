/-! closing -/
def upZ (Z : Nat → Nat → Int64) (i k : Nat) (v : Int64) : Nat → Nat → Int64 := fun a b => if a = i ∧ b = k then v else Z a b
def csP (i : Nat) (y : (Nat → Nat → Int64) × Fl) : (Nat → Nat → Int64) × Fl := (upZ y.1 i 4 (y.1 i 2 - mn64 (y.1 i 2) (y.2 3)), upF y.2 3 (y.2 3 + -mn64 (y.1 i 2) (y.2 3)))
theorem cnt_zero {p : Nat → Bool} : ∀ n, cnt p n = 0 → ∀ k, k < n → p k = false
  | 0, _, k, hk => absurd hk (Nat.not_lt_zero _)
  | n + 1, h, k, hk => by
    unfold cnt at h
    by_cases e : k = n
    · subst e
      cases hp : p k with
      | false => rfl
      | true => rw [hp, if_pos rfl] at h; omega
    · exact cnt_zero n (by omega) k (by omega)
section
variable {h : Hp} {A K : Nat} {f : Fl}
theorem sim_bc {n : Nat} (S : Sm h A (A + 5) f) (hn : n < 60) : Sm (pDep h (A + 5 + 2 + n)) A (A + 5) (bcS n f) := by
  unfold pDep bcS
  rw [show f (ix n 11) = h.l (A + 5 + 2 + n) 12 from S.s hn 11 (by decide), show f (ix n 7) = h.l (A + 5 + 2 + n) 8 from S.s hn 7 (by decide)]
  exact (S.l12 hn).l8 hn
theorem ok_bc {n : Nat} (O : Ok K f) (hn : n < 60) (h4 : ¬ f 4 = 0) : Ok K (bcS n f) := by
  have C := ((SeatCh.refl (f := f) (n := n)).up (j := 11) (x := f (ix n 11) + f (ix n 7)) hn (by decide)).up (j := 7) (x := 0) hn (by decide)
  exact O.ch (Nat.le_refl _) C (Or.inr Iff.rfl) (((O.2.2 n hn).s11 h4).s7 h4 ⟨0, Nat.zero_le _, rfl⟩)
theorem bcS_low {n k : Nat} (hk : k < 13) : bcS n f k = f k := by
  unfold bcS
  rw [upF_n _ _ (ix_low hk).symm, upF_n _ _ (ix_low hk).symm]
theorem sim_bcL (S : Sm h A (A + 5) f) (O : Ok K f) (h4 : ¬ f 4 = 0) (N : Nat) (hN : N ≤ 60) : Sm (itr (dbS (A + 5)) N h) A (A + 5) (itr bcS N f) ∧ Ok K (itr bcS N f) ∧ (∀ k, k < 13 → itr bcS N f k = f k) ∧ ∀ x, oP (A + 5) x → Eq1 h (itr (dbS (A + 5)) N h) x :=
  itr_sim (p := dbS (A + 5)) (q := bcS) (x := h) (y := f) (R := fun _ g φ => Sm g A (A + 5) φ ∧ Ok K φ ∧ (∀ k, k < 13 → φ k = f k) ∧ ∀ x, oP (A + 5) x → Eq1 h g x) N ⟨S, O, fun _ _ => rfl, fun _ _ => Eq1.refl⟩ (fun n hn g φ I => ⟨sim_bc I.1 (by omega), ok_bc I.2.1 (by omega) (by rw [I.2.2.1 4 (by decide)]; exact h4), fun k hk => (bcS_low hk).trans (I.2.2.1 k hk), fun x hx => (I.2.2.2 x hx).trans (pDep_eq (hx.ne (by omega)))⟩)
/-- the stops are there, none of them in the ring's own cells, none twice -/
def StI (h : Hp) (A c : Nat) (Z : Nat → Nat → Int64) : Prop := ∀ i, i < c → ∃ q, h.r (A + 4) i = some q ∧ (q < A ∨ A + 68 ≤ q) ∧ h.l q 2 = Z i 2 ∧ ¬ Z i 2 < 0 ∧ ∀ j, j < c → j ≠ i → h.r (A + 4) j ≠ some q
/-- how far the stops are paid -/
def PsR (h : Hp) (A K c : Nat) (Z : Nat → Nat → Int64) (f : Fl) (n : Nat) (g : Hp) (y : (Nat → Nat → Int64) × Fl) : Prop :=
  Sm g A (A + 5) y.2 ∧ Ok K y.2 ∧ (∀ k, k ≠ 3 → y.2 k = f k) ∧ (∀ i k, k ≠ 4 → y.1 i k = Z i k) ∧ g.1 = h.1 ∧ (∀ x, g.i x = h.i x) ∧ (∀ x k, k ≠ 4 → x ≠ A + 5 → g.l x k = h.l x k) ∧ (∀ x, (∀ i, i < c → h.r (A + 4) i ≠ some x) → x ≠ A + 5 → Eq1 h g x) ∧ (∀ k, k ≠ 8 → g.l (A + 5) k = h.l (A + 5) k) ∧ ∀ i, i < n → ∃ q, h.r (A + 4) i = some q ∧ g.l q 4 = y.1 i 4
theorem ps_step {c n : Nat} {Z : Nat → Nat → Int64} {h0 g : Hp} {y : (Nat → Nat → Int64) × Fl} (hst : StI h0 A c Z) (hn : n < c) (hK : K ≤ 600) (I : PsR h0 A K c Z f n g y) : PsR h0 A K c Z f (n + 1) (psS A n g) (csP n y) := by
  obtain ⟨Y, φ⟩ := y
  obtain ⟨S, O, i1, i2, i3, i4, i5, i6, i7, i8⟩ := I
  dsimp only at S O i1 i2 i8
  obtain ⟨q, hq, hqA, hq2, hnn, hdis⟩ := hst n hn
  have hgr : g.r (A + 4) n = some q := by show g.1.2.2 _ _ = _; rw [i3]; exact hq
  have hl2 : g.l q 2 = Y n 2 := (i5 q 2 (by decide) (by omega)).trans (hq2.trans (i2 n 2 (by decide)).symm)
  have e3 : φ 3 = g.l (A + 5) 8 := S.k 3 (by decide)
  obtain ⟨ch, hch, ech⟩ := O.1.2.2.2.1
  have hch2 : ch ≤ 601 * 10000000000 := Nat.le_trans hch (Nat.mul_le_mul_right _ (by omega))
  obtain ⟨w, hw, ew⟩ := pk_lOf (show ¬ Y n 2 < 0 by rw [i2 n 2 (by decide)]; exact hnn)
  have em : mn64 (Y n 2) (φ 3) = lN (min w ch) := by rw [ew, ech]; exact mn_lN hw (by omega)
  have hm : min w ch ≤ ch := Nat.min_le_right _ _
  have eps : psS A n g = ps2 (ps1 g A (lN (min w ch))) q (lN (min w ch)) := by
    unfold psS
    rw [hgr]
    dsimp only
    rw [hl2, ← e3, em]
  have ecs : csP n (Y, φ) = (upZ Y n 4 (Y n 2 - lN (min w ch)), upF φ 3 (φ 3 + -lN (min w ch))) := by
    unfold csP
    dsimp only
    rw [em]
  rw [eps, ecs]
  generalize min w ch = m at hm ⊢
  have S1 : Sm (ps1 g A (lN m)) A (A + 5) (upF φ 3 (φ 3 + -lN m)) := by
    unfold ps1
    rw [← e3, Int64.sub_eq_add_neg]
    exact S.bl8
  have hqq : q ≠ A + 5 := by omega
  refine ⟨?_, O.q3 ⟨ch - m, by omega, by rw [ech, ← Int64.sub_eq_add_neg, lN_sub hm]⟩, fun k hk => (upF_n _ _ hk).trans (i1 k hk), fun i k hk => ?_, i3, i4, fun x k hk hx => ?_, fun x hx hx5 => ?_, fun k hk => ?_, fun i hi => ?_⟩
  · exact S1.frame (fun x hx => Eq1.setL (by omega))
  · show (if i = n ∧ k = 4 then _ else Y i k) = Z i k
    rw [if_neg (fun z => hk z.2)]
    exact i2 i k hk
  · refine Eq.trans ?_ (i5 x k hk hx)
    show up2 (ps1 g A (lN m)).2.2 q 4 _ x k = g.l x k
    rw [up2_k _ _ hk]
    exact up2_a _ _ hx
  · refine (i6 x hx hx5).trans ((Eq1.setL hx5).trans (Eq1.setL ?_))
    intro e
    exact hx n hn (by rw [e]; exact hq)
  · refine Eq.trans ?_ (i7 k hk)
    show up2 (ps1 g A (lN m)).2.2 q 4 _ (A + 5) k = g.l (A + 5) k
    rw [up2_a _ _ (Ne.symm hqq)]
    exact up2_k _ _ hk
  · by_cases e : i = n
    · subst e
      refine ⟨q, hq, ?_⟩
      show up2 (ps1 g A (lN m)).2.2 q 4 ((ps1 g A (lN m)).l q 2 - lN m) q 4 = (if i = i ∧ 4 = 4 then _ else _)
      rw [up2_s, if_pos ⟨rfl, rfl⟩, show (ps1 g A (lN m)).l q 2 = g.l q 2 from up2_a _ _ hqq, hl2]
    · obtain ⟨q2, hq3, hq4⟩ := i8 i (by omega)
      refine ⟨q2, hq3, ?_⟩
      have hqne : q2 ≠ q := fun z => hdis i (by omega) e (by rw [← z]; exact hq3)
      have hq25 : q2 ≠ A + 5 := by
        obtain ⟨q3, a1, a2, -⟩ := hst i (by omega)
        rw [hq3] at a1
        cases a1
        omega
      show up2 (ps1 g A (lN m)).2.2 q 4 _ q2 4 = (if i = n ∧ 4 = 4 then _ else Y i 4)
      rw [up2_a _ _ hqne, if_neg (fun z => e z.1)]
      exact (up2_a _ _ hq25).trans hq4
theorem so_payStops {c : Nat} {Z : Nat → Nat → Int64} (S : Sm h A (A + 5) f) (O : Ok K f) (hst : StI h A c Z) (hK : K ≤ 600) (N : Nat) (hN : N ≤ c) : PsR h A K c Z f N (itr (psS A) N h) (itr csP N (Z, f)) :=
  itr_sim (p := psS A) (q := csP) (x := h) (y := (Z, f)) (R := PsR h A K c Z f) N ⟨S, O, fun _ _ => rfl, fun _ _ _ => rfl, rfl, fun _ => rfl, fun _ _ _ _ => rfl, fun _ _ _ => Eq1.refl, fun _ _ => rfl, fun i hi => absurd hi (Nat.not_lt_zero _)⟩ (fun n hn g y I => ps_step hst (by omega) hK I)
theorem full_eq {s : Nat} (S : Sm h A (A + 5) f) (O : Ok K f) (hs : s < 60) : decide (¬ h.i (A + 5 + 2 + s) 5 = 0) = isFu f s := by
  have e12 : f (ix s 12) = (h.i (A + 5 + 2 + s) 5).toInt64 := S.s hs 12 (by decide)
  unfold isFu
  rcases S.bit5 O hs with z | z
  · rw [e12, z, decide_eq_false (show ¬ ((0 : Int32).toInt64 = 1) by decide), Bool.and_false]
    decide
  · have h1 : f (ix s 12) = 1 := by rw [e12, z]; decide
    obtain ⟨a, b⟩ : 0 < f 4 ∧ 2 ≤ f (ix s 0) := (O.2.2 s hs).2.2.2.2.2.2.2.2.2.2.2.1 h1
    rw [z, h1, isPl_on a]
    unfold isMem
    rw [decide_eq_true b]
    decide
/-- how far the chest is shared -/
def ScR (A K : Nat) (f : Fl) (n : Nat) (a : Hp × Int64) (b : Fl × Int64) : Prop :=
  Sm a.1 A (A + 5) b.1 ∧ Ok K b.1 ∧ (∀ k, (∀ s, s < 60 → k ≠ ix s 11) → b.1 k = f k) ∧ ∃ y, y ≤ 60 ∧ b.2 = lN y ∧ ((0 < y ∧ a.2 = lN y) ∨ (y = 0 ∧ a.2.toInt ≤ 0 ∧ -(n : Int) ≤ a.2.toInt))
theorem sc_step {n : Nat} {part : Int64} {a : Hp × Int64} {b : Fl × Int64} (h4 : ¬ f 4 = 0) (hn : n < 60) (I : ScR A K f n a b) : ScR A K f (n + 1) (scS A part n a) (clS part n b) := by
  obtain ⟨g, x⟩ := a
  obtain ⟨φ, y⟩ := b
  obtain ⟨S, O, F, yn, hy, ey, hc⟩ := I
  dsimp only at S O F ey hc
  have hF4 : ¬ φ 4 = 0 := by rw [F 4 (fun s _ => (ix_low (by decide)).symm)]; exact h4
  have hfu := full_eq S O hn
  unfold scS clS
  dsimp only
  cases hf : isFu φ n with
  | false =>
    rw [hf] at hfu
    rw [if_pos (Classical.byContradiction fun z => (of_decide_eq_false hfu) z), if_neg (by decide)]
    exact ⟨S, O, F, yn, hy, ey, hc.imp id (fun z => ⟨z.1, z.2.1, by show -((n + 1 : Nat) : Int) ≤ x.toInt; omega⟩)⟩
  | true =>
    rw [hf] at hfu
    rw [if_neg (of_decide_eq_true hfu), if_pos rfl]
    have e11 : φ (ix n 11) = g.l (A + 5 + 2 + n) 12 := S.s hn 11 (by decide)
    have S' : ∀ v, Sm (g.setL (A + 5 + 2 + n) 12 v) A (A + 5) (upF φ (ix n 11) v) := fun v => S.l12 hn
    have O' : ∀ v, Ok K (upF φ (ix n 11) v) := fun v => O.ch (Nat.le_refl _) ((SeatCh.refl (n := n)).up hn (by decide)) (Or.inr Iff.rfl) ((O.2.2 n hn).s11 hF4)
    have F' : ∀ v k, (∀ s, s < 60 → k ≠ ix s 11) → upF φ (ix n 11) v k = f k := fun v k hk => (upF_n _ _ (hk n hn)).trans (F k hk)
    rcases hc with ⟨h0, ex⟩ | ⟨h0, ex1, ex2⟩
    · have p1 : 0 < lN yn := (pk_lLT (a := 0) (by decide) (by omega)).mpr h0
      rw [ey, ex, if_pos p1, if_pos p1, e11]
      have es : lN yn - 1 = lN (yn - 1) := lN_sub (b := 1) h0
      refine ⟨S' _, O' _, F' _, yn - 1, by omega, es, ?_⟩
      rw [es]
      by_cases h1 : yn = 1
      · right
        subst h1
        exact ⟨rfl, (show (lN 0).toInt ≤ 0 by decide), by show -((n + 1 : Nat) : Int) ≤ (lN 0).toInt; rw [show (lN 0).toInt = 0 from rfl]; omega⟩
      · left
        exact ⟨by omega, rfl⟩
    · subst h0
      have n1 : ¬ 0 < lN 0 := by decide
      have n2 : ¬ 0 < x := fun z => by have := Int64.lt_iff_toInt_lt.mp z; rw [show (0 : Int64).toInt = 0 from rfl] at this; omega
      rw [ey, if_neg n1, if_neg n2, e11, show part + 0 = part from Int64.add_zero _, show lN 0 - 0 = lN 0 from Int64.sub_zero _]
      have ex3 : (x - 1).toInt = x.toInt - 1 := by
        rw [Int64.toInt_sub, show (1 : Int64).toInt = 1 from rfl]
        exact Int.bmod_eq_of_le (by omega) (by omega)
      refine ⟨S' _, O' _, F' _, 0, by decide, rfl, Or.inr ⟨rfl, ?_, ?_⟩⟩
      · show (x - 1).toInt ≤ 0
        omega
      · show -((n + 1 : Nat) : Int) ≤ (x - 1).toInt
        omega
theorem so_scL {part x : Int64} {yn : Nat} (S : Sm h A (A + 5) f) (O : Ok K f) (h4 : ¬ f 4 = 0) (hx : x = lN yn) (hy : yn ≤ 60) (N : Nat) (hN : N ≤ 60) : ScR A K f N (itr (scS A part) N (h, x)) (itr (clS part) N (f, x)) :=
  itr_sim (p := scS A part) (q := clS part) (x := (h, x)) (y := (f, x)) (R := ScR A K f) N ⟨S, O, fun _ _ => rfl, yn, hy, hx, by
    rcases Nat.eq_zero_or_pos yn with z | z
    · right; subst z; dsimp only; rw [hx]; exact ⟨rfl, by decide, by decide⟩
    · left; exact ⟨z, hx⟩⟩ (fun n hn a b I => sc_step h4 (by omega) I)
/-- the state becomes closed -/
theorem Ok.q42 (O : Ok K f) (h4 : f 4 = 1) : Ok K (upF f 4 2) := by
  have ek : ∀ k, k ≠ 4 → upF f 4 2 k = f k := fun k hk => upF_n _ _ hk
  have es : ∀ s j, upF f 4 2 (ix s j) = f (ix s j) := fun s j => ek _ (ix_low (by decide))
  refine ⟨?_, fun _ => ?_, fun s hs => ?_⟩
  · obtain ⟨a1, a2, a3, a4, a5, a6, a7, a8, a9, a10, ⟨t, t1, t2, t3⟩, ⟨u, u1, u2, u3, u4⟩⟩ := O.1
    unfold OkL asOK loOK toD
    rw [show upF f 4 2 4 = 2 from upF_s _ _ _]
    simp only [ek 0 (by decide), ek 1 (by decide), ek 2 (by decide), ek 3 (by decide), ek 8 (by decide), ek 5 (by decide), ek 6 (by decide), ek 9 (by decide), ek 7 (by decide), ek 10 (by decide), ek 12 (by decide)]
    refine ⟨a1, a2, a3, a4, Or.inr (Or.inr trivial), a6, fun z => absurd z (by decide), a8, a9, a10, ⟨t, t1, t2, fun k hk => ?_⟩, ⟨u, u1, u2, fun k hk => ?_, fun j k hj hk e => ?_⟩⟩
    · rw [ek _ (by omega)]; exact t3 k hk
    · rw [ek _ (by omega)]; exact u3 k hk
    · rw [ek _ (by omega), ek _ (by omega)] at e; exact u4 j k hj hk e
  · rw [ek 6 (by decide), O.2.1 (by rw [h4]; decide)]
    rw [show cnt (isMem (upF f 4 2)) 60 = cnt (isMem f) 60 from cnt_cong (fun s hs => isMem_cong (es s 0))]
  · rw [ek 0 (by decide), ek 1 (by decide), show upF f 4 2 4 = 2 from upF_s _ _ _]
    have e : ∀ j, j < 17 → sv (upF f 4 2) s j = sv f s j := fun j _ => es s j
    refine OkV.cong (Nat.le_refl _) e ?_
    obtain ⟨a1, a2, a3, a4, a5, a6, a7, a8, a9, a10, a11, a12, a13⟩ := O.2.2 s hs
    exact ⟨a1, a2, a3, a4, a5, a6, a7.imp id (fun z => ⟨by decide, z.2⟩), a8, a9, a10, a11, fun z => ⟨by decide, (a12 z).2⟩, fun z => absurd z (by decide)⟩
theorem so_chest (S : Sm h A (A + 5) f) (O : Ok K f) (h4 : f 4 = 1) (hK : K ≤ 600) : Sm ((rChest h A).setI (A + 5) 1 2) A (A + 5) (clEnd f) ∧ Ok K (clEnd f) ∧ ∀ k, k ≠ 3 → k ≠ 4 → (∀ s, s < 60 → k ≠ ix s 11) → clEnd f k = f k := by
  have hf4 : ¬ f 4 = 0 := by rw [h4]; decide
  have ec : cFul h (A + 5) = cnt (isFu f) 60 := by
    unfold cFul
    exact cnt_cong (fun s hs => full_eq S O hs)
  have hc6 : cnt (isFu f) 60 ≤ 60 := cnt_le _ 60
  have hz := cnt_zero (p := isFu f) 60
  unfold rChest clEnd
  rw [ec]
  dsimp only
  generalize cnt (isFu f) 60 = n at hc6 hz ⊢
  by_cases h0 : n = 0
  · have hall := hz h0
    rw [h0, if_neg (show ¬ 0 < nI 0 by decide), if_pos (show lN 0 = 0 from rfl), if_pos (show lN 0 = 0 from rfl), if_neg (show ¬ 0 < lN 0 by decide)]
    have e : ∀ N, N ≤ 60 → itr (clS 0) N (f, 0) = (f, 0) := by
      intro N
      induction N with
      | zero => intro _; rfl
      | succ N ih => intro hN; rw [itr_succ, ih (by omega)]; exact clS_n (hall N (by omega))
    rw [e 60 (Nat.le_refl _)]
    exact ⟨S.b1 (v := 2), O.q42 h4, fun k _ hk4 _ => upF_n _ _ hk4⟩
  · rw [if_pos (show 0 < nI n from nI_lt (a := 0) (by omega) (by omega)), if_neg (show ¬ lN n = 0 from fun z => h0 ((pk_lEQ (b := 0) (by omega) (by decide)).mp z)), if_neg (show ¬ lN n = 0 from fun z => h0 ((pk_lEQ (b := 0) (by omega) (by decide)).mp z)), if_pos (show 0 < lN n from (pk_lLT (a := 0) (by decide) (by omega)).mpr (by omega))]
    unfold rCh1 scL
    rw [nI_l (by omega), ← show f 3 = h.l (A + 5) 8 from S.k 3 (by decide)]
    obtain ⟨ch, hch, ech⟩ := O.1.2.2.2.1
    have hch2 : ch ≤ 601 * 10000000000 := Nat.le_trans hch (Nat.mul_le_mul_right _ (by omega))
    have hleft : f 3 - f 3 / lN n * lN n = lN (ch % n) := by rw [ech]; exact pk_lRem (by omega) (by omega) (by omega)
    have hmod : ch % n < n := Nat.mod_lt _ (by omega)
    have R := so_scL (part := f 3 / lN n) S O hf4 hleft (by omega) 60 (Nat.le_refl _)
    generalize itr (scS A (f 3 / lN n)) 60 (h, f 3 - f 3 / lN n * lN n) = a at R ⊢
    generalize itr (clS (f 3 / lN n)) 60 (f, f 3 - f 3 / lN n * lN n) = b at R ⊢
    obtain ⟨S1, O1, F1, -⟩ := R
    have e4 : b.1 4 = 1 := (F1 4 (fun s _ => (ix_low (by decide)).symm)).trans h4
    exact ⟨(S1.bl8 (v := 0)).b1 (v := 2), (O1.q3 ⟨0, Nat.zero_le _, rfl⟩).q42 ((upF_n _ _ (by decide)).trans e4), fun k hk3 hk4 hk11 => (upF_n _ _ hk4).trans ((upF_n _ _ hk3).trans (F1 k hk11))⟩
end

