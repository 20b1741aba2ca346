/-! a new ring, an image of a ring -/
section
variable {h g : Hp} {A B K : Nat} {f : Fl}
theorem Sm.ring {O : Nat} (S : Sm g A B f) (h0 : g.i O 0 = g.i A 0) (h1 : g.l O 1 = g.l A 1) (h2 : g.l O 2 = g.l A 2) (h4 : g.i O 4 = g.i A 4) (k1 : ∀ k, k < (g.i A 4).toNatClampNeg → g.i (O + 1) k = g.i (A + 1) k) (k2 : ∀ k, k < (g.i B 6).toNatClampNeg → g.i (O + 2) k = g.i (A + 2) k) (k3 : ∀ k, k < 4 * (g.i B 2).toNatClampNeg → g.l (O + 3) k = g.l (A + 3) k) : Sm g O B f := by
  have hcb : ∀ k, k < 13 → cb g O B k = cb g A B k := by
    refine c13 ?_
    simp only [cb, h0, h1, h2, h4, and_self]
  refine ⟨fun k hk => by rw [hcb k hk]; exact S.1 k hk, S.2.1, fun k hk => ?_, fun k hk => ?_, fun k hk => ?_, S.2.2.2.2.2⟩
  · rw [h4] at hk; rw [k1 k hk]; exact S.2.2.1 k hk
  · rw [k2 k hk]; exact S.2.2.2.1 k hk
  · rw [k3 k hk]; exact S.2.2.2.2.1 k hk
theorem newF_ix {ki pa fi ch : Int32} {s j : Nat} (hs : s < 60) (hj : j < 17) : newF ki pa fi ch (ix s j) = if j = 2 then -1 else 0 := by
  have h13 : 13 ≤ ix s j := by unfold ix; omega
  have h33 := ix_lt2 hs hj
  unfold newF
  rw [if_neg (by omega), if_neg (by omega), if_neg (by omega), if_neg (by omega), if_neg (by omega), if_neg (by omega)]
  have hm : (ix s j - 13) % 17 = j := by unfold ix; omega
  by_cases e : j = 2
  · rw [if_pos e, if_pos ⟨h13, h33, by omega⟩]
  · rw [if_neg e, if_neg (fun z => by omega)]
theorem newF_lo {ki pa fi ch : Int32} : newF ki pa fi ch 0 = ki.toInt64 ∧ newF ki pa fi ch 1 = pa.toInt64 ∧ newF ki pa fi ch 2 = fi.toInt64 ∧ newF ki pa fi ch 3 = ch.toInt64 ∧ newF ki pa fi ch 4 = 0 ∧ newF ki pa fi ch 5 = 0 ∧ newF ki pa fi ch 6 = 0 ∧ newF ki pa fi ch 7 = -1 ∧ newF ki pa fi ch 8 = 0 ∧ newF ki pa fi ch 9 = -1 ∧ newF ki pa fi ch 10 = 0 ∧ newF ki pa fi ch 11 = 0 ∧ newF ki pa fi ch 12 = 0 := by
  unfold newF
  exact ⟨rfl, rfl, rfl, rfl, rfl, rfl, rfl, rfl, rfl, rfl, rfl, rfl, rfl⟩
theorem sm_new {h0 : Hp} {ki pa fi ch : Int32} (V : RgV h0 g A ki pa.toInt64 fi.toInt64 ch.toInt64) (hz : ∀ j, h0.i A j = 0 ∧ h0.l A j = 0) : Sm g A (A + 5) (newF ki pa fi ch) := by
  obtain ⟨v1, v2, v3, v4, v5, v6, v7, v8, v9, v10⟩ := V
  obtain ⟨n0, n1, n2, n3, n4, n5, n6, n7, n8, n9, n10, n11, n12⟩ := @newF_lo ki pa fi ch
  have a4 : g.i A 4 = 0 := by rw [v4, if_neg (by decide)]; exact (hz 4).1
  have b6 : g.i (A + 5) 6 = 0 := by rw [v8, if_neg (by decide)]
  have b2 : g.i (A + 5) 2 = 0 := by rw [v8, if_neg (by decide)]
  refine ⟨?_, fun s hs => ?_, fun k hk => ?_, fun k hk => ?_, fun k hk => ?_, fun s hs => ?_⟩
  · refine c13 ⟨?_, ?_, ?_, ?_, ?_, ?_, ?_, ?_, ?_, ?_, ?_, ?_, ?_⟩
    · rw [n0]; show _ = (g.i A 0).toInt64; rw [v4, if_pos rfl]
    · rw [n1]; show _ = g.l A 1; rw [v5, if_neg (by decide), if_pos rfl]
    · rw [n2]; show _ = g.l A 2; rw [v5, if_pos rfl]
    · rw [n3]; show _ = g.l (A + 5) 8; rw [v9, if_pos rfl]
    · rw [n4]; show _ = (g.i (A + 5) 1).toInt64; rw [v8, if_neg (by decide)]; rfl
    · rw [n5]; show _ = (g.i (A + 5) 2).toInt64; rw [v8, if_neg (by decide)]; rfl
    · rw [n6]; show _ = (g.i (A + 5) 3).toInt64; rw [v8, if_neg (by decide)]; rfl
    · rw [n7]; show _ = (g.i (A + 5) 4).toInt64; rw [v8, if_pos (by decide)]; rfl
    · rw [n8]; show _ = (g.i (A + 5) 7).toInt64; rw [v8, if_neg (by decide)]; rfl
    · rw [n9]; show _ = (g.i (A + 5) 5).toInt64; rw [v8, if_pos (by decide)]; rfl
    · rw [n10]; show _ = (g.i (A + 5) 6).toInt64; rw [v8, if_neg (by decide)]; rfl
    · rw [n11]; show _ = g.l (A + 5) 9; rw [v9, if_neg (by decide)]
    · rw [n12]; show _ = (g.i A 4).toInt64; rw [a4]; rfl
  · have vi : ∀ j, g.i (A + 5 + 2 + s) j = if j = 2 then -1 else 0 := fun j => (v10 s hs j).1
    have vl : ∀ j, g.l (A + 5 + 2 + s) j = 0 := fun j => (v10 s hs j).2
    refine c17 ?_
    simp only [newF_ix hs (show 0 < 17 by decide), newF_ix hs (show 1 < 17 by decide), newF_ix hs (show 2 < 17 by decide), newF_ix hs (show 3 < 17 by decide), newF_ix hs (show 4 < 17 by decide), newF_ix hs (show 5 < 17 by decide), newF_ix hs (show 6 < 17 by decide), newF_ix hs (show 7 < 17 by decide), newF_ix hs (show 8 < 17 by decide), newF_ix hs (show 9 < 17 by decide), newF_ix hs (show 10 < 17 by decide), newF_ix hs (show 11 < 17 by decide), newF_ix hs (show 12 < 17 by decide), newF_ix hs (show 13 < 17 by decide), newF_ix hs (show 14 < 17 by decide), newF_ix hs (show 15 < 17 by decide), newF_ix hs (show 16 < 17 by decide), cs, vi, vl]
    decide
  · rw [a4] at hk; exact absurd hk (Nat.not_lt_zero _)
  · rw [b6] at hk; exact absurd hk (Nat.not_lt_zero _)
  · rw [b2] at hk; exact absurd hk (Nat.not_lt_zero _)
  · rw [(v10 s hs 14).1, (v10 s hs 15).1]
    exact ⟨Or.inl rfl, Or.inl rfl⟩
theorem ok_new {ki pa fi ch : Int32} (hr : rgOK ki pa fi ch) : Ok K (newF ki pa fi ch) := by
  obtain ⟨r1, r2, r3, r4, r5, r6, r7, r8⟩ := hr
  obtain ⟨n0, n1, n2, n3, n4, n5, n6, n7, n8, n9, n10, n11, n12⟩ := @newF_lo ki pa fi ch
  obtain ⟨a, a1, a2⟩ := nI_of2 (M := 3) (n := 3) rfl r1 r2
  obtain ⟨b, b1, b2⟩ := nI_of2 (x := pa) (M := 9999999) (n := 9999999) rfl (fun z => by
    have := Int32.lt_iff_toInt_lt.mp z
    have := Int32.le_iff_toInt_le.mp r3
    rw [show (0 : Int32).toInt = 0 from rfl] at *
    rw [show (1 : Int32).toInt = 1 from rfl] at *
    omega) r4
  obtain ⟨c, c1, c2⟩ := nI_of2 (M := 9999999) (n := 9999999) rfl r5 r6
  obtain ⟨d, d1, d2⟩ := nI_of2 (M := 2000000000) (n := 2000000000) rfl r7 r8
  have hb : 1 ≤ b := by
    have := Int32.le_iff_toInt_le.mp r3
    rw [b2, nI_toInt (by omega), show (1 : Int32).toInt = 1 from rfl] at this
    omega
  refine ⟨⟨⟨a, by omega, by rw [n0, a2, nI_l (by omega)]⟩, ⟨b, hb, b1, by rw [n1, b2, nI_l (by omega)]⟩, ⟨c, c1, by rw [n2, c2, nI_l (by omega)]⟩, ⟨d, by omega, by rw [n3, d2, nI_l (by omega)]⟩, Or.inl n4, ⟨0, 0, Nat.le_refl _, by decide, n5, n6⟩, fun _ => ⟨n5, n7, n8, n9⟩, Or.inl n7, ⟨0, Nat.zero_le _, n8⟩, Or.inl n9, ⟨0, by decide, n10, fun k hk => absurd hk (Nat.not_lt_zero _)⟩, ⟨0, by decide, n12, fun k hk => absurd hk (Nat.not_lt_zero _), fun j k hj => absurd hj (Nat.not_lt_zero _)⟩⟩, fun z => absurd n4 z, fun s hs => okv0 n4 ⟨0, by decide, ?_⟩ (Or.inl ?_) (fun j h3 h17 => ?_)⟩
  · show newF ki pa fi ch (ix s 0) = 0
    rw [newF_ix hs (by decide), if_neg (by decide)]
  · show newF ki pa fi ch (ix s 2) = -1
    rw [newF_ix hs (by decide), if_pos rfl]
  · show newF ki pa fi ch (ix s j) = 0
    rw [newF_ix hs h17, if_neg (by omega)]
end
section
variable {h g : Hp} {ow : Nat → Nat} {a A K : Nat} {γ : Gh}
/-- a new ring -/
theorem cr_new {ki pa fi ch : Int32} {n : Nat} {Z : Nat → Nat → Int64} (hr : rgOK ki pa fi ch) : CR (rgN (h.new (10 + 2) 0) h.n ki pa.toInt64 fi.toInt64 ch.toInt64) (fun x => if x < h.n then ow x else 1000 * n) n h.n K (0, 0, fun _ => newF ki pa fi ch, Z) ∧ (rgN (h.new (10 + 2) 0) h.n ki pa.toInt64 fi.toInt64 ch.toInt64).n = h.n + 68 ∧ ∀ x, x < h.n → Eq1 h (rgN (h.new (10 + 2) 0) h.n ki pa.toInt64 fi.toInt64 ch.toInt64) x := by
  have V := rgN_val (h := h.new (10 + 2) 0) (A := h.n) (k := ki) (p := pa.toInt64) (f := fi.toInt64) (c := ch.toInt64) (by exact new_kn) rfl
  have S := sm_new V (fun j => ⟨new_i, new_l⟩)
  have O : Ok K (newF ki pa fi ch) := ok_new hr
  obtain ⟨n0, n1, n2, n3, n4, n5, n6, n7, n8, n9, n10, n11, n12⟩ := @newF_lo ki pa fi ch
  obtain ⟨v1, v2, v3, v4, v5, v6, v7, v8, v9, v10⟩ := V
  have hz10 : (h.new (10 + 2) 0).i h.n 10 = 0 := new_i
  generalize rgN (h.new (10 + 2) 0) h.n ki pa.toInt64 fi.toInt64 ch.toInt64 = g at S v1 v2 v3 v4 v6 v7 ⊢
  refine ⟨⟨v1, by omega, fun x h1 h2 => if_neg (by omega), ?_, ⟨Nat.le_refl _, Nat.zero_le _, fun k h1 h2 => ⟨O, ?_⟩, fun k k' _ _ _ => ⟨Int.le_refl _, Int.le_refl _⟩, fun k h1 h2 => absurd h2 (Nat.not_lt_zero _)⟩, S, fun k b hk hb => ?_, fun k h1 h2 => absurd h2 (Nat.not_lt_zero _), fun i q hi hq => ?_, fun i hi => ?_⟩, v2, fun x hx => (Eq1.new (by omega)).trans (v3 x hx)⟩
  · rw [v4, if_neg (by decide)]
    exact hz10
  · have h2 : k ≤ 0 := h2
    have e : k = 0 := by omega
    rw [e]
    exact n5
  · rw [v7] at hb; cases hb
  · rw [v6] at hq; cases hq
  · have hi : i < ((newF ki pa fi ch) 8).toInt.toNat := hi
    rw [n8] at hi
    exact absurd hi (Nat.not_lt_zero _)
theorem cpS_val {P p : Nat} (hne : p ≠ P) : (cpS P p h).i P 0 = h.i p 0 ∧ (cpS P p h).i P 1 = h.i p 1 ∧ (cpS P p h).l P 2 = h.l p 2 ∧ (cpS P p h).l P 3 = h.l p 3 ∧ (cpS P p h).l P 4 = h.l p 4 := by
  refine ⟨?_, ?_, ?_, ?_, ?_⟩
  all_goals (simp only [cpS, cpI_P, cpL_P, cpI_l, cpL_i, cpI_i hne, cpL_p hne]; simp)
/-- how far the stops of an image are copied -/
def ImS (h g0 g : Hp) (A O n : Nat) : Prop := (∀ x, x < O → Eq1 h g x) ∧ RSh g.1 O ∧ g.n = O + 68 + n ∧ (∀ x, O ≤ x → x < O + 68 → x ≠ O + 4 → Eq1 g0 g x) ∧ (∀ i, n ≤ i → g.r (O + 4) i = none) ∧ ∀ i, i < n → ∃ q, h.r (A + 4) i = some q ∧ g.r (O + 4) i = some (O + 68 + i) ∧ g.kd (O + 68 + i) = kObj 3 ∧ g.i (O + 68 + i) 0 = h.i q 0 ∧ g.i (O + 68 + i) 1 = h.i q 1 ∧ g.l (O + 68 + i) 2 = h.l q 2 ∧ g.l (O + 68 + i) 3 = h.l q 3 ∧ g.l (O + 68 + i) 4 = h.l q 4
theorem ims_all {g0 : Hp} {O c : Nat} (hAO : A + 68 ≤ O) (hst : ∀ i, i < c → ∃ q, h.r (A + 4) i = some q ∧ q < O) (I0 : ImS h g0 g0 A O 0) : ∀ N, N ≤ c → ImS h g0 (itr (imW A O) N g0) A O N := by
  intro N
  induction N with
  | zero => intro _; exact I0
  | succ N ih =>
    intro hN
    have I := ih (by omega)
    rw [itr_succ]
    generalize itr (imW A O) N g0 = y at I ⊢
    obtain ⟨i1, i2, i3, i4, i5, i6⟩ := I
    obtain ⟨q, hq, hqO⟩ := hst N (by omega)
    have e : imW A O N y = imP y O N q := by unfold imW; rw [show y.r (A + 4) N = some q from ((i1 (A + 4) (by omega)).2.1 N).trans hq]
    rw [e]
    have eo : ∀ x, x ≠ y.n → x ≠ O + 4 → Eq1 y (imP y O N q) x := fun x h1 h2 => imP_eq h1 h2
    have hsh : (imP y O N q).1 = ((y.new (10 + 3) 0).setR (O + 4) N (some y.n)).1 := by unfold imP; rw [cpS_sh]
    have r4 : ∀ i, (imP y O N q).r (O + 4) i = if i = N then some y.n else y.r (O + 4) i := fun i => by
      show (imP y O N q).1.2.2 (O + 4) i = _
      rw [hsh]
      show up2 (y.new (10 + 3) 0).1.2.2 (O + 4) N (some y.n) (O + 4) i = _
      by_cases ei : i = N
      · rw [if_pos ei, ei, up2_s]
      · rw [if_neg ei, up2_k _ _ ei]
        exact (Eq1.new (h := y) (t := 10 + 3) (len := 0) (x := O + 4) (by omega)).2.1 i
    have kn : (imP y O N q).kd y.n = kObj 3 := by
      show (imP y O N q).1.2.1 y.n = _
      rw [hsh]
      exact new_kn (h := y) (t := 10 + 3) (n := 0)
    have vq : ∀ k, ((y.new (10 + 3) 0).setR (O + 4) N (some y.n)).i q k = h.i q k := fun k => ((Eq1.new (h := y) (t := 10 + 3) (len := 0) (x := q) (by omega)).2.2.1 k).trans ((i1 q hqO).2.2.1 k)
    have vl : ∀ k, ((y.new (10 + 3) 0).setR (O + 4) N (some y.n)).l q k = h.l q k := fun k => ((Eq1.new (h := y) (t := 10 + 3) (len := 0) (x := q) (by omega)).2.2.2 k).trans ((i1 q hqO).2.2.2 k)
    obtain ⟨w0, w1, w2, w3, w4⟩ := cpS_val (h := (y.new (10 + 3) 0).setR (O + 4) N (some y.n)) (P := y.n) (p := q) (by omega)
    refine ⟨fun x hx => (i1 x hx).trans (eo x (by omega) (by omega)), RSh.of4 (fun x h1 h2 h3 => eo x (by omega) h3) (imP_kd4 (by omega)) i2, by rw [imP_n]; omega, fun x h1 h2 h3 => (i4 x h1 h2 h3).trans (eo x (by omega) h3), fun i hi => ?_, fun i hi => ?_⟩
    · rw [r4, if_neg (by omega)]
      exact i5 i (by omega)
    · by_cases ei : i = N
      · subst ei
        refine ⟨q, hq, ?_, ?_, ?_, ?_, ?_, ?_, ?_⟩
        · rw [r4, if_pos rfl, i3]
        · rw [← i3]; exact kn
        · rw [← i3]; exact w0.trans (vq 0)
        · rw [← i3]; exact w1.trans (vq 1)
        · rw [← i3]; exact w2.trans (vl 2)
        · rw [← i3]; exact w3.trans (vl 3)
        · rw [← i3]; exact w4.trans (vl 4)
      · obtain ⟨p, p0, p1, p2, p3, p4, p5, p6, p7⟩ := i6 i (by omega)
        have ep := eo (O + 68 + i) (by omega) (by omega)
        exact ⟨p, p0, by rw [r4, if_neg ei]; exact p1, ep.1.trans p2, (ep.2.2.1 0).trans p3, (ep.2.2.1 1).trans p4, (ep.2.2.2 2).trans p5, (ep.2.2.2 3).trans p6, (ep.2.2.2 4).trans p7⟩
/-- what the arrays of an image hold -/
theorem imG_facts {g1 : Hp} {O : Nat} (e1 : ∀ x, x < O → Eq1 h g1 x) (hAO : A + 68 ≤ O) : (∀ x, x < O → Eq1 h (imG g1 A O) x) ∧ (imG g1 A O).1 = g1.1 ∧ (imG g1 A O).i O 0 = g1.i O 0 ∧ (imG g1 A O).l O 1 = g1.l O 1 ∧ (imG g1 A O).l O 2 = g1.l O 2 ∧ (imG g1 A O).i O 4 = h.i A 4 ∧ (∀ k, k < 60 → (imG g1 A O).i (O + 1) k = h.i (A + 1) k) ∧ (∀ k, k < 60 → (imG g1 A O).i (O + 2) k = h.i (A + 2) k) ∧ ∀ k, k < 240 → (imG g1 A O).l (O + 3) k = h.l (A + 3) k := by
  unfold imG
  have a1 : ∀ x, x ≠ O + 1 → Eq1 g1 (im1 g1 A O) x := fun x hx => cpAI_eq hx
  have a2 : ∀ k, k < 60 → (im1 g1 A O).i (O + 1) k = g1.i (A + 1) k := fun k hk => if_pos ⟨rfl, hk⟩
  have a3 : (im1 g1 A O).1 = g1.1 := rfl
  generalize im1 g1 A O = y1 at a1 a2 a3 ⊢
  have b1 : ∀ x, x ≠ O → Eq1 y1 (im2 y1 A O) x := fun x hx => Eq1.setI hx
  have b2 : (im2 y1 A O).i O 4 = y1.i A 4 := up2_s _ _ _ _
  have b3 : (im2 y1 A O).1 = y1.1 := rfl
  have b4 : (im2 y1 A O).i O 0 = y1.i O 0 := up2_k _ _ (by decide)
  have b5 : ∀ k, (im2 y1 A O).l O k = y1.l O k := fun _ => rfl
  generalize im2 y1 A O = y2 at b1 b2 b3 b4 b5 ⊢
  have c1 : ∀ x, x ≠ O + 2 → Eq1 y2 (im3 y2 A O) x := fun x hx => cpAI_eq hx
  have c2 : ∀ k, k < 60 → (im3 y2 A O).i (O + 2) k = y2.i (A + 2) k := fun k hk => if_pos ⟨rfl, hk⟩
  have c3 : (im3 y2 A O).1 = y2.1 := rfl
  generalize im3 y2 A O = y3 at c1 c2 c3 ⊢
  have d1 : ∀ x, x ≠ O + 3 → Eq1 y3 (im4 y3 A O) x := fun x hx => cpAL_eq hx
  have d2 : ∀ k, k < 240 → (im4 y3 A O).l (O + 3) k = y3.l (A + 3) k := fun k hk => if_pos ⟨rfl, hk⟩
  have d3 : (im4 y3 A O).1 = y3.1 := rfl
  generalize im4 y3 A O = y4 at d1 d2 d3 ⊢
  have z1 : ∀ x, x < O → Eq1 h y1 x := fun x hx => (e1 x hx).trans (a1 x (by omega))
  have z2 : ∀ x, x < O → Eq1 h y2 x := fun x hx => (z1 x hx).trans (b1 x (by omega))
  have z3 : ∀ x, x < O → Eq1 h y3 x := fun x hx => (z2 x hx).trans (c1 x (by omega))
  have z4 : ∀ x, x < O → Eq1 h y4 x := fun x hx => (z3 x hx).trans (d1 x (by omega))
  have O24 : Eq1 y2 y4 O := (c1 O (by omega)).trans (d1 O (by omega))
  refine ⟨z4, d3.trans (c3.trans (b3.trans a3)), ?_, ?_, ?_, ?_, fun k hk => ?_, fun k hk => ?_, fun k hk => ?_⟩
  · exact (O24.2.2.1 0).trans (b4.trans ((a1 O (by omega)).2.2.1 0))
  · exact (O24.2.2.2 1).trans ((b5 1).trans ((a1 O (by omega)).2.2.2 1))
  · exact (O24.2.2.2 2).trans ((b5 2).trans ((a1 O (by omega)).2.2.2 2))
  · exact (O24.2.2.1 4).trans (b2.trans ((z1 A (by omega)).2.2.1 4))
  · exact (((b1 (O + 1) (by omega)).trans ((c1 (O + 1) (by omega)).trans (d1 (O + 1) (by omega)))).2.2.1 k).trans ((a2 k hk).trans ((e1 (A + 1) (by omega)).2.2.1 k))
  · exact ((d1 (O + 2) (by omega)).2.2.1 k).trans ((c2 k hk).trans ((z2 (A + 2) (by omega)).2.2.1 k))
  · exact (d2 k hk).trans ((z3 (A + 3) (by omega)).2.2.2 k)
/-- the last number of an image: its first own round -/
theorem im7_facts {z : Hp} {O : Nat} {f : Fl} (S2 : Sm z O (O + 5) f) : Sm (im7 z A O) O (O + 5) f ∧ (im7 z A O).i O 10 = z.i (A + 5) 2 ∧ (im7 z A O).1 = z.1 ∧ ∀ x, x ≠ O → Eq1 z (im7 z A O) x := by
  have hE : ∀ x, x ≠ O → Eq1 z (im7 z A O) x := fun x hx => Eq1.setI hx
  have i0 : (im7 z A O).i O 0 = z.i O 0 := up2_k _ _ (by decide)
  have i4 : (im7 z A O).i O 4 = z.i O 4 := up2_k _ _ (by decide)
  have il : ∀ k, (im7 z A O).l O k = z.l O k := fun _ => rfl
  have i10 : (im7 z A O).i O 10 = z.i (A + 5) 2 := up2_s _ _ _ _
  have sh : (im7 z A O).1 = z.1 := rfl
  generalize im7 z A O = w at hE i0 i4 il i10 sh ⊢
  have e5 := hE (O + 5) (by omega)
  have hcb : ∀ k, k < 13 → cb w O (O + 5) k = cb z O (O + 5) k := by
    refine c13 ?_
    simp only [cb, i0, i4, il, e5.2.2.1, e5.2.2.2, and_self]
  refine ⟨⟨fun k hk => by rw [hcb k hk]; exact S2.1 k hk, fun t ht q hq => by rw [cs_eq (hE _ (by omega))]; exact S2.2.1 t ht q hq, fun k hk => ?_, fun k hk => ?_, fun k hk => ?_, fun t ht => ?_⟩, i10, sh, hE⟩
  · rw [i4] at hk; rw [(hE (O + 1) (by omega)).2.2.1]; exact S2.2.2.1 k hk
  · rw [e5.2.2.1] at hk; rw [(hE (O + 2) (by omega)).2.2.1]; exact S2.2.2.2.1 k hk
  · rw [e5.2.2.1] at hk; rw [(hE (O + 3) (by omega)).2.2.2]; exact S2.2.2.2.2.1 k hk
  · rw [(hE (O + 5 + 2 + t) (by omega)).2.2.1, (hE (O + 5 + 2 + t) (by omega)).2.2.1]; exact S2.2.2.2.2.2 t ht
/-- an image -/
theorem cr_image {n c : Nat} {Z' : Nat → Nat → Int64} (I : CR h ow a A K γ) (hK : K < 512) (hc : c ≤ K) (h8 : γ.f 8 = lN c) (hZ : ∀ i k, i < c → k < 5 → Z' i k = γ.Z i k) :
    CR (rIm h A c) (fun x => if x < h.n then ow x else if x < h.n + 68 then 1000 * n else 1000 * n + 100 + (x - (h.n + 68))) n h.n (K + 1) (γ.r, γ.r, γ.G, Z') ∧ (rIm h A c).n = h.n + 68 + c ∧ ∀ x, x < h.n → Eq1 h (rIm h A c) x := by
  have V := rgN_val (h := h.new (10 + 2) 0) (A := h.n) (k := h.i A 0) (p := h.l A 1) (f := h.l A 2) (c := 0) (by exact new_kn) rfl
  have hr := I.hr
  obtain ⟨T, hT6, -, hT, h60⟩ := Ok.T I.sm I.ok
  obtain ⟨L, hL6, -, hL⟩ := Ok.L I.sm I.ok
  have hr6 := I.2.2.2.2.1.2.1
  have hzz : ∀ j, (h.new (10 + 2) 0).i h.n j = 0 ∧ (h.new (10 + 2) 0).l h.n j = 0 := fun j => ⟨new_i, new_l⟩
  obtain ⟨v1, v2, v3, v4, v5, v6, v7, -⟩ := V
  have hOK := I.ok
  have hSm := I.sm
  have hf5 := I.f5
  obtain ⟨i1, i2, i3, i4, i5, i6, i7, i8, i9, i10⟩ := I
  unfold rIm rIm0
  generalize rgN (h.new (10 + 2) 0) h.n (h.i A 0) (h.l A 1) (h.l A 2) 0 = g1 at v1 v2 v3 v4 v5 v6 v7 ⊢
  have e1 : ∀ x, x < h.n → Eq1 h g1 x := fun x hx => (Eq1.new (by omega)).trans (v3 x hx)
  generalize hO : h.n = O at *
  -- the arrays copied
  obtain ⟨e2, gsh, c0, l1, l2, c4, d1, d2, d3⟩ := imG_facts (h := h) (A := A) (g1 := g1) (O := O) e1 (by omega)
  rw [v4, if_pos rfl] at c0
  rw [v5, if_neg (by decide), if_pos rfl] at l1
  rw [v5, if_pos rfl] at l2
  generalize imG g1 A O = g2 at e2 gsh c0 c4 d1 d2 d3 l1 l2 ⊢
  have R2 : RSh g2.1 O := by rw [gsh]; exact v1
  have n2 : g2.n = O + 68 := by show g2.1.1 = _; rw [gsh]; exact v2
  have r4 : ∀ j, g2.r (O + 4) j = none := fun j => by show g2.1.2.2 _ _ = _; rw [gsh]; exact v6 j
  have r67 : ∀ j, g2.r (O + 67) j = none := fun j => by show g2.1.2.2 _ _ = _; rw [gsh]; exact v7 j
  have I0 : ImS h g2 g2 A O 0 := ⟨e2, R2, n2, fun _ _ _ _ => Eq1.refl, fun i _ => r4 i, fun i hi => absurd hi (Nat.not_lt_zero _)⟩
  have hst : ∀ i, i < c → ∃ q, h.r (A + 4) i = some q ∧ q < O := fun i hi => by
    obtain ⟨q, hq, -⟩ := i10 i (by show i < ((γ.f 8).toInt.toNat); rw [h8, lN_nat (by omega)]; exact hi)
    exact ⟨q, hq, by have := (i9 i q (by omega) hq).2.1; omega⟩
  have J := ims_all (by omega) hst I0 c (Nat.le_refl _)
  unfold imT
  generalize itr (imW A O) c g2 = y at J ⊢
  obtain ⟨j1, j2, j3, j4, j5, j6⟩ := J
  -- the book copied
  have Sy : Sm y A (A + 5) γ.f := hSm.frame (fun x hx => j1 x (by omega))
  have S1 : Sm (cpBk (O + 5) (A + 5) y) A (O + 5) γ.f := Sy.copy (by omega) (fun i hi => by omega)
  have esh : (cpBk (O + 5) (A + 5) y).1 = y.1 := cpBk_sh
  have eB : ∀ x, (x < O + 5 ∨ O + 67 ≤ x) → Eq1 y (cpBk (O + 5) (A + 5) y) x := fun x hx => cpBk_eq (by omega)
  generalize cpBk (O + 5) (A + 5) y = z at S1 esh eB ⊢
  have zO : ∀ x, O ≤ x → x < O + 5 → x ≠ O + 4 → Eq1 g2 z x := fun x h1 h2 h3 => (j4 x h1 (by omega) h3).trans (eB x (by omega))
  have zA : ∀ x, x < O → Eq1 h z x := fun x hx => (j1 x hx).trans (eB x (by omega))
  have zi6 : z.i (O + 5) 6 = nI L := (t64_n (by omega)).mp ((S1.k 10 (by decide)).symm.trans ((hSm.k 10 (by decide)).trans (show (h.i (A + 5) 6).toInt64 = lN L by rw [hL, nI_l (by omega)])))
  have zi2 : z.i (O + 5) 2 = nI γ.r := (t64_n (by omega)).mp ((S1.k 5 (by decide)).symm.trans hf5)
  have S2 : Sm z O (O + 5) γ.f := by
    refine S1.ring ?_ ?_ ?_ ?_ (fun k hk => ?_) (fun k hk => ?_) (fun k hk => ?_)
    · exact ((zO O (by omega) (by omega) (by omega)).2.2.1 0).trans (c0.trans ((zA A (by omega)).2.2.1 0).symm)
    · exact ((zO O (by omega) (by omega) (by omega)).2.2.2 1).trans (l1.trans ((zA A (by omega)).2.2.2 1).symm)
    · exact ((zO O (by omega) (by omega) (by omega)).2.2.2 2).trans (l2.trans ((zA A (by omega)).2.2.2 2).symm)
    · exact ((zO O (by omega) (by omega) (by omega)).2.2.1 4).trans (c4.trans ((zA A (by omega)).2.2.1 4).symm)
    · rw [(zA A (by omega)).2.2.1] at hk
      exact ((zO (O + 1) (by omega) (by omega) (by omega)).2.2.1 k).trans ((d1 k (by omega)).trans ((zA (A + 1) (by omega)).2.2.1 k).symm)
    · rw [zi6, nI_clamp (by omega)] at hk
      exact ((zO (O + 2) (by omega) (by omega) (by omega)).2.2.1 k).trans ((d2 k (by omega)).trans ((zA (A + 2) (by omega)).2.2.1 k).symm)
    · rw [zi2, nI_clamp (by omega)] at hk
      exact ((zO (O + 3) (by omega) (by omega) (by omega)).2.2.2 k).trans ((d3 k (by omega)).trans ((zA (A + 3) (by omega)).2.2.2 k).symm)
  obtain ⟨S3, F10, esh2, E7⟩ := im7_facts (A := A) S2
  rw [(zA (A + 5) (by omega)).2.2.1, hr] at F10
  rw [esh] at esh2
  generalize im7 z A O = w at S3 F10 esh2 E7 ⊢
  have wn : w.n = y.n := by show w.1.1 = _; rw [esh2]
  have wr : ∀ x k, w.r x k = y.r x k := fun x k => by show w.1.2.2 x k = _; rw [esh2]
  have wk : ∀ x, w.kd x = y.kd x := fun x => by show w.1.2.1 x = _; rw [esh2]
  refine ⟨⟨by rw [esh2]; exact j2, by omega, fun x h1 h2 => ?_, F10, ⟨Nat.le_refl _, hr6, fun k h1 h2 => ?_, fun k k' h1 h2 h3 => ?_, fun k h1 h2 => absurd h2 (Nat.not_lt.mpr h1)⟩, S3, fun k b hk hb => ?_, fun k h1 h2 => absurd h2 (Nat.not_lt.mpr h1), fun i q hi hq => ?_, fun i hi => ?_⟩, by omega, fun x hx => (zA x hx).trans (E7 x (by omega))⟩
  · dsimp only
    rw [if_neg (by omega), if_pos (by omega)]
  · have e : k = γ.r := Nat.le_antisymm h2 h1
    rw [e]
    exact ⟨hOK.mono (Nat.le_succ _), hf5⟩
  · have h1 : γ.r ≤ k := h1
    have h3 : k' ≤ γ.r := h3
    have e : k = γ.r := by omega
    have e2 : k' = γ.r := by omega
    rw [e, e2]
    exact ⟨Int.le_refl _, Int.le_refl _⟩
  · rw [wr, (j4 (O + 67) (by omega) (by omega) (by omega)).2.1, r67] at hb
    cases hb
  · rw [wr] at hq
    rcases Nat.lt_or_ge i c with hic | hic
    · obtain ⟨p, p0, p1, p2, -⟩ := j6 i hic
      rw [p1] at hq
      cases hq
      refine ⟨(wk _).trans p2, by omega, ?_⟩
      dsimp only
      rw [if_neg (by omega), if_neg (by omega), Nat.add_sub_cancel_left]
    · rw [j5 i hic] at hq
      cases hq
  · have hi : i < (γ.f 8).toInt.toNat := hi
    have hic : i < c := by rw [h8, lN_nat (by omega)] at hi; exact hi
    obtain ⟨q, hq, ⟨s1, s2, s3, s4, s5⟩, s6, s7⟩ := i10 i hi
    obtain ⟨p, p0, p1, p2, p3, p4, p5, p6, p7⟩ := j6 i hic
    rw [hq] at p0
    cases p0
    have ep : Eq1 y w (O + 68 + i) := (eB _ (by omega)).trans (E7 _ (by omega))
    show ∃ q, w.r (O + 4) i = some q ∧ StV w q (Z' i) ∧ (γ.f 4 = 2 → w.l q 4 = Z' i 4) ∧ (¬ γ.f 4 = 2 → Z' i 4 = 0)
    refine ⟨O + 68 + i, (wr _ _).trans p1, ⟨?_, ?_, ?_, ?_, ?_⟩, fun z4 => ?_, fun z4 => ?_⟩
    · rw [ep.2.2.1, p3, hZ i 0 hic (by decide)]; exact s1
    · rw [ep.2.2.1, p4, hZ i 1 hic (by decide)]; exact s2
    · rw [ep.2.2.2, p5, hZ i 2 hic (by decide)]; exact s3
    · rw [ep.2.2.2, p6, hZ i 3 hic (by decide)]; exact s4
    · rw [hZ i 2 hic (by decide)]; exact s5
    · rw [ep.2.2.2, p7, hZ i 4 hic (by decide)]; exact s6 z4
    · rw [hZ i 4 hic (by decide)]; exact s7 z4
end

