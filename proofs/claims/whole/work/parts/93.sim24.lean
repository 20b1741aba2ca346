/-! closing and undoing: the ring -/
section
variable {h g : Hp} {ow : Nat → Nat} {a A K : Nat} {γ : Gh}
theorem rChest_eq {x : Nat} (hx : oP (A + 5) x) (hxB : x ≠ A + 5) : Eq1 h (rChest h A) x := by
  unfold rChest
  split
  · unfold rCh1 scL
    have q : ∀ N, N ≤ 60 → ∀ part y, Eq1 h (itr (scS A part) N (h, y)).1 x := fun N hN part y => Eq1.it2 (h := (h, y)) (fun n hn w => by
      unfold scS
      split
      · exact Eq1.refl
      · exact Eq1.setL (hx.ne (by omega)))
    have z := q 60 (Nat.le_refl _) (h.l (A + 5) 8 / (nI (cFul h (A + 5))).toInt64) (h.l (A + 5) 8 - h.l (A + 5) 8 / (nI (cFul h (A + 5))).toInt64 * (nI (cFul h (A + 5))).toInt64)
    generalize itr (scS A (h.l (A + 5) 8 / (nI (cFul h (A + 5))).toInt64)) 60 (h, h.l (A + 5) 8 - h.l (A + 5) 8 / (nI (cFul h (A + 5))).toInt64 * (nI (cFul h (A + 5))).toInt64) = w at z ⊢
    exact z.trans (Eq1.setL hxB)
  · exact Eq1.refl
theorem CR.sti (I : CR h ow a A K γ) (hK : K < 512) {c : Nat} (hc : c ≤ K) (h8 : γ.f 8 = lN c) : StI h A c γ.Z := by
  obtain ⟨i1, i2, i3, i4, i5, i6, i7, i8, i9, i10⟩ := I
  intro i hi
  obtain ⟨q, hq, ⟨s1, s2, s3, s4, s5⟩, -⟩ := i10 i (by show i < ((γ.f 8).toInt.toNat); rw [h8, lN_nat (by omega)]; exact hi)
  obtain ⟨q1, q2, q3⟩ := i9 i q (by omega) hq
  refine ⟨q, hq, ?_, s3, s5, fun j hj hji e => ?_⟩
  · rcases Nat.lt_or_ge q A with z | z
    · exact Or.inl z
    · rcases Nat.lt_or_ge q (A + 68) with y | y
      · have := i3 q z y
        omega
      · exact Or.inr y
  · have := (i9 j q (by omega) e).2.2
    omega
theorem cr_close {c : Nat} (I : CR h ow a A K γ) (hK : K < 512) (h4 : γ.f 4 = 1) (hc : c ≤ K) (h8 : γ.f 8 = lN c) :
    CR (rFin2 (itr (dbS (A + 5)) 60 h) A c) ow a A (K + 1) (γ.F, γ.r, upG γ.G γ.r (clEnd (itr csP c (γ.Z, itr bcS 60 γ.f)).2), (itr csP c (γ.Z, itr bcS 60 γ.f)).1) ∧ Oth h (rFin2 (itr (dbS (A + 5)) 60 h) A c) ow a := by
  have hst := I.sti hK hc h8
  obtain ⟨S1, O1, l1, E1⟩ := sim_bcL I.sm I.ok (by rw [h4]; decide) 60 (Nat.le_refl _)
  have hsh1 : (itr (dbS (A + 5)) 60 h).1 = h.1 := dbK 60
  have hap : ∀ j bj, j < 60 → h.r (A + 67) j = some bj → bj + 62 ≤ A ∨ A + 68 ≤ bj := fun j bj hj hb => I.ap hj hb
  have hr6 := I.2.2.2.2.1.2.1
  obtain ⟨i1, i2, i3, i4, i5, i6, i7, i8, i9, i10⟩ := I
  generalize itr (dbS (A + 5)) 60 h = y at S1 E1 hsh1 ⊢
  generalize itr bcS 60 γ.f = f1 at S1 O1 l1 ⊢
  have yr : ∀ x k, y.r x k = h.r x k := fun x k => by show y.1.2.2 x k = _; rw [hsh1]
  have hst1 : StI y A c γ.Z := fun i hi => by
    obtain ⟨q, a1, a2, a3, a4, a5⟩ := hst i hi
    exact ⟨q, (yr _ _).trans a1, a2, ((E1 q (by unfold oP; omega)).2.2.2 2).trans a3, a4, fun j hj hji => by rw [yr]; exact a5 j hj hji⟩
  have P := so_payStops S1 O1 hst1 (by omega) c (Nat.le_refl _)
  unfold rFin2
  generalize itr (psS A) c y = w at P ⊢
  generalize itr csP c (γ.Z, f1) = zz at P ⊢
  obtain ⟨Z', f2⟩ := zz
  obtain ⟨S2, O2, p1, p2, p3, p4, p5, p6, p7, p8⟩ := P
  dsimp only at S2 O2 p1 p2 p8 ⊢
  have h42 : f2 4 = 1 := (p1 4 (by decide)).trans ((l1 4 (by decide)).trans h4)
  obtain ⟨S3, O3, l3⟩ := so_chest S2 O2 h42 (by omega)
  have lo : ∀ k, k < 13 → k ≠ 3 → k ≠ 4 → clEnd f2 k = γ.f k := fun k hk a3 a4 => (l3 k a3 a4 (fun s _ => (ix_low hk).symm)).trans ((p1 k a3).trans (l1 k hk))
  have c4 : clEnd f2 4 = 2 := upF_s _ _ _
  have hsh2 : ((rChest w A).setI (A + 5) 1 2).1 = h.1 := (show (rChest w A).1 = h.1 from rChest_sh.trans (p3.trans hsh1))
  have E3 : ∀ x, (x < A + 5 ∨ A + 67 ≤ x) → Eq1 w ((rChest w A).setI (A + 5) 1 2) x := fun x hx => (rChest_eq (by unfold oP; omega) (by omega)).trans (Eq1.setI (by omega))
  generalize (rChest w A).setI (A + 5) 1 2 = g at S3 hsh2 E3 ⊢
  have gn : g.n = h.n := by show g.1.1 = _; rw [hsh2]
  have gr : ∀ x j, g.r x j = h.r x j := fun x j => by show g.1.2.2 x j = _; rw [hsh2]
  have gk : ∀ x, g.kd x = h.kd x := fun x => by show g.1.2.1 x = _; rw [hsh2]
  -- cells that are neither the book's nor a stop
  have E : ∀ x, (x < A + 5 ∨ A + 67 ≤ x) → (∀ i, i < c → h.r (A + 4) i ≠ some x) → Eq1 h g x := fun x hx hs => ((E1 x (by unfold oP; omega)).trans (p6 x (fun i hi => by rw [yr]; exact hs i hi) (by omega))).trans (E3 x hx)
  have noS : ∀ x l, x < h.n → ow x = l → (∀ i, i < 512 → l ≠ 1000 * a + 100 + i) → ∀ i, i < c → h.r (A + 4) i ≠ some x := fun x l hx ho hl i hi e => hl i (by omega) (by rw [← ho]; exact (i9 i x (by omega) e).2.2)
  have EA : ∀ x, A ≤ x → x < A + 68 → (x < A + 5 ∨ A + 67 ≤ x) → Eq1 h g x := fun x h1 h2 h3 => E x h3 (noS x _ (by omega) (i3 x h1 h2) (fun i _ => by omega))
  have EB : ∀ j bj, j < 60 → h.r (A + 67) j = some bj → ∀ x, bj ≤ x → x < bj + 62 → Eq1 h g x := fun j bj hj hb x h1 h2 => by
    obtain ⟨b1, b2, b3⟩ := i7 j bj hj hb
    have := hap j bj hj hb
    exact E x (by omega) (noS x _ (by omega) (b3 x h1 h2) (fun i _ => by omega))
  refine ⟨⟨by rw [hsh2]; exact i1, by omega, i3, ((EA A (by omega) (by omega) (by omega)).2.2.1 10).trans i4, ?_, ?_, fun j bj hj hb => ?_, fun j h1 h2 => ?_, fun i q hi hq => ?_, fun i hi => ?_⟩, ⟨by omega, fun x hx hl => ?_⟩⟩
  · exact i5.set (O3.mono (Nat.le_succ _)) (lo 5 (by decide) (by decide) (by decide)) (by rw [lo 8 (by decide) (by decide) (by decide)]; exact Int.le_refl _) (by rw [lo 10 (by decide) (by decide) (by decide)]; exact Int.le_refl _)
  · show Sm g A (A + 5) (upG γ.G γ.r (clEnd f2) γ.r)
    rw [upG_s]
    exact S3
  · rw [gr] at hb
    obtain ⟨b1, b2, b3⟩ := i7 j bj hj hb
    exact ⟨by rw [hsh2]; exact b1, by omega, b3⟩
  · have h2' : j < γ.r := h2
    obtain ⟨bj, hb, Sb⟩ := i8 j h1 h2
    show ∃ b, g.r (A + 67) j = some b ∧ Sm g A b (upG γ.G γ.r (clEnd f2) j)
    rw [show upG γ.G γ.r (clEnd f2) j = γ.G j from upG_n (by omega)]
    refine ⟨bj, (gr _ _).trans hb, Sb.frame (fun x hx => ?_)⟩
    rcases hx with z | z | z | z | z
    · exact EA x (by omega) (by omega) (by omega)
    · exact EA x (by omega) (by omega) (by omega)
    · exact EA x (by omega) (by omega) (by omega)
    · exact EA x (by omega) (by omega) (by omega)
    · exact EB j bj (by omega) hb x z.1 z.2
  · rw [gr] at hq
    obtain ⟨q1, q2, q3⟩ := i9 i q hi hq
    exact ⟨(gk q).trans q1, by omega, q3⟩
  · have hi : i < ((upG γ.G γ.r (clEnd f2) γ.r) 8).toInt.toNat := hi
    show ∃ q, g.r (A + 4) i = some q ∧ StV g q (Z' i) ∧ ((upG γ.G γ.r (clEnd f2) γ.r) 4 = 2 → g.l q 4 = Z' i 4) ∧ (¬ (upG γ.G γ.r (clEnd f2) γ.r) 4 = 2 → Z' i 4 = 0)
    rw [upG_s, lo 8 (by decide) (by decide) (by decide), h8, lN_nat (by omega)] at hi
    rw [upG_s, c4]
    obtain ⟨q, hq, ⟨s1, s2, s3, s4, s5⟩, -⟩ := i10 i (by show i < ((γ.f 8).toInt.toNat); rw [h8, lN_nat (by omega)]; exact hi)
    obtain ⟨q', hq', hq4⟩ := p8 i hi
    rw [yr, hq] at hq'
    cases hq'
    have hqA : q < A ∨ A + 68 ≤ q := by
      obtain ⟨q2, a1, a2, -⟩ := hst i hi
      rw [hq] at a1
      cases a1
      exact a2
    have e3 := E3 q (by omega)
    have gi : ∀ k, g.i q k = h.i q k := fun k => (e3.2.2.1 k).trans ((congrFun (p4 q) k).trans ((E1 q (by unfold oP; omega)).2.2.1 k))
    have gl : ∀ k, k ≠ 4 → g.l q k = h.l q k := fun k hk => (e3.2.2.2 k).trans ((p5 q k hk (by omega)).trans ((E1 q (by unfold oP; omega)).2.2.2 k))
    refine ⟨q, (gr _ _).trans hq, ⟨by rw [gi, p2 i 0 (by decide)]; exact s1, by rw [gi, p2 i 1 (by decide)]; exact s2, by rw [gl 2 (by decide), p2 i 2 (by decide)]; exact s3, by rw [gl 3 (by decide), p2 i 3 (by decide)]; exact s4, by rw [p2 i 2 (by decide)]; exact s5⟩, fun _ => (e3.2.2.2 4).trans hq4, fun z => absurd rfl z⟩
  · have hxA : x < A ∨ A + 68 ≤ x := by
      rcases Nat.lt_or_ge x A with z | z
      · exact Or.inl z
      · rcases Nat.lt_or_ge x (A + 68) with y | y
        · have := i3 x z y
          omega
        · exact Or.inr y
    exact E x (by omega) (noS x _ hx rfl (fun i hi => by omega))
def unZ (Z : Nat → Nat → Int64) (c : Nat) : Nat → Nat → Int64 := fun i k => if i < c ∧ k = 4 then 0 else Z i k
theorem unZ_k {Z : Nat → Nat → Int64} {c i k : Nat} (h : k ≠ 4) : unZ Z c i k = Z i k := if_neg (fun z => h z.2)
theorem cr_undo {b r c : Nat} (I : CR h ow a A K γ) (hK : K < 512) (hr : γ.r = r + 1) (hF : γ.F ≤ r) (hb : h.r (A + 67) r = some b) (hc : γ.G r 8 = lN c) (hcK : c ≤ K) :
    CR (cpBk (A + 5) b h) ow a A (K + 1) (γ.F, r, γ.G, unZ γ.Z c) ∧ Oth h (cpBk (A + 5) b h) ow a ∧ (cpBk (A + 5) b h).i (A + 5) 2 = nI r := by
  have hr6 := I.2.2.2.2.1.2.1
  have hap : ∀ j bj, j < 60 → h.r (A + 67) j = some bj → bj + 62 ≤ A ∨ A + 68 ≤ bj := fun j bj hj hb => I.ap hj hb
  have F : Fq A h (cpBk (A + 5) b h) := ⟨cpBk_sh, fun x hx => cpBk_eq (by omega)⟩
  have hoth := I.oth F
  have hcf : c ≤ (γ.f 8).toInt.toNat := by
    obtain ⟨c2, hc2, e2, -⟩ := I.c (by omega)
    have z := (I.2.2.2.2.1.2.2.2.1 r γ.r hF (by omega) (Nat.le_refl _)).2
    have z : (γ.G r 8).toInt ≤ (γ.f 8).toInt := z
    rw [hc, e2, pk_lT (by omega), pk_lT (by omega)] at z
    rw [e2, lN_nat (by omega)]
    omega
  obtain ⟨i1, i2, i3, i4, i5, i6, i7, i8, i9, i10⟩ := I
  obtain ⟨b', hb', Sb⟩ := i8 r hF (by omega)
  rw [hb] at hb'
  cases hb'
  have hd := hap r b (by omega) hb
  have S1 : Sm (cpBk (A + 5) b h) A (A + 5) (γ.G r) := Sb.copy (by omega) (fun i hi => by omega)
  generalize cpBk (A + 5) b h = g at F hoth S1 ⊢
  have gn : g.n = h.n := by show g.1.1 = _; rw [F.1]
  have gr : ∀ x j, g.r x j = h.r x j := fun x j => by show g.1.2.2 x j = _; rw [F.1]
  have gk : ∀ x, g.kd x = h.kd x := fun x => by show g.1.2.1 x = _; rw [F.1]
  obtain ⟨j1, j2, j3, j4, j5⟩ := i5
  have h41 : γ.G r 4 = 1 := j5 r hF (by omega)
  have hgr5 := (j3 r hF (by omega)).2
  refine ⟨⟨by rw [F.1]; exact i1, by omega, i3, ((F.2 A (by omega)).2.2.1 10).trans i4, ⟨hF, (show r ≤ 60 by omega), fun k h1 h2 => ⟨(j3 k h1 (Nat.le_trans h2 (by rw [hr]; exact Nat.le_succ _))).1.mono (Nat.le_succ _), (j3 k h1 (Nat.le_trans h2 (by rw [hr]; exact Nat.le_succ _))).2⟩, fun k k' h1 h2 h3 => j4 k k' h1 h2 (Nat.le_trans h3 (by rw [hr]; exact Nat.le_succ _)), fun k h1 h2 => j5 k h1 (Nat.lt_of_lt_of_le h2 (by rw [hr]; exact Nat.le_succ _))⟩, S1, fun j bj hj hbj => ?_, fun j h1 h2 => ?_, fun i q hi hq => ?_, fun i hi => ?_⟩, hoth, (t64_n (by omega)).mp ((S1.k 5 (by decide)).symm.trans hgr5)⟩
  · rw [gr] at hbj
    obtain ⟨b1, b2, b3⟩ := i7 j bj hj hbj
    exact ⟨by rw [F.1]; exact b1, by omega, b3⟩
  · have h2' : j < r := h2
    obtain ⟨bj, hbj, Sj⟩ := i8 j h1 (by omega)
    have hdj := hap j bj (by omega) hbj
    exact ⟨bj, (gr _ _).trans hbj, Sj.frame (fun x hx => F.2 x (by omega))⟩
  · rw [gr] at hq
    obtain ⟨q1, q2, q3⟩ := i9 i q hi hq
    exact ⟨(gk q).trans q1, by omega, q3⟩
  · have hi : i < ((γ.G r) 8).toInt.toNat := hi
    rw [hc, lN_nat (by omega)] at hi
    obtain ⟨q, hq, ⟨s1, s2, s3, s4, s5⟩, -⟩ := i10 i (by show i < ((γ.f 8).toInt.toNat); omega)
    obtain ⟨q1, q2, q3⟩ := i9 i q (by omega) hq
    have hqA : q < A ∨ A + 68 ≤ q := by
      rcases Nat.lt_or_ge q A with z | z
      · exact Or.inl z
      · rcases Nat.lt_or_ge q (A + 68) with y | y
        · have := i3 q z y
          omega
        · exact Or.inr y
    have e := F.2 q (by omega)
    show ∃ q, g.r (A + 4) i = some q ∧ StV g q (unZ γ.Z c i) ∧ (γ.G r 4 = 2 → g.l q 4 = unZ γ.Z c i 4) ∧ (¬ γ.G r 4 = 2 → unZ γ.Z c i 4 = 0)
    rw [h41]
    exact ⟨q, (gr _ _).trans hq, ⟨by rw [e.2.2.1, unZ_k (by decide)]; exact s1, by rw [e.2.2.1, unZ_k (by decide)]; exact s2, by rw [e.2.2.2, unZ_k (by decide)]; exact s3, by rw [e.2.2.2, unZ_k (by decide)]; exact s4, by rw [unZ_k (by decide)]; exact s5⟩, fun z => absurd z (by decide), fun _ => if_pos ⟨hi, rfl⟩⟩
end

