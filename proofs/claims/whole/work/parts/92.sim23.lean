/-! stopping: the ring with its stops -/
def stZ (Z : Nat → Nat → Int64) (c n : Nat) (φ : Fl) : Nat → Nat → Int64 := upZ (upZ (upZ (upZ (upZ Z c 0 (lN n)) c 1 (φ 5)) c 2 (stOwed φ n)) c 3 (stOwes φ n)) c 4 0
theorem upZ_s {Z : Nat → Nat → Int64} {i k : Nat} {v : Int64} : upZ Z i k v i k = v := if_pos ⟨rfl, rfl⟩
theorem upZ_k {Z : Nat → Nat → Int64} {i k j l : Nat} {v : Int64} (h : l ≠ k) : upZ Z i k v j l = Z j l := if_neg (fun z => h z.2)
theorem upZ_i {Z : Nat → Nat → Int64} {i k j l : Nat} {v : Int64} (h : j ≠ i) : upZ Z i k v j l = Z j l := if_neg (fun z => h z.1)
theorem stZ_o {Z : Nat → Nat → Int64} {c n i k : Nat} {φ : Fl} (h : i ≠ c) : stZ Z c n φ i k = Z i k := by
  unfold stZ
  rw [upZ_i h, upZ_i h, upZ_i h, upZ_i h, upZ_i h]
theorem stZ_v {Z : Nat → Nat → Int64} {c n : Nat} {φ : Fl} : stZ Z c n φ c 0 = lN n ∧ stZ Z c n φ c 1 = φ 5 ∧ stZ Z c n φ c 2 = stOwed φ n ∧ stZ Z c n φ c 3 = stOwes φ n ∧ stZ Z c n φ c 4 = 0 := by
  unfold stZ
  refine ⟨?_, ?_, ?_, ?_, upZ_s⟩
  · rw [upZ_k (by decide), upZ_k (by decide), upZ_k (by decide), upZ_k (by decide), upZ_s]
  · rw [upZ_k (by decide), upZ_k (by decide), upZ_k (by decide), upZ_s]
  · rw [upZ_k (by decide), upZ_k (by decide), upZ_s]
  · rw [upZ_k (by decide), upZ_s]
section
variable {h g : Hp} {ow : Nat → Nat} {a A K : Nat} {γ : Gh}
theorem ks_facts {y : Hp} {P c n : Nat} {s : Int32} {φ : Fl} (hy : Fq A h y) (hRS : RSh h.1 A) (hlt : A + 68 ≤ h.n) (i3 : ∀ x, A ≤ x → x < A + 68 → ow x = 1000 * a) (i9 : ∀ i q, i < 512 → h.r (A + 4) i = some q → h.kd q = kObj 3 ∧ q < h.n ∧ ow q = 1000 * a + 100 + i) (hc : c < 512) (hP : P = A + 5 + 2 + n) (hn : n < 60) (S : Sm y A (A + 5) φ) :
    ∃ (q : Nat) (ow' : Nat → Nat), (rKS y A P c s).r (A + 4) c = some q ∧ (∀ i, i ≠ c → (rKS y A P c s).r (A + 4) i = h.r (A + 4) i) ∧ (rKS y A P c s).kd q = kObj 3 ∧ q < (rKS y A P c s).n ∧ h.n ≤ (rKS y A P c s).n ∧ ow' q = 1000 * a + 100 + c ∧ (∀ x, x < h.n → ow' x = ow x) ∧ (q < A ∨ A + 68 ≤ q) ∧ (∀ x, x < h.n → x ≠ q → x ≠ A + 4 → x ≠ A + 5 → Eq1 y (rKS y A P c s) x) ∧ RSh (rKS y A P c s).1 A ∧ Sm (rKS y A P c s) A (A + 5) (upF φ 8 (lN (c + 1)))
      ∧ (rKS y A P c s).i q 0 = s ∧ (rKS y A P c s).i q 1 = y.i (A + 5) 2 ∧ (rKS y A P c s).l q 2 = ksOwed y A P ∧ (rKS y A P c s).l q 3 = ksOwes y A P ∧ (rKS y A P c s).l q 4 = 0 := by
  have yr : ∀ x k, y.r x k = h.r x k := fun x k => by show y.1.2.2 x k = _; rw [hy.1]
  have yk : ∀ x, y.kd x = h.kd x := fun x => by show y.1.2.1 x = _; rw [hy.1]
  have yn : y.n = h.n := by show y.1.1 = _; rw [hy.1]
  have hRy : RSh y.1 A := by rw [hy.1]; exact hRS
  unfold rKS
  cases hm : y.r (A + 4) c with
  | some q =>
    dsimp only
    obtain ⟨q1, q2, q3⟩ := i9 c q hc ((yr _ _).symm.trans hm)
    have hqA : q < A ∨ A + 68 ≤ q := by
      rcases Nat.lt_or_ge q A with z | z
      · exact Or.inl z
      · rcases Nat.lt_or_ge q (A + 68) with w | w
        · have := i3 q z w
          omega
        · exact Or.inr w
    have hv := ksP_val (g := y) (A := A) (p := P) (q := q) (c := c) (s := s) ⟨by omega, by omega, by omega⟩
    have e0 : ∀ x, x ≠ q → x ≠ A + 4 → Eq1 y (ksP y A P q c s) x := fun x h1 h2 => ksP_eq h1 h2
    have e1 : ∀ x, x ≠ A + 5 → Eq1 (ksP y A P q c s) (ksT y A P q c s) x := fun x hx => by rw [ksT_P]; exact Eq1.setI hx
    have S1 : Sm (ksP y A P q c s) A (A + 5) φ := S.frame (fun x hx => e0 x (by omega) (by omega))
    have S2 : Sm (ksT y A P q c s) A (A + 5) (upF φ 8 (lN (c + 1))) := by rw [ksT_P]; exact S1.b7n (by omega)
    have eq := e1 q (by omega)
    have e4 := e1 (A + 4) (by omega)
    have r4 : ∀ i, i ≠ c → (ksT y A P q c s).r (A + 4) i = y.r (A + 4) i := fun i hi => up2_k _ _ hi
    refine ⟨q, ow, (e4.2.1 c).trans hv.2.2.2.2.2, fun i hi => (r4 i hi).trans (yr _ _), (show y.kd q = _ from (yk q).trans q1), (show q < y.n by omega), (show h.n ≤ y.n by omega), q3, fun _ _ => rfl, hqA, fun x hx h1 h2 h3 => (e0 x h1 h2).trans (e1 x h3), ?_, S2, (eq.2.2.1 0).trans hv.1, (eq.2.2.1 1).trans hv.2.1, (eq.2.2.2 2).trans hv.2.2.1, (eq.2.2.2 3).trans hv.2.2.2.1, (eq.2.2.2 4).trans hv.2.2.2.2.1⟩
    exact RSh.of4 (g := y) (g' := y.setR (A + 4) c (some q)) (fun x h1 h2 h3 => Eq1.setR h3) rfl hRy
  | none =>
    dsimp only
    have hw : ∀ x, x < h.n → Eq1 y (y.new (10 + 3) 0) x := fun x hx => Eq1.new (by omega)
    have hv := ksP_val (g := y.new (10 + 3) 0) (A := A) (p := P) (q := y.n) (c := c) (s := s) ⟨by omega, by omega, by omega⟩
    have e0 : ∀ x, x ≠ y.n → x ≠ A + 4 → Eq1 (y.new (10 + 3) 0) (ksP (y.new (10 + 3) 0) A P y.n c s) x := fun x h1 h2 => ksP_eq h1 h2
    have e1 : ∀ x, x ≠ A + 5 → Eq1 (ksP (y.new (10 + 3) 0) A P y.n c s) (ksT (y.new (10 + 3) 0) A P y.n c s) x := fun x hx => by rw [ksT_P]; exact Eq1.setI hx
    have S0 : Sm (y.new (10 + 3) 0) A (A + 5) φ := S.frame (fun x hx => hw x (by omega))
    have S1 : Sm (ksP (y.new (10 + 3) 0) A P y.n c s) A (A + 5) φ := S0.frame (fun x hx => e0 x (by omega) (by omega))
    have S2 : Sm (ksT (y.new (10 + 3) 0) A P y.n c s) A (A + 5) (upF φ 8 (lN (c + 1))) := by rw [ksT_P]; exact S1.b7n (by omega)
    have eq := e1 y.n (by omega)
    have e4 := e1 (A + 4) (by omega)
    have r4 : ∀ i, i ≠ c → (ksT (y.new (10 + 3) 0) A P y.n c s).r (A + 4) i = (y.new (10 + 3) 0).r (A + 4) i := fun i hi => up2_k _ _ hi
    have hO : ksOwed (y.new (10 + 3) 0) A P = ksOwed y A P := by unfold ksOwed; rw [(hw P (by omega)).2.2.1, (hw P (by omega)).2.2.2, (hw A (by omega)).2.2.2]
    have hO2 : ksOwes (y.new (10 + 3) 0) A P = ksOwes y A P := by unfold ksOwes; rw [(hw P (by omega)).2.2.1, (hw P (by omega)).2.2.2, (hw A (by omega)).2.2.2, (hw (A + 5) (by omega)).2.2.1, (hw (A + 5) (by omega)).2.2.1]
    have hRn : RSh (y.new (10 + 3) 0).1 A := Eq1.rshA (fun x h1 h2 => hw x (by omega)) hRy
    refine ⟨y.n, fun x => if x < h.n then ow x else 1000 * a + 100 + c, (e4.2.1 c).trans hv.2.2.2.2.2, fun i hi => (r4 i hi).trans (((hw (A + 4) (by omega)).2.1 i).trans (yr _ _)), (show (y.new (10 + 3) 0).kd y.n = _ by exact new_kn), (show y.n < y.n + 1 by omega), (show h.n ≤ y.n + 1 by omega), if_neg (by omega), fun x hx => if_pos hx, by omega, fun x hx h1 h2 h3 => (hw x hx).trans ((e0 x h1 h2).trans (e1 x h3)), ?_, S2, (eq.2.2.1 0).trans hv.1, (eq.2.2.1 1).trans (hv.2.1.trans ((hw (A + 5) (by omega)).2.2.1 2)), (eq.2.2.2 2).trans (hv.2.2.1.trans hO), (eq.2.2.2 3).trans (hv.2.2.2.1.trans hO2), (eq.2.2.2 4).trans hv.2.2.2.2.1⟩
    exact RSh.of4 (g := y.new (10 + 3) 0) (g' := (y.new (10 + 3) 0).setR (A + 4) c (some y.n)) (fun x h1 h2 h3 => Eq1.setR h3) rfl hRn
theorem cr_stop {n c : Nat} {s : Int32} (I : CR h ow a A K γ) (hK : K < 512) (hn : n < 60) (hs : s = nI n) (h4 : γ.f 4 = 1) (hc : c ≤ K) (h8 : γ.f 8 = lN c) :
    ∃ ow' : Nat → Nat, CR (st3 (rKS (st1 (st0 h (A + 5 + 2 + n)) A s) A (A + 5 + 2 + n) c s) (A + 5 + 2 + n)) ow' a A (K + 1) (γ.F, γ.r, upG γ.G γ.r (stop2 (stop1 γ.f n) n), stZ γ.Z c n (stop1 γ.f n)) ∧ Oth h (st3 (rKS (st1 (st0 h (A + 5 + 2 + n)) A s) A (A + 5 + 2 + n) c s) (A + 5 + 2 + n)) ow a ∧ (∀ x, x < h.n → ow' x = ow x) := by
  have hy : Fq A h (st1 (st0 h (A + 5 + 2 + n)) A s) := by
    have q0 : Fq A h (st0 h (A + 5 + 2 + n)) := ⟨rfl, fun x hx => st0_eq (by omega)⟩
    refine q0.trans ?_
    unfold st1
    split
    · exact Fq.bI
    · exact Fq.refl
  have S1 := sim_stop1 I.sm hn hs
  obtain ⟨O1, ⟨e4, e8⟩, -, eo⟩ := ok_stop1 I.ok hn (by rw [h4]; decide)
  have OK := ok_stop I.ok hn h4 h8 hc
  obtain ⟨w1, w2, w3⟩ := owed_eq S1 O1 hn
  have e5 : stop1 γ.f n 5 = lN γ.r := (eo 5 (by decide) (ix_low (by decide)).symm (ix_low (by decide)).symm (ix_low (by decide)).symm (ix_low (by decide)).symm (ix_low (by decide)).symm).trans I.f5
  have e10 : stop1 γ.f n 10 = γ.f 10 := eo 10 (by decide) (ix_low (by decide)).symm (ix_low (by decide)).symm (ix_low (by decide)).symm (ix_low (by decide)).symm (ix_low (by decide)).symm
  have e5y : (st1 (st0 h (A + 5 + 2 + n)) A s).i (A + 5) 2 = nI γ.r := by
    have := I.2.2.2.2.1.2.1
    exact (t64_n (by omega)).mp ((S1.k 5 (by decide)).symm.trans e5)
  obtain ⟨q, ow', k1, k2, k3, k4, k5, k6, k7, k8, k9, k10, S2, v0, v1, v2, v3, v4⟩ := ks_facts (c := c) (s := s) hy I.1 I.2.1 I.2.2.1 I.2.2.2.2.2.2.2.2.1 (by omega) rfl hn S1
  have hap : ∀ j bj, j < 60 → h.r (A + 67) j = some bj → bj + 62 ≤ A ∨ A + 68 ≤ bj := fun j bj hj hb => I.ap hj hb
  have hr6 := I.2.2.2.2.1.2.1
  obtain ⟨i1, i2, i3, i4, i5, i6, i7, i8, i9, i10⟩ := I
  generalize st1 (st0 h (A + 5 + 2 + n)) A s = y at hy S1 w1 w2 e5y k1 k2 k3 k4 k5 k9 k10 S2 v0 v1 v2 v3 v4 ⊢
  have S3 : Sm (st3 (rKS y A (A + 5 + 2 + n) c s) (A + 5 + 2 + n)) A (A + 5) (stop2 (stop1 γ.f n) n) := sim_stop2 (by rw [e8, h8, lN_1]; exact S2) hn
  generalize rKS y A (A + 5 + 2 + n) c s = w at k1 k2 k3 k4 k5 k9 k10 S2 v0 v1 v2 v3 v4 S3 ⊢
  have F3 : Fq A w (st3 w (A + 5 + 2 + n)) := ((((Fq.sI hn).trans (Fq.sI hn)).trans (Fq.sL hn)).trans ((Fq.sL hn).trans (Fq.sL hn)))
  generalize st3 w (A + 5 + 2 + n) = g at S3 F3 ⊢
  have gn : g.n = w.n := by show g.1.1 = _; rw [F3.1]
  have gr : ∀ x j, g.r x j = w.r x j := fun x j => by show g.1.2.2 x j = _; rw [F3.1]
  have gk : ∀ x, g.kd x = w.kd x := fun x => by show g.1.2.1 x = _; rw [F3.1]
  -- a cell outside the ring's book, and not the stop: as it was
  have E : ∀ x, x < h.n → x ≠ q → x ≠ A + 4 → (x < A + 5 ∨ A + 67 ≤ x) → Eq1 h g x := fun x hx h1 h2 h3 => ((hy.2 x h3).trans (k9 x hx h1 h2 (by omega))).trans (F3.2 x h3)
  have lq : ∀ x, x < h.n → ow x ≠ 1000 * a + 100 + c → x ≠ q := fun x hx ho e => ho ((k7 x hx).symm.trans (by rw [e]; exact k6))
  have hl8 : stop2 (stop1 γ.f n) n 8 = lN (c + 1) := by
    unfold stop2 bcS
    rw [upF_n _ _ (ix_low (by decide)).symm, upF_n _ _ (ix_low (by decide)).symm, upF_n _ _ (ix_low (by decide)).symm, upF_n _ _ (ix_low (by decide)).symm, upF_n _ _ (ix_low (by decide)).symm, upF_s, e8, h8, lN_1]
  have hlo : ∀ k, k < 13 → k ≠ 8 → stop2 (stop1 γ.f n) n k = stop1 γ.f n k := fun k hk h8 => by
    unfold stop2 bcS
    rw [upF_n _ _ (ix_low hk).symm, upF_n _ _ (ix_low hk).symm, upF_n _ _ (ix_low hk).symm, upF_n _ _ (ix_low hk).symm, upF_n _ _ (ix_low hk).symm, upF_n _ _ h8]
  refine ⟨ow', ⟨by rw [F3.1]; exact k10, by omega, fun x h1 h2 => (k7 x (by omega)).trans (i3 x h1 h2), ?_, ?_, ?_, fun j bj hj hb => ?_, fun j h1 h2 => ?_, fun i p hi hp => ?_, fun i hi => ?_⟩, ⟨by omega, fun x hx hl => ?_⟩, k7⟩
  · exact ((E A (by omega) (by omega) (by omega) (by omega)).2.2.1 10).trans i4
  · exact i5.set OK ((hlo 5 (by decide) (by decide)).trans (e5.trans (i5.2.2.1 γ.r i5.1 (Nat.le_refl _)).2.symm)) (by rw [hl8, h8, pk_lT (by omega), pk_lT (by omega)]; omega) (by rw [hlo 10 (by decide) (by decide), e10]; exact Int.le_refl _)
  · show Sm g A (A + 5) (upG γ.G γ.r (stop2 (stop1 γ.f n) n) γ.r)
    rw [upG_s]
    exact S3
  · rw [gr] at hb
    have hb : h.r (A + 67) j = some bj := (((hy.2 (A + 67) (by omega)).trans (k9 (A + 67) (by omega) (by omega) (by omega) (by omega))).2.1 j).symm.trans hb
    obtain ⟨b1, b2, b3⟩ := i7 j bj hj hb
    have hd := hap j bj hj hb
    refine ⟨Eq1.bsh (fun x h1 h2 => E x (by omega) (lq x (by omega) (by rw [b3 x h1 h2]; omega)) (by omega) (by omega)) b1, by omega, fun x h1 h2 => (k7 x (by omega)).trans (b3 x h1 h2)⟩
  · obtain ⟨bj, hb, Sb⟩ := i8 j h1 h2
    have h2' : j < γ.r := h2
    have hj6 : j < 60 := by omega
    obtain ⟨b1, b2, b3⟩ := i7 j bj hj6 hb
    have hd := hap j bj hj6 hb
    show ∃ b, g.r (A + 67) j = some b ∧ Sm g A b (upG γ.G γ.r (stop2 (stop1 γ.f n) n) j)
    rw [show upG γ.G γ.r (stop2 (stop1 γ.f n) n) j = γ.G j from upG_n (by omega)]
    refine ⟨bj, ((E (A + 67) (by omega) (by omega) (by omega) (by omega)).2.1 j).trans hb, Sb.frame (fun x hx => ?_)⟩
    rcases hx with z | z | z | z | z
    · exact E x (by omega) (by omega) (by omega) (by omega)
    · exact E x (by omega) (by omega) (by omega) (by omega)
    · exact E x (by omega) (by omega) (by omega) (by omega)
    · exact E x (by omega) (by omega) (by omega) (by omega)
    · exact E x (by omega) (lq x (by omega) (by rw [b3 x z.1 z.2]; omega)) (by omega) (by omega)
  · rw [gr] at hp
    by_cases e : i = c
    · subst e
      rw [k1] at hp
      cases hp
      exact ⟨(gk q).trans k3, by omega, k6⟩
    · rw [k2 i e] at hp
      obtain ⟨p1, p2, p3⟩ := i9 i p hi hp
      have hpA : p < A ∨ A + 68 ≤ p := by
        rcases Nat.lt_or_ge p A with z | z
        · exact Or.inl z
        · rcases Nat.lt_or_ge p (A + 68) with y | y
          · have := i3 p z y
            omega
          · exact Or.inr y
      exact ⟨(E p p2 (lq p p2 (by rw [p3]; omega)) (by omega) (by omega)).1.trans p1, by omega, (k7 p p2).trans p3⟩
  · have hi : i < ((upG γ.G γ.r (stop2 (stop1 γ.f n) n) γ.r) 8).toInt.toNat := hi
    show ∃ q, g.r (A + 4) i = some q ∧ StV g q (stZ γ.Z c n (stop1 γ.f n) i) ∧ ((upG γ.G γ.r (stop2 (stop1 γ.f n) n) γ.r) 4 = 2 → g.l q 4 = stZ γ.Z c n (stop1 γ.f n) i 4) ∧ (¬ (upG γ.G γ.r (stop2 (stop1 γ.f n) n) γ.r) 4 = 2 → stZ γ.Z c n (stop1 γ.f n) i 4 = 0)
    rw [upG_s, hl8, lN_nat (by omega)] at hi
    rw [upG_s, hlo 4 (by decide) (by decide), e4, h4]
    by_cases e : i = c
    · subst e
      obtain ⟨z0, z1, z2, z3, z4⟩ := stZ_v (Z := γ.Z) (c := i) (n := n) (φ := stop1 γ.f n)
      have eq := F3.2 q (by omega)
      refine ⟨q, (gr _ _).trans k1, ⟨?_, ?_, ?_, ?_, ?_⟩, fun z => absurd z (by decide), fun _ => z4⟩
      · rw [eq.2.2.1, v0, hs, nI_l (by omega), z0]
      · rw [eq.2.2.1, v1, e5y, nI_l (by omega), z1, e5]
      · rw [eq.2.2.2, v2, w1, z2]
      · rw [eq.2.2.2, v3, w2, z3]
      · rw [z2]; exact w3
    · obtain ⟨p, hp, ⟨s1, s2, s3, s4, s5⟩, s6, s7⟩ := i10 i (by show i < ((γ.f 8).toInt.toNat); rw [h8, lN_nat (by omega)]; omega)
      obtain ⟨p1, p2, p3⟩ := i9 i p (by omega) hp
      have hpA : p < A ∨ A + 68 ≤ p := by
        rcases Nat.lt_or_ge p A with z | z
        · exact Or.inl z
        · rcases Nat.lt_or_ge p (A + 68) with y | y
          · have := i3 p z y
            omega
          · exact Or.inr y
      have ep := E p p2 (lq p p2 (by rw [p3]; omega)) (by omega) (by omega)
      refine ⟨p, (gr _ _).trans ((k2 i e).trans hp), ⟨by rw [ep.2.2.1, stZ_o e]; exact s1, by rw [ep.2.2.1, stZ_o e]; exact s2, by rw [ep.2.2.2, stZ_o e]; exact s3, by rw [ep.2.2.2, stZ_o e]; exact s4, by rw [stZ_o e]; exact s5⟩, fun z => absurd z (by decide), fun _ => by rw [stZ_o e]; exact s7 (by rw [h4]; decide)⟩
  · have hxA : x < A ∨ A + 68 ≤ x := by
      rcases Nat.lt_or_ge x A with z | z
      · exact Or.inl z
      · rcases Nat.lt_or_ge x (A + 68) with y | y
        · have := i3 x z y
          omega
        · exact Or.inr y
    exact E x hx (lq x hx (by omega)) (by omega) (by omega)
end

