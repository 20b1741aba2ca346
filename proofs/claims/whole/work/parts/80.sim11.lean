/-! a round's end: all that comes in -/
theorem cnt_sub {p q : Nat → Bool} (h : ∀ k, p k = true → q k = true) : ∀ n, cnt p n ≤ cnt q n
  | 0 => Nat.le_refl _
  | n + 1 => by
    have := cnt_sub h n
    unfold cnt
    cases hp : p n with
    | false => rw [if_neg (by decide)]; omega
    | true => rw [h n hp, if_pos rfl]; omega
def isGo (f : Fl) (s : Nat) : Bool := isMem f s && !isSt f s
section
variable {h : Hp} {A K : Nat} {f : Fl}
theorem cellSum_s {φ : Fl} {y : Int64} {n : Nat} : cellSum φ y (n + 1) = cellSum φ y n + φ (ix n 13) := rfl
theorem cellSum_sh {φ : Fl} {y : Int64} : ∀ n, n ≤ 60 → (∀ s, s < 60 → φ (ix s 13) = f (ix s 13)) → cellSum φ y n = y + cellSum f 0 n := by
  intro n
  induction n with
  | zero => intro _ _; exact (Int64.add_zero y).symm
  | succ n ih =>
    intro hn e
    rw [cellSum_s, cellSum_s, ih (by omega) e, e n (by omega), Int64.add_assoc]
/-- how far the collecting is -/
def CoR (A K p : Nat) (f : Fl) (n : Nat) (a : Hp × Int64) (b : Fl × Int64) : Prop :=
  Sm a.1 A (A + 5) b.1 ∧ Ok (K + 1) b.1 ∧ (∀ k, k < 13 → b.1 k = f k) ∧ (∀ k, 1033 ≤ k → b.1 k = f k) ∧ (∀ s, s < 60 → ∀ j, j < 17 → j ≠ 5 → j ≠ 6 → j ≠ 7 → j ≠ 12 → b.1 (ix s j) = f (ix s j))
  ∧ (∀ s, n ≤ s → s < 60 → b.1 (ix s 5) = f (ix s 5) ∧ b.1 (ix s 6) = f (ix s 6)) ∧ a.2 = b.2 + cellSum f 0 n ∧ ∃ y c, b.2 = lN y ∧ cellSum f 0 n = lN c ∧ y + c ≤ cnt (isGo f) n * p ∧ ∀ s, s < 60 → ∃ d, d ≤ K * 10000000000 ∧ b.1 (ix s 7) = lN d
theorem co_step {n p : Nat} {a : Hp × Int64} {b : Fl × Int64} (O : Ok K f) (h4 : f 4 = 1) (hK : K + 1 ≤ 600) (ep : f 1 = lN p) (hp : p ≤ 9999999) (hn : n < 60) (I : CoR A K p f n a b) : CoR A K p f (n + 1) (coS A n a) (lkS n b) := by
  obtain ⟨g, x⟩ := a
  obtain ⟨φ, y⟩ := b
  obtain ⟨S, O1, l1, l2, l3, l5, ex, yn, cn, ey, ec, hb, hdp⟩ := I
  dsimp only at S O1 l1 l2 l3 l5 ex ey hdp
  have h4' : φ 4 = 1 := (l1 4 (by decide)).trans h4
  have ep' : φ 1 = lN p := (l1 1 (by decide)).trans ep
  have hm : isMem φ n = isMem f n := isMem_cong (l3 n hn 0 (by decide) (by decide) (by decide) (by decide) (by decide))
  have hs : isSt φ n = isSt f n := by unfold isSt; rw [l3 n hn 4 (by decide) (by decide) (by decide) (by decide) (by decide)]
  have hgo : pGo g (A + 5 + 2 + n) = isGo f n := by rw [S.go O1 hn, hm, hs]; rfl
  have ecnt : cnt (isGo f) (n + 1) = cnt (isGo f) n + (if isGo f n then 1 else 0) := rfl
  have hcs : ∀ v, f (ix n 13) = lN v → cellSum f 0 (n + 1) = lN (cn + v) := fun v hv => by rw [cellSum_s, ec, hv, lN_add]
  obtain ⟨c, hc, ecl, eci⟩ := Ok.cell S O1 hn ep' hp
  have ecl : f (ix n 13) = lN c := (l3 n hn 13 (by decide) (by decide) (by decide) (by decide) (by decide)).symm.trans ecl
  have e13 : (g.i (A + 5 + 2 + n) 13).toInt64 = lN c := by rw [eci, nI_l (by omega)]
  have epg : g.l A 1 = lN p := (S.k 1 (by decide)).symm.trans ep'
  have later : ∀ (ψ : Fl), (∀ s, n + 1 ≤ s → s < 60 → ψ (ix s 5) = φ (ix s 5) ∧ ψ (ix s 6) = φ (ix s 6)) → ∀ s, n + 1 ≤ s → s < 60 → ψ (ix s 5) = f (ix s 5) ∧ ψ (ix s 6) = f (ix s 6) := fun ψ hψ s h1 h2 => ⟨(hψ s h1 h2).1.trans (l5 s (by omega) h2).1, (hψ s h1 h2).2.trans (l5 s (by omega) h2).2⟩
  cases hg : isGo f n with
  | false =>
    rw [hg] at hgo ecnt
    have ecs : coS A n (g, x) = (g, x) := by unfold coS; rw [if_neg (by rw [hgo]; decide)]
    have elk : lkS n (φ, y) = (φ, y) := by
      unfold lkS
      dsimp only
      cases hm2 : isMem φ n with
      | false => rw [if_pos (by rw [isPl_1 h4', hm2])]
      | true =>
        rw [if_neg (by rw [isPl_1 h4', hm2]; decide)]
        have : isSt φ n = true := by
          cases hst : isSt φ n with
          | true => rfl
          | false => unfold isGo at hg; rw [← hm, ← hs, hm2, hst] at hg; exact absurd hg (by decide)
        rw [if_pos this]
    have hz : f (ix n 13) = 0 := by
      have q : (sv f n 14 = 0 ∧ sv f n 13 = 0) ∨ _ := (O.2.2 n hn).2.2.2.2.2.2.1
      rcases q with ⟨-, q⟩ | ⟨-, q1, q2, -⟩
      · exact q
      · have m1 : isMem f n = true := decide_eq_true q1
        have m2 : isSt f n = false := decide_eq_false (fun z => by rw [show f (ix n 4) = 0 from q2] at z; exact absurd z (by decide))
        unfold isGo at hg
        rw [m1, m2] at hg
        exact absurd hg (by decide)
    rw [ecs, elk]
    have ecz : cellSum f 0 (n + 1) = cellSum f 0 n := by rw [cellSum_s, hz, Int64.add_zero]
    exact ⟨S, O1, l1, l2, l3, fun s h1 h2 => l5 s (by omega) h2, by rw [ecz]; exact ex, yn, cn, ey, by rw [ecz]; exact ec, by rw [ecnt]; exact hb, hdp⟩
  | true =>
    rw [hg, if_pos rfl] at ecnt
    rw [hg] at hgo
    have m1 : isMem φ n = true ∧ isSt φ n = false := by
      unfold isGo at hg
      rw [← hm, ← hs] at hg
      cases q1 : isMem φ n <;> cases q2 : isSt φ n <;> rw [q1, q2] at hg <;> first | exact ⟨rfl, rfl⟩ | exact absurd hg (by decide)
    have ecs : coS A n (g, x) = ((rPif g A (A + 5 + 2 + n) (lN (p - c))).2, x + (lN c + (rPif g A (A + 5 + 2 + n) (lN (p - c))).1)) := by
      unfold coS
      dsimp only
      rw [if_pos hgo, e13, epg, lN_sub (by omega)]
    rw [ecs]
    have ecc := hcs c ecl
    by_cases hcp : c = p
    · -- paid in full
      subst hcp
      rw [Nat.sub_self]
      have er : rPif g A (A + 5 + 2 + n) (lN 0) = (0, g) := by unfold rPif; rw [if_neg (by decide)]
      have elk : lkS n (φ, y) = (φ, y) := by
        unfold lkS
        dsimp only
        rw [if_neg (show ¬ isPl φ n = false by rw [isPl_1 h4', m1.1]; decide), if_neg (show ¬ isSt φ n = true by rw [m1.2]; decide), if_pos]
        rw [ep', l3 n hn 13 (by decide) (by decide) (by decide) (by decide) (by decide), ecl, lN_sub (Nat.le_refl _), Nat.sub_self]
        rfl
      rw [er, elk]
      refine ⟨S, O1, l1, l2, l3, fun s h1 h2 => l5 s (by omega) h2, ?_, yn, cn + c, ey, ecc, ?_, hdp⟩
      · dsimp only
        rw [ex, cellSum_s, ecl, Int64.add_zero, Int64.add_assoc]
      · rw [ecnt, Nat.add_mul, Nat.one_mul]
        omega
    · obtain ⟨d5, hd5, ed5⟩ := (O.2.2 n hn).2.2.2.1
      obtain ⟨d6, hd6, ed6⟩ := (O.2.2 n hn).2.2.2.2.1
      have kk : (K + 1) * 10000000 = K * 10000000 + 10000000 := Nat.succ_mul _ _
      obtain ⟨m, ψ, hm, elk, er, S2, O2, fr, fd⟩ := lk_step (y := y) S O1 hn h4' hK m1.1 m1.2 ep' hp ((l3 n hn 13 (by decide) (by decide) (by decide) (by decide) (by decide)).trans ecl) (by omega) ((l5 n (Nat.le_refl _) hn).1.trans ed5) ((l5 n (Nat.le_refl _) hn).2.trans ed6) (by omega) (by omega)
      rw [elk, er]
      have frl : ∀ k, k < 13 → ψ k = φ k := fun k hk => fr k (fun s _ => (ix_low hk).symm) (ix_low hk).symm (ix_low hk).symm (ix_low hk).symm
      have frh : ∀ k, 1033 ≤ k → ψ k = φ k := fun k hk => by
        have q5 := ix_lt2 hn (show 5 < 17 by decide)
        have q6 := ix_lt2 hn (show 6 < 17 by decide)
        have q12 := ix_lt2 hn (show 12 < 17 by decide)
        exact fr k (fun s hs => by have := ix_lt2 hs (show 7 < 17 by decide); omega) (by omega) (by omega) (by omega)
      have frs : ∀ s j, j < 17 → j ≠ 7 → (s ≠ n ∨ (j ≠ 5 ∧ j ≠ 6 ∧ j ≠ 12)) → ψ (ix s j) = φ (ix s j) := fun s j hj h7 hor => fr _ (fun t _ z => h7 (ix_inj hj (by decide) z).2)
        (fun z => by have := ix_inj hj (by decide) z; omega) (fun z => by have := ix_inj hj (by decide) z; omega) (fun z => by have := ix_inj hj (by decide) z; omega)
      refine ⟨S2, O2, fun k hk => (frl k hk).trans (l1 k hk), fun k hk => (frh k hk).trans (l2 k hk), fun s hs2 j hj a5 a6 a7 a12 => (frs s j hj a7 (Or.inr ⟨a5, a6, a12⟩)).trans (l3 s hs2 j hj a5 a6 a7 a12), later ψ (fun s h1 h2 => ⟨frs s 5 (by decide) (by decide) (Or.inl (by omega)), frs s 6 (by decide) (by decide) (Or.inl (by omega))⟩), ?_, yn + m, cn + c, ?_, ecc, ?_, fd _ hdp⟩
      · dsimp only
        rw [ex, cellSum_s, ecl, Int64.add_assoc, Int64.add_assoc, Int64.add_comm (cellSum f 0 n), Int64.add_comm (cellSum f 0 n), Int64.add_comm (lN c) (lN m), ← Int64.add_assoc, ← Int64.add_assoc, ← Int64.add_assoc, ← Int64.add_assoc]
      · dsimp only
        rw [ey, lN_add]
      · rw [ecnt, Nat.add_mul, Nat.one_mul]
        omega
theorem lacks_eq : lacks f 60 = itr lkS 60 (f, 0) := rfl
theorem so_collect {p : Nat} (S : Sm h A (A + 5) f) (O : Ok K f) (h4 : f 4 = 1) (hK : K + 1 ≤ 600) (ep : f 1 = lN p) (hp : p ≤ 9999999) (N : Nat) (hN : N ≤ 60) : CoR A K p f N (itr (coS A) N (h, 0)) (itr lkS N (f, 0)) :=
  itr_sim (p := coS A) (q := lkS) (x := (h, 0)) (y := (f, 0)) (R := CoR A K p f) N ⟨S, O.mono (Nat.le_succ _), fun _ _ => rfl, fun _ _ => rfl, fun _ _ _ _ _ _ _ _ => rfl, fun _ _ _ => ⟨rfl, rfl⟩, rfl, 0, 0, rfl, rfl, Nat.zero_le _, fun s hs => (O.2.2 s hs).2.2.2.2.2.1⟩ (fun n hn a b I => co_step O h4 hK ep hp (by omega) I)
end

