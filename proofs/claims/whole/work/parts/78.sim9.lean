/-! the opening -/
def opA (n : Nat) (f : Fl) : Fl := if ¬ (f (ix n 2)).toInt32 = -1 ∧ (isMem f n = false ∨ ¬ f (ix (f (ix n 2)).toInt.toNat 0) = 4) then upF f (ix n 2) (-1) else f
def opB (n : Nat) (f : Fl) : Fl := upF f (ix n 12) (if isMem f n then 1 else 0)
theorem opS_AB (n : Nat) (f : Fl) : opS n f = opB n (opA n f) := rfl
theorem itr_zero {σ : Type} {step : Nat → σ → σ} {x : σ} : itr step 0 x = x := rfl
theorem itr_succ {σ : Type} {step : Nat → σ → σ} {n : Nat} {x : σ} : itr step (n + 1) x = step n (itr step n x) := rfl
section
variable {h : Hp} {A K : Nat} {f : Fl}
theorem opA_B {n m : Nat} : opA n (opB m f) = opB m (opA n f) := by
  have r : ∀ k j, j ≠ 12 → j < 17 → opB m f (ix k j) = f (ix k j) := fun k j hj hj2 => upF_n _ _ (fun z => hj (ix_inj hj2 (by decide) z).2)
  have r0 : ∀ k, isMem (opB m f) k = isMem f k := fun k => isMem_cong (r k 0 (by decide) (by decide))
  have rA : isMem (opA n f) m = isMem f m := by
    unfold opA
    split
    · exact isMem_cong (upF_n _ _ (fun z => absurd (ix_inj (by decide) (by decide) z).2 (by decide)))
    · rfl
  unfold opA
  rw [r n 2 (by decide) (by decide), r0, r _ 0 (by decide) (by decide)]
  have rA2 := rA
  unfold opA at rA2
  split
  · rename_i hc
    rw [if_pos hc] at rA2
    unfold opB
    rw [rA2]
    exact upF_comm _ _ _ (fun z => absurd (ix_inj (by decide) (by decide) z).2 (by decide))
  · rfl
theorem opA_Bs {n : Nat} : ∀ N, opA n (itr opB N f) = itr opB N (opA n f) := by
  intro N
  induction N with
  | zero => rfl
  | succ N ih =>
    show opA n (opB N (itr opB N f)) = opB N (itr opB N (opA n f))
    rw [opA_B, ih]
theorem opS_split : ∀ N, itr opS N f = itr opB N (itr opA N f) := by
  intro N
  induction N with
  | zero => rw [itr_zero, itr_zero (step := opB), itr_zero (step := opA)]
  | succ N ih =>
    rw [itr_succ, itr_succ (step := opB), itr_succ (step := opA), ih, opS_AB, opA_Bs]
theorem opS_low {n j : Nat} {x : Int64} (hj : j < 13) : opS n (upF f j x) = upF (opS n f) j x := by
  have r : ∀ k i, upF f j x (ix k i) = f (ix k i) := fun k i => upF_n _ _ (ix_low hj)
  have r0 : ∀ k, isMem (upF f j x) k = isMem f k := fun k => isMem_cong (r k 0)
  have eA : opA n (upF f j x) = upF (opA n f) j x := by
    unfold opA
    rw [r, r0, r]
    split
    · exact upF_comm _ _ _ (ix_low hj).symm
    · rfl
  rw [opS_AB, opS_AB, eA]
  unfold opB
  rw [isMem_cong (show upF (opA n f) j x (ix n 0) = opA n f (ix n 0) from upF_n _ _ (ix_low hj))]
  exact upF_comm _ _ _ (ix_low hj).symm
theorem opS_lows {j : Nat} {x : Int64} (hj : j < 13) : ∀ N, itr opS N (upF f j x) = upF (itr opS N f) j x := by
  intro N
  induction N with
  | zero => rfl
  | succ N ih =>
    show opS N (itr opS N (upF f j x)) = upF (opS N (itr opS N f)) j x
    rw [ih, opS_low hj]
/-- what the opening leaves, number by number -/
theorem opS_val (hsu : suOK f) : ∀ N, (∀ k, (∀ s, s < N → k ≠ ix s 2 ∧ k ≠ ix s 12) → itr opS N f k = f k) ∧ ∀ s, s < N → itr opS N f (ix s 12) = (if isMem f s then 1 else 0) ∧ (itr opS N f (ix s 2) = -1 ∨ itr opS N f (ix s 2) = f (ix s 2)) := by
  intro N
  induction N with
  | zero => exact ⟨fun _ _ => rfl, fun s hs => absurd hs (Nat.not_lt_zero _)⟩
  | succ N ih =>
    obtain ⟨i1, i2⟩ := ih
    have m0 : ∀ s, itr opS N f (ix s 0) = f (ix s 0) := fun s => i1 _ (fun t _ => ⟨fun z => absurd (ix_inj (by decide) (by decide) z).2 (by decide), fun z => absurd (ix_inj (by decide) (by decide) z).2 (by decide)⟩)
    have o2 : itr opS N f (ix N 2) = f (ix N 2) := i1 _ (fun t ht => ⟨fun z => by have := (ix_inj (by decide) (by decide) z).1; omega, fun z => absurd (ix_inj (by decide) (by decide) z).2 (by decide)⟩)
    show (∀ k, (∀ s, s < N + 1 → k ≠ ix s 2 ∧ k ≠ ix s 12) → opS N (itr opS N f) k = f k) ∧ ∀ s, s < N + 1 → opS N (itr opS N f) (ix s 12) = (if isMem f s then 1 else 0) ∧ (opS N (itr opS N f) (ix s 2) = -1 ∨ opS N (itr opS N f) (ix s 2) = f (ix s 2))
    generalize itr opS N f = φ at i1 i2 m0 o2 ⊢
    have a1 : ∀ k, k ≠ ix N 2 → opA N φ k = φ k := fun k hk => by
      unfold opA
      split
      · exact upF_n _ _ hk
      · rfl
    have am : isMem (opA N φ) N = isMem f N := isMem_cong ((a1 _ (fun z => absurd (ix_inj (by decide) (by decide) z).2 (by decide))).trans (m0 N))
    have a2 : opA N φ (ix N 2) = -1 ∨ opA N φ (ix N 2) = f (ix N 2) := by
      unfold opA
      split
      · exact Or.inl (upF_s _ _ _)
      · exact Or.inr o2
    have b1 : ∀ k, k ≠ ix N 12 → opS N φ k = opA N φ k := fun k hk => by rw [opS_AB]; exact upF_n _ _ hk
    refine ⟨fun k hk => ?_, fun s hs => ?_⟩
    · rw [b1 k (hk N (by omega)).2, a1 k (hk N (by omega)).1]
      exact i1 k (fun s hs => hk s (by omega))
    · by_cases e : s = N
      · subst e
        refine ⟨?_, ?_⟩
        · rw [opS_AB]
          unfold opB
          rw [upF_s, am]
        · rw [b1 _ (fun z => absurd (ix_inj (by decide) (by decide) z).2 (by decide))]
          exact a2
      · rw [b1 (ix s 12) (fun z => e (ix_inj (by decide) (by decide) z).1), b1 (ix s 2) (fun z => absurd (ix_inj (by decide) (by decide) z).2 (by decide)), a1 _ (fun z => absurd (ix_inj (by decide) (by decide) z).2 (by decide)), a1 _ (fun z => e (ix_inj (by decide) (by decide) z).1)]
        exact i2 s (by omega)
theorem sim_ds {n : Nat} (S : Sm h A (A + 5) f) (hsu : suOK f) (hn : n < 60) : Sm (dsC (A + 5) n h) A (A + 5) (opA n f) := by
  have e2 : f (ix n 2) = (h.i (A + 5 + 2 + n) 2).toInt64 := S.s hn 2 (by decide)
  unfold dsC opA
  rw [S.mem hn]
  rcases hsu n hn with z | ⟨q, hq, z⟩
  · have y : h.i (A + 5 + 2 + n) 2 = -1 := t64_em.mp (e2.symm.trans z)
    rw [if_neg (show ¬ (¬ (f (ix n 2)).toInt32 = -1 ∧ _) from fun w => w.1 (by rw [z]; decide)), y, show sN (-1 : Int32) = none by decide, Bool.and_false, if_neg (by decide)]
    have S1 := S.i2 (v := -1) hn
    rw [upF_same f (show f (ix n 2) = (-1 : Int32).toInt64 from z)] at S1
    exact S1
  · have y : h.i (A + 5 + 2 + n) 2 = nI q := (t64_n (by omega)).mp (e2.symm.trans z)
    have ys : sN (nI q) = some q := by
      rcases sN_cases (nI q) with ⟨e, hh⟩ | ⟨m, hm, e1, e⟩
      · exact absurd ⟨nI_pos' (by omega), nI_lt (a := q) (b := 60) hq (by decide)⟩ hh
      · rw [e, (nI_eq (by omega) (by omega)).mp e1]
    have e0 : f (ix q 0) = (h.i (A + 5 + 2 + q) 0).toInt64 := S.s hq 0 (by decide)
    rw [y, ys, z, lN_i, lN_nat (by omega)]
    dsimp only
    have e4 : f (ix q 0) = 4 ↔ h.i (A + 5 + 2 + q) 0 = 4 := by rw [e0]; exact t64_e4
    by_cases hc : isMem f n = true ∧ f (ix q 0) = 4
    · rw [if_pos (by rw [hc.1, decide_eq_true (e4.mp hc.2)]; rfl), if_neg (fun w => w.2.elim (fun a => by rw [hc.1] at a; cases a) (fun a => a hc.2))]
      exact S
    · have hneg : ¬ (isMem f n && decide (h.i (A + 5 + 2 + q) 0 = 4)) = true := fun w => hc (by
        rw [Bool.and_eq_true, decide_eq_true_eq] at w
        exact ⟨w.1, e4.mpr w.2⟩)
      have hpos : ¬ nI q = -1 ∧ (isMem f n = false ∨ ¬ f (ix q 0) = 4) := ⟨nI_ne hq, by
        cases hm : isMem f n with
        | false => exact Or.inl rfl
        | true => exact Or.inr (fun w => hc ⟨hm, w⟩)⟩
      rw [if_neg hneg, if_pos hpos]
      exact S.i2 (v := -1) hn
theorem suOK_A {n : Nat} (hsu : suOK f) : suOK (opA n f) := by
  intro s hs
  unfold opA
  split
  · by_cases e : s = n
    · subst e; rw [upF_s]; exact Or.inl rfl
    · rw [upF_n _ _ (fun z => e (ix_inj (by decide) (by decide) z).1)]; exact hsu s hs
  · exact hsu s hs
theorem sim_dsL (S : Sm h A (A + 5) f) (hsu : suOK f) (N : Nat) (hN : N ≤ 60) : Sm (itr (dsC (A + 5)) N h) A (A + 5) (itr opA N f) := by
  have I := itr_sim (p := dsC (A + 5)) (q := opA) (x := h) (y := f) (R := fun _ g φ => Sm g A (A + 5) φ ∧ suOK φ) N ⟨S, hsu⟩ (fun n hn g φ I => ⟨sim_ds I.1 I.2 (by omega), suOK_A I.2⟩)
  exact I.1
theorem sim_bgL {φ : Fl} (S : Sm h A (A + 5) φ) (N : Nat) (hN : N ≤ 60) : Sm (itr (bgS (A + 5)) N h) A (A + 5) (itr opB N φ) :=
  itr_sim (p := bgS (A + 5)) (q := opB) (x := h) (y := φ) (R := fun _ g φ => Sm g A (A + 5) φ) N S (fun n hn g φ I => by
    unfold bgS opB
    rw [I.mem (by omega), show (if isMem φ n then (1 : Int64) else 0) = (b2i (isMem φ n)).toInt64 by cases isMem φ n <;> decide]
    exact I.i5 (by omega))
theorem Ok.su (O : Ok K f) : suOK f := fun s hs => (O.2.2 s hs).2.1
theorem so_open (S : Sm h A (A + 5) f) (O : Ok K f) : (rBeg h A).1 = (fOpen f).1 ∧ Sm (rBeg h A).2 A (A + 5) (fOpen f).2 ∧ Ok (K + 1) (fOpen f).2 := by
  have O1 : Ok (K + 1) f := O.mono (Nat.le_succ _)
  have e4 : f 4 = 0 ↔ h.i (A + 5) 1 = 0 := by rw [show f 4 = (h.i (A + 5) 1).toInt64 from S.k 4 (by decide)]; exact t64_e0
  have ec : cMem h (A + 5) = cnt (isMem f) 60 := by
    unfold cMem
    exact cnt_cong (fun s hs => S.mem hs)
  unfold rBeg fOpen
  by_cases h4 : f 4 = 0
  · rw [if_pos (e4.mp h4), if_neg (nn h4), ec]
    have hc6 : cnt (isMem f) 60 ≤ 60 := cnt_le _ 60
    by_cases h0 : cnt (isMem f) 60 = 0
    · rw [if_pos h0, if_pos (by rw [h0]; rfl)]
      exact ⟨rfl, S, O1⟩
    · rw [if_neg h0, if_neg (nI_ne0 (by omega) (by omega)), opS_lows (by decide), opS_lows (by decide)]
      refine ⟨rfl, ?_, ?_⟩
      · have S1 := sim_dsL S O.su 60 (Nat.le_refl _)
        have S2 := sim_bgL S1 60 (Nat.le_refl _)
        rw [← opS_split] at S2
        generalize itr opS 60 f = ψ at S2 ⊢
        generalize itr (bgS (A + 5)) 60 (itr (dsC (A + 5)) 60 h) = g2 at S2 ⊢
        have S3 := (S2.b3 (v := nI (cnt (isMem f) 60))).b1 (v := 1)
        rw [upF_comm _ _ _ (by decide), nI_l (by omega)] at S3
        exact S3
      · obtain ⟨v1, v2⟩ := opS_val O.su 60
        have elow : ∀ k, k < 13 → itr opS 60 f k = f k := fun k hk => v1 k (fun s _ => ⟨(ix_low hk).symm, (ix_low hk).symm⟩)
        have ehigh : ∀ k, 1033 ≤ k → itr opS 60 f k = f k := fun k hk => v1 k (fun s hs => by have := ix_lt2 hs (show 2 < 17 by decide); have := ix_lt2 hs (show 12 < 17 by decide); omega)
        have eo : ∀ s, s < 60 → ∀ j, j < 17 → j ≠ 2 → j ≠ 12 → itr opS 60 f (ix s j) = f (ix s j) := fun s hs j hj h1 h2 => v1 _ (fun t _ => ⟨fun z => h1 (ix_inj hj (by decide) z).2, fun z => h2 (ix_inj hj (by decide) z).2⟩)
        generalize itr opS 60 f = φ at elow ehigh eo v2 ⊢
        clear v1
        have ek : ∀ k, k ≠ 4 → k ≠ 6 → upF (upF φ 4 1) 6 (lN (cnt (isMem f) 60)) k = φ k := fun k h1 h2 => by rw [upF_n _ _ h2, upF_n _ _ h1]
        have e4' : upF (upF φ 4 1) 6 (lN (cnt (isMem f) 60)) 4 = 1 := by rw [upF_n _ _ (by decide), upF_s]
        have e6' : upF (upF φ 4 1) 6 (lN (cnt (isMem f) 60)) 6 = lN (cnt (isMem f) 60) := upF_s _ _ _
        have el : ∀ k, k < 13 → k ≠ 4 → k ≠ 6 → upF (upF φ 4 1) 6 (lN (cnt (isMem f) 60)) k = f k := fun k h1 h2 h3 => (ek k h2 h3).trans (elow k h1)
        have eh : ∀ k, 1033 ≤ k → upF (upF φ 4 1) 6 (lN (cnt (isMem f) 60)) k = f k := fun k h1 => (ek k (by omega) (by omega)).trans (ehigh k h1)
        have es : ∀ s j, upF (upF φ 4 1) 6 (lN (cnt (isMem f) 60)) (ix s j) = φ (ix s j) := fun s j => ek _ (ix_low (by decide)) (ix_low (by decide))
        dsimp only
        generalize upF (upF φ 4 1) 6 (lN (cnt (isMem f) 60)) = ψ at e4' e6' el eh es ⊢
        have hm : ∀ s, s < 60 → isMem ψ s = isMem f s := fun s hs => isMem_cong ((es s 0).trans (eo s hs 0 (by decide) (by decide) (by decide)))
        refine ⟨?_, fun _ => ?_, fun s hs => ?_⟩
        · obtain ⟨a1, a2, a3, a4, a5, a6, a7, a8, a9, a10, ⟨t, t1, t2, t3⟩, ⟨u, u1, u2, u3, u4⟩⟩ := O1.1
          unfold OkL asOK loOK toD
          rw [e4', e6']
          simp only [el 0 (by decide) (by decide) (by decide), el 1 (by decide) (by decide) (by decide), el 2 (by decide) (by decide) (by decide), el 3 (by decide) (by decide) (by decide), el 5 (by decide) (by decide) (by decide), el 7 (by decide) (by decide) (by decide), el 8 (by decide) (by decide) (by decide), el 9 (by decide) (by decide) (by decide), el 10 (by decide) (by decide) (by decide), el 12 (by decide) (by decide) (by decide)]
          refine ⟨a1, a2, a3, a4, Or.inr (Or.inl trivial), ⟨0, cnt (isMem f) 60, Nat.zero_le _, hc6, (a7 h4).1, rfl⟩, fun z => absurd z (by decide), a8, a9, a10, ⟨t, t1, t2, fun k hk => ?_⟩, ⟨u, u1, u2, fun k hk => ?_, fun j k hj hk e => ?_⟩⟩
          · rw [eh _ (by omega)]; exact t3 k hk
          · rw [eh _ (by omega)]; exact u3 k hk
          · rw [eh _ (by omega), eh _ (by omega)] at e; exact u4 j k hj hk e
        · rw [e6']
          congr 1
          exact cnt_cong (fun s hs => (hm s hs).symm)
        · have hz := (O.2.2 s hs).2.2.2.2.2.2.2.2.2.2.2.2 h4
          have w : ∀ j, j < 17 → j ≠ 2 → j ≠ 12 → sv ψ s j = f (ix s j) := fun j h1 h2 h3 => (es s j).trans (eo s hs j h1 h2 h3)
          have wz : ∀ j, 3 ≤ j → j < 17 → j ≠ 12 → sv ψ s j = 0 := fun j h1 h2 h3 => (w j h2 (by omega) h3).trans (hz j h1 h2)
          have w12 : sv ψ s 12 = if isMem f s then 1 else 0 := (es s 12).trans (v2 s hs).1
          have w2 : sv ψ s 2 = -1 ∨ sv ψ s 2 = f (ix s 2) := (v2 s hs).2.imp (fun z => (es s 2).trans z) (fun z => (es s 2).trans z)
          rw [el 0 (by decide) (by decide) (by decide), el 1 (by decide) (by decide) (by decide), e4']
          have zz : ∀ j M, 3 ≤ j → j < 17 → j ≠ 12 → ∃ d, d ≤ M ∧ sv ψ s j = lN d := fun j M h1 h2 h3 => ⟨0, Nat.zero_le _, wz j h1 h2 h3⟩
          refine ⟨?_, ?_, ⟨Or.inl (wz 3 (by decide) (by decide) (by decide)), Or.inl (wz 4 (by decide) (by decide) (by decide)), ?_, Or.inl (wz 16 (by decide) (by decide) (by decide))⟩, zz 5 _ (by decide) (by decide) (by decide), zz 6 _ (by decide) (by decide) (by decide), zz 7 _ (by decide) (by decide) (by decide), Or.inl ⟨wz 14 (by decide) (by decide) (by decide), wz 13 (by decide) (by decide) (by decide)⟩, zz 15 _ (by decide) (by decide) (by decide), fun _ => wz 15 (by decide) (by decide) (by decide), fun _ => wz 9 (by decide) (by decide) (by decide), fun _ => wz 6 (by decide) (by decide) (by decide), fun z => ?_, fun z => absurd z (by decide)⟩
          · rw [w 0 (by decide) (by decide) (by decide)]
            exact (O.2.2 s hs).1
          · rcases w2 with z | z
            · exact Or.inl z
            · rw [z]; exact (O.2.2 s hs).2.1
          · rw [w12]
            cases isMem f s
            · exact Or.inl rfl
            · exact Or.inr rfl
          · rw [w12] at z
            rw [w 0 (by decide) (by decide) (by decide)]
            cases hmm : isMem f s with
            | false => rw [hmm] at z; exact absurd z (by decide)
            | true => exact ⟨by decide, of_decide_eq_true hmm⟩
  · rw [if_neg (fun z => h4 (e4.mpr z)), if_pos h4]
    exact ⟨rfl, S, O1⟩
end

