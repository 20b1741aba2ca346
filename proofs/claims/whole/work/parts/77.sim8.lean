/-! an open ring: calls that go over all places; the opening -/
section
variable {h : Hp} {A K : Nat} {f : Fl}
theorem sim_back {n : Nat} (S : Sm h A (A + 5) f) (hn : n < 60) : Sm (pBack h (A + 5 + 2 + n)) A (A + 5) (cbS n f) := by
  unfold pBack pEmp cbS
  have e8 : f (ix n 8) = h.l (A + 5 + 2 + n) 9 := S.s hn 8 (by decide)
  have e13 : f (ix n 13) = (h.i (A + 5 + 2 + n) 13).toInt64 := S.s hn 13 (by decide)
  rw [e8, e13, ← Int64.sub_eq_add_neg]
  have S1 := (S.l9 (v := h.l (A + 5 + 2 + n) 9 - (h.i (A + 5 + 2 + n) 13).toInt64) hn).i13 (v := 0) hn
  have S2 := S1.h14 (v := 0) hn (Or.inl rfl)
  have S3 := S2.h15 (v := 0) hn (Or.inl rfl)
  rw [upF_upF] at S3
  have q : ((((h.setL (A + 5 + 2 + n) 9 (h.l (A + 5 + 2 + n) 9 - (h.i (A + 5 + 2 + n) 13).toInt64)).setI (A + 5 + 2 + n) 13 0).setI (A + 5 + 2 + n) 14 0).i (A + 5 + 2 + n) 14).toInt64 + 2 * (0 : Int32).toInt64 = 0 := by
    rw [show (((h.setL (A + 5 + 2 + n) 9 (h.l (A + 5 + 2 + n) 9 - (h.i (A + 5 + 2 + n) 13).toInt64)).setI (A + 5 + 2 + n) 13 0).setI (A + 5 + 2 + n) 14 0).i (A + 5 + 2 + n) 14 = 0 from up2_s _ _ _ _]
    decide
  rw [q] at S3
  exact S3
theorem ok_back {n : Nat} (O : Ok K f) (hn : n < 60) (h4 : ¬ f 4 = 0) : Ok K (cbS n f) := by
  have C := (((SeatCh.refl (f := f) (n := n)).up (j := 8) (x := f (ix n 8) + -f (ix n 13)) hn (by decide)).up (j := 13) (x := 0) hn (by decide)).up (j := 14) (x := 0) hn (by decide)
  exact O.ch (Nat.le_refl _) C (Or.inr Iff.rfl) (((O.2.2 n hn).s8 h4).sC h4 (Or.inl ⟨rfl, rfl⟩))
theorem cbS_low {n k : Nat} (hk : k < 13) : cbS n f k = f k := by
  unfold cbS
  rw [upF_n _ _ (ix_low hk).symm, upF_n _ _ (ix_low hk).symm, upF_n _ _ (ix_low hk).symm]
theorem sim_rows (S : Sm h A (A + 5) f) (O : Ok K f) (h4 : ¬ f 4 = 0) : Sm (itr (rrC (A + 5)) 60 h) A (A + 5) (itr cbS 60 f) ∧ Ok K (itr cbS 60 f) ∧ ∀ k, k < 13 → itr cbS 60 f k = f k :=
  itr_sim (R := fun _ g φ => Sm g A (A + 5) φ ∧ Ok K φ ∧ ∀ k, k < 13 → φ k = f k) 60 ⟨S, O, fun _ _ => rfl⟩ (fun n hn g φ I => ⟨sim_back I.1 hn, ok_back I.2.1 hn (by rw [I.2.2 4 (by decide)]; exact h4), fun k hk => (cbS_low hk).trans (I.2.2 k hk)⟩)
/-- the row's number changes -/
theorem Ok.s7 {x : Int64} (O : Ok K f) (h4 : ¬ f 4 = 0) (hx : x = -1 ∨ ∃ n, n ≤ 60 ∧ x = lN n) : Ok (K + 1) (upF f 7 x) := by
  have ek : ∀ k, k ≠ 7 → upF f 7 x k = f k := fun k hk => upF_n _ _ hk
  refine O.low (Nat.le_succ _) ?_ (ek 0 (by decide)) (ek 1 (by decide)) (ek 4 (by decide)) (ek 6 (by decide)) (fun k h1 h2 => ek k (by omega))
  obtain ⟨a1, a2, a3, a4, a5, a6, a7, a8, a9, a10, ⟨t, t1, t2, t3⟩, ⟨u, u1, u2, u3, u4⟩⟩ := (O.mono (Nat.le_succ _)).1
  unfold OkL asOK loOK toD
  simp only [ek 0 (by decide), ek 1 (by decide), ek 2 (by decide), ek 3 (by decide), ek 4 (by decide), ek 5 (by decide), ek 6 (by decide), ek 8 (by decide), ek 9 (by decide), ek 10 (by decide), ek 12 (by decide), upF_s]
  refine ⟨a1, a2, a3, a4, a5, a6, fun z => absurd z h4, hx, a9, a10, ⟨t, t1, t2, fun k hk => ?_⟩, ⟨u, u1, u2, fun k hk => ?_, fun j k hj hk e => ?_⟩⟩
  · rw [ek _ (by omega)]; exact t3 k hk
  · rw [ek _ (by omega)]; exact u3 k hk
  · rw [ek _ (by omega), ek _ (by omega)] at e; exact u4 j k hj hk e
theorem left_eq (S : Sm h A (A + 5) f) (O : Ok K f) : bLeft h (A + 5) = true ↔ ¬ f 5 = f 6 := by
  obtain ⟨r, p, h1, h2, h3, h4, h5, h6⟩ := Ok.R S O
  unfold bLeft
  rw [h3, h4, h5, h6, Bool.and_eq_true, decide_eq_true_eq, decide_eq_true_eq, pk_lEQ (by omega) (by omega)]
  rw [show (60 : Int32) = nI 60 from rfl, nI_ltI (by omega) (by omega), nI_ltI (by omega) (by omega)]
  omega
theorem so_row {n : Int32} (S : Sm h A (A + 5) f) (O : Ok K f) : (rRow h A n).1 = (fRow f n).1 ∧ Sm (rRow h A n).2 A (A + 5) (fRow f n).2 ∧ Ok (K + 1) (fRow f n).2 := by
  have O1 : Ok (K + 1) f := O.mono (Nat.le_succ _)
  have e4 : f 4 = 1 ↔ h.i (A + 5) 1 = 1 := by rw [show f 4 = (h.i (A + 5) 1).toInt64 from S.k 4 (by decide)]; exact t64_e1
  unfold rRow fRow
  by_cases h1 : f 4 = 1
  · rw [if_pos (e4.mp h1), if_neg (nn h1)]
    have h4 : ¬ f 4 = 0 := by rw [h1]; decide
    by_cases h5 : f 5 = f 6
    · rw [if_pos h5, if_neg (fun z => (left_eq S O).mp z h5)]
      exact ⟨rfl, S, O1⟩
    · rw [if_neg h5, if_pos ((left_eq S O).mpr h5)]
      by_cases hw : n < 0 ∨ 60 < n
      · rw [if_neg (fun z => wn060.mp z hw), if_pos hw]
        exact ⟨rfl, S, O1⟩
      · rw [if_pos (wn060.mpr hw), if_neg hw]
        obtain ⟨S2, O2, L2⟩ := sim_rows S O h4
        unfold fRowGoes
        rw [upF_upF]
        obtain ⟨m, -, hm, e⟩ := nI_rng (a := 0) (b := 60) rfl rfl (by decide) (by decide) hw
        exact ⟨rfl, S2.b4, O2.s7 (by rw [L2 4 (by decide)]; exact h4) (Or.inr ⟨m, hm, by rw [e, nI_l (by omega)]⟩)⟩
  · rw [if_neg (fun z => h1 (e4.mpr z)), if_pos h1]
    exact ⟨rfl, S, O1⟩
theorem so_tear (S : Sm h A (A + 5) f) (O : Ok K f) : (rTear h A).1 = (fTear f).1 ∧ Sm (rTear h A).2 A (A + 5) (fTear f).2 ∧ Ok (K + 1) (fTear f).2 := by
  have O1 : Ok (K + 1) f := O.mono (Nat.le_succ _)
  have e4 : f 4 = 1 ↔ h.i (A + 5) 1 = 1 := by rw [show f 4 = (h.i (A + 5) 1).toInt64 from S.k 4 (by decide)]; exact t64_e1
  have e7 : f 7 = -1 ↔ h.i (A + 5) 4 = -1 := by rw [show f 7 = (h.i (A + 5) 4).toInt64 from S.k 7 (by decide)]; exact t64_em
  unfold rTear fTear
  by_cases h1 : f 4 = 1
  · rw [if_pos (e4.mp h1), if_neg (nn h1)]
    have h4 : ¬ f 4 = 0 := by rw [h1]; decide
    by_cases h7 : f 7 = -1
    · rw [if_pos h7, if_pos (e7.mp h7)]
      exact ⟨rfl, S, O1⟩
    · rw [if_neg h7, if_neg (fun z => h7 (e7.mpr z))]
      obtain ⟨S2, O2, L2⟩ := sim_rows S O h4
      unfold fRowGoes
      exact ⟨rfl, S2.b4 (v := -1), O2.s7 (by rw [L2 4 (by decide)]; exact h4) (Or.inl rfl)⟩
  · rw [if_neg (fun z => h1 (e4.mpr z)), if_pos h1]
    exact ⟨rfl, S, O1⟩
theorem sim_ns (S : Sm h A (A + 5) f) (O : Ok K f) (h4 : ¬ f 4 = 0) : Sm (itr (fyC (A + 5)) 60 h) A (A + 5) (itr nsS 60 f) ∧ Ok K (itr nsS 60 f) ∧ ∀ k, k < 13 → itr nsS 60 f k = f k :=
  itr_sim (R := fun _ g φ => Sm g A (A + 5) φ ∧ Ok K φ ∧ ∀ k, k < 13 → φ k = f k) 60 ⟨S, O, fun _ _ => rfl⟩ (fun n hn g φ I => ⟨I.1.i17 (v := 0) hn, I.2.1.ch (Nat.le_refl _) ((SeatCh.refl (n := n)).up hn (by decide)) (Or.inr Iff.rfl) ((I.2.1.2.2 n hn).s16 (by rw [I.2.2 4 (by decide)]; exact h4) (Or.inl rfl)), fun k hk => (upF_n _ _ (ix_low hk).symm).trans (I.2.2 k hk)⟩)
theorem ns_comm {x : Int64} : ∀ N, itr nsS N (upF f 9 x) = upF (itr nsS N f) 9 x := by
  intro N
  induction N with
  | zero => rfl
  | succ N ih =>
    show nsS N (itr nsS N (upF f 9 x)) = upF (nsS N (itr nsS N f)) 9 x
    rw [ih]
    unfold nsS
    exact upF_comm _ _ _ (ix_low (by decide)).symm
theorem Ok.s9k {x : Int64} (O : Ok K f) (h4 : ¬ f 4 = 0) (hx : x = -1 ∨ ∃ n, n < 60 ∧ x = lN n) : Ok (K + 1) (upF f 9 x) := by
  have ek : ∀ k, k ≠ 9 → upF f 9 x k = f k := fun k hk => upF_n _ _ hk
  refine O.low (Nat.le_succ _) ?_ (ek 0 (by decide)) (ek 1 (by decide)) (ek 4 (by decide)) (ek 6 (by decide)) (fun k h1 h2 => ek k (by omega))
  obtain ⟨a1, a2, a3, a4, a5, a6, a7, a8, a9, a10, ⟨t, t1, t2, t3⟩, ⟨u, u1, u2, u3, u4⟩⟩ := (O.mono (Nat.le_succ _)).1
  unfold OkL asOK loOK toD
  simp only [ek 0 (by decide), ek 1 (by decide), ek 2 (by decide), ek 3 (by decide), ek 4 (by decide), ek 5 (by decide), ek 6 (by decide), ek 8 (by decide), ek 7 (by decide), ek 10 (by decide), ek 12 (by decide), upF_s]
  refine ⟨a1, a2, a3, a4, a5, a6, fun z => absurd z h4, a8, a9, hx, ⟨t, t1, t2, fun k hk => ?_⟩, ⟨u, u1, u2, fun k hk => ?_, fun j k hj hk e => ?_⟩⟩
  · rw [ek _ (by omega)]; exact t3 k hk
  · rw [ek _ (by omega)]; exact u3 k hk
  · rw [ek _ (by omega), ek _ (by omega)] at e; exact u4 j k hj hk e
theorem so_need {s : Int32} (S : Sm h A (A + 5) f) (O : Ok K f) : (rAsk h A s).1 = (fNeed f (sN s)).1 ∧ Sm (rAsk h A s).2 A (A + 5) (fNeed f (sN s)).2 ∧ Ok (K + 1) (fNeed f (sN s)).2 := by
  have O1 : Ok (K + 1) f := O.mono (Nat.le_succ _)
  unfold rAsk fNeed
  have W := wi_cases (k := 3) S O (by decide) s
  rw [show lN 3 = 3 from rfl, show nI 3 = 3 from rfl] at W
  rcases W with ⟨c1, c2⟩ | ⟨c1, c2, c3⟩ | ⟨n, hn, hse, hso, c1, c2, c3, c4, c5, c6, ⟨d1, d2⟩ | ⟨d1, d2⟩⟩
  · rw [c2, if_neg c1, if_pos c1]
    exact ⟨rfl, S, O1⟩
  · rw [c3, if_neg c2, if_neg (nn c1), if_pos c2]
    exact ⟨rfl, S, O1⟩
  · rw [d2, if_neg (by decide), if_neg (nn c5), if_neg (nn c6), hso]
    dsimp only
    rw [if_pos d1]
    exact ⟨rfl, S, O1⟩
  · rw [d2, if_pos rfl, if_neg (nn c5), if_neg (nn c6), hso]
    dsimp only
    rw [if_neg d1, ns_comm]
    have h4 : ¬ f 4 = 0 := by rw [c2]; decide
    obtain ⟨S2, O2, L2⟩ := sim_ns S O h4
    refine ⟨rfl, ?_, O2.s9k (by rw [L2 4 (by decide)]; exact h4) (Or.inr ⟨n, hn, rfl⟩)⟩
    rw [show lN n = s.toInt64 by rw [hse, nI_l (by omega)]]
    exact S2.b5
end

