/-! an open ring: bidding, asking, saying yes, replacing -/
section
variable {h : Hp} {A K : Nat} {f : Fl}
/-- what keeps a place from wishing to draw -/
theorem wi_cases {k : Nat} (S : Sm h A (A + 5) f) (O : Ok K f) (hk : k < 4) (s : Int32) :
    (¬ agK f (lN k) = 0 ∧ rWhy h A s (nI k) = agK f (lN k)) ∨ (agK f (lN k) = 0 ∧ ¬ ag f (sN s) = 0 ∧ rWhy h A s (nI k) = ag f (sN s)) ∨
    ∃ n, n < 60 ∧ s = nI n ∧ sN s = some n ∧ f 0 = lN k ∧ f 4 = 1 ∧ bPl h (A + 5) s = some (A + 5 + 2 + n) ∧ isMem f n = true ∧ agK f (lN k) = 0 ∧ ag f (sN s) = 0 ∧ ((f (ix n 3) = 1 ∧ rWhy h A s (nI k) = 8) ∨ (¬ f (ix n 3) = 1 ∧ rWhy h A s (nI k) = 0)) := by
  have e0 : f 0 = lN k ↔ h.i A 0 = nI k := by rw [show f 0 = (h.i A 0).toInt64 from S.k 0 (by decide)]; exact t64_n (by omega)
  unfold agK rWhy
  rcases pl_cases S O s with ⟨c1, c2, c3⟩ | ⟨c1, c2, c3, c4⟩ | ⟨n, hn, hse, hso, c1, c2, c3, c4, d⟩
  · left
    rw [if_neg c1, if_pos c2]
    exact ⟨by decide, rfl⟩
  · rw [if_pos c1, if_neg (nn c2), c3]
    by_cases h0 : f 0 = lN k
    · right; left
      rw [if_neg (nn h0), if_pos (e0.mp h0), c4]
      exact ⟨rfl, by decide, rfl⟩
    · left
      rw [if_pos h0, if_neg (fun z => h0 (e0.mpr z))]
      exact ⟨by decide, rfl⟩
  · rw [if_pos c1, if_neg (nn c2), c3]
    by_cases h0 : f 0 = lN k
    · right
      rw [if_neg (nn h0), if_pos (e0.mp h0)]
      rcases d with ⟨d1, d2, d3⟩ | ⟨d1, d2, d3⟩
      · right
        dsimp only
        rw [if_pos d1, d3]
        have e3 : f (ix n 3) = (h.i (A + 5 + 2 + n) 3).toInt64 := S.s hn 3 (by decide)
        refine ⟨n, hn, hse, hso, h0, c2, rfl, c4, rfl, rfl, ?_⟩
        rcases S.bit3 O hn with z | z
        · right
          rw [e3, z]
          exact ⟨by decide, rfl⟩
        · left
          rw [e3, z]
          exact ⟨by decide, rfl⟩
      · left
        dsimp only
        rw [if_neg d1, d3]
        exact ⟨rfl, by decide, rfl⟩
    · left
      rw [if_pos h0, if_neg (fun z => h0 (e0.mpr z))]
      exact ⟨by decide, rfl⟩
theorem purse_eq (S : Sm h A (A + 5) f) : h.l A 1 * (h.i (A + 5) 3).toInt64 = pur f := by
  unfold pur
  rw [show f 6 = (h.i (A + 5) 3).toInt64 from S.k 6 (by decide), show f 1 = h.l A 1 from S.k 1 (by decide), Int64.mul_comm]
theorem Ok.purB (O : Ok K f) : ∃ m, m ≤ 600000000 ∧ pur f = lN m := by
  obtain ⟨p, -, h1, h2⟩ := O.1.2.1
  obtain ⟨r, q, -, h3, -, h4⟩ := O.1.2.2.2.2.2.1
  refine ⟨q * p, ?_, by unfold pur; rw [h4, h2, lN_mul]⟩
  exact Nat.le_trans (Nat.mul_le_mul h3 h1) (by decide)
theorem so_bid {s : Int32} {b : Int64} (S : Sm h A (A + 5) f) (O : Ok K f) : (rBid h A s b).1 = (fBid f (sN s) b).1 ∧ Sm (rBid h A s b).2 A (A + 5) (fBid f (sN s) b).2 ∧ Ok (K + 1) (fBid f (sN s) b).2 := by
  have O1 : Ok (K + 1) f := O.mono (Nat.le_succ _)
  unfold rBid fBid
  have W := wi_cases (k := 2) S O (by decide) s
  rw [show lN 2 = 2 from rfl, show nI 2 = 2 from rfl] at W
  rcases W with ⟨c1, c2⟩ | ⟨c1, c2, c3⟩ | ⟨n, hn, hse, hso, c1, c2, c3, c4, c5, c6, ⟨d1, d2⟩ | ⟨d1, d2⟩⟩
  · rw [c2, if_neg c1, if_pos c1]
    exact ⟨rfl, S, O1⟩
  · rw [c3, if_neg c2, if_neg (nn c1), if_pos c2]
    exact ⟨rfl, S, O1⟩
  · rw [d2, if_neg (by decide), if_neg (nn c5), if_neg (nn c6), hso]
    dsimp only
    rw [if_pos d1]
    exact ⟨rfl, S, O1⟩
  · rw [d2, if_pos rfl, if_neg (nn c5), if_neg (nn c6), hso, c3]
    dsimp only
    rw [if_neg d1, purse_eq S]
    have hw : wn b 0 (pur f) = true ↔ ¬ (b < 0 ∨ pur f < b) := by
      unfold wn
      rw [Bool.and_eq_true, decide_eq_true_eq, decide_eq_true_eq, ← Int64.not_lt, ← Int64.not_lt]
      exact ⟨fun z y => y.elim z.1 z.2, fun z => ⟨fun y => z (Or.inl y), fun y => z (Or.inr y)⟩⟩
    by_cases hb : b < 0 ∨ pur f < b
    · rw [if_neg (fun z => hw.mp z hb), if_pos hb]
      exact ⟨rfl, S, O1⟩
    · rw [if_pos (hw.mpr hb), if_neg hb]
      refine ⟨rfl, S.l16 hn, ?_⟩
      have h4 : ¬ f 4 = 0 := by rw [c2]; decide
      refine O.ch (Nat.le_succ _) ((SeatCh.refl (n := n)).up hn (by decide)) (Or.inr Iff.rfl) (((O.2.2 n hn).up (Nat.le_succ _)).s15 h4 ?_ (fun z => absurd c1 z))
      obtain ⟨m, hm, em⟩ := O.purB
      obtain ⟨d, hd, ed⟩ := pk_lOf (fun z => hb (Or.inl z))
      refine ⟨d, ?_, ed⟩
      have : b ≤ pur f := Int64.not_lt.mp (fun z => hb (Or.inr z))
      rw [ed, em] at this
      have := (pk_lLE hd (by omega)).mp this
      omega
theorem so_yes {s : Int32} (S : Sm h A (A + 5) f) (O : Ok K f) : (rYes h A s).1 = (fYes f (sN s)).1 ∧ Sm (rYes h A s).2 A (A + 5) (fYes f (sN s)).2 ∧ Ok (K + 1) (fYes f (sN s)).2 := by
  have O1 : Ok (K + 1) f := O.mono (Nat.le_succ _)
  have e0 : f 0 = 3 ↔ h.i A 0 = 3 := by rw [show f 0 = (h.i A 0).toInt64 from S.k 0 (by decide)]; exact t64_e3
  have e9 : f 9 = -1 ↔ h.i (A + 5) 5 = -1 := by rw [show f 9 = (h.i (A + 5) 5).toInt64 from S.k 9 (by decide)]; exact t64_em
  unfold rYes fYes agK
  rcases pl_cases S O s with ⟨c1, c2, c3⟩ | ⟨c1, c2, c3, c4⟩ | ⟨n, hn, hse, hso, c1, c2, c3, c4, d⟩
  · rw [if_neg c1, if_pos c2, if_pos (by decide)]
    exact ⟨rfl, S, O1⟩
  · rw [if_pos c1, if_neg (nn c2), c3]
    by_cases h0 : f 0 = 3
    · rw [if_pos (e0.mp h0), if_neg (nn h0), if_neg (by decide)]
      unfold ag at c4
      rw [if_neg (nn c2)] at c4
      rcases sN_cases s with ⟨hso, hsn⟩ | ⟨n, hn, hse, hso⟩ <;> rw [hso] at c4 ⊢ <;> dsimp only at c4 ⊢
      · exact ⟨rfl, S, O1⟩
      · by_cases hp : isPl f n = false
        · rw [if_pos hp]
          exact ⟨rfl, S, O1⟩
        · rw [if_neg hp] at c4
          split at c4 <;> exact absurd c4 (by decide)
    · rw [if_neg (fun z => h0 (e0.mpr z)), if_pos h0, if_pos (by decide)]
      exact ⟨rfl, S, O1⟩
  · rw [if_pos c1, if_neg (nn c2), c3]
    by_cases h0 : f 0 = 3
    · rw [if_pos (e0.mp h0), if_neg (nn h0), if_neg (by decide), hso]
      dsimp only
      rw [if_neg (show ¬ isPl f n = false by rw [isPl_1 c2, c4]; decide)]
      by_cases h9 : f 9 = -1
      · rw [if_pos h9, if_pos (e9.mp h9)]
        exact ⟨rfl, S, O1⟩
      · rw [if_neg h9, if_neg (fun z => h9 (e9.mpr z))]
        rcases d with ⟨d1, d2, d3⟩ | ⟨d1, d2, d3⟩
        · rw [if_pos d1, d2, if_neg (show ¬ false = true by decide)]
          have e3 : f (ix n 3) = (h.i (A + 5 + 2 + n) 3).toInt64 := S.s hn 3 (by decide)
          have e16 : f (ix n 16) = (h.i (A + 5 + 2 + n) 17).toInt64 := S.s hn 16 (by decide)
          rcases S.bit3 O hn with z | z
          · rw [if_neg (nn z), if_neg (show ¬ f (ix n 3) = 1 by rw [e3, z]; decide)]
            rcases S.bit17 O hn with y | y
            · rw [if_pos y, if_neg (show ¬ f (ix n 16) = 1 by rw [e16, y]; decide)]
              have h4 : ¬ f 4 = 0 := by rw [c2]; decide
              exact ⟨rfl, S.i17 (v := 1) hn, O.ch (Nat.le_succ _) ((SeatCh.refl (n := n)).up hn (by decide)) (Or.inr Iff.rfl) (((O.2.2 n hn).up (Nat.le_succ _)).s16 h4 (Or.inr rfl))⟩
            · rw [if_neg (by rw [y]; decide), if_pos (show f (ix n 16) = 1 by rw [e16, y]; decide)]
              exact ⟨rfl, S, O1⟩
          · rw [if_pos (by rw [z]; decide), if_pos (show f (ix n 3) = 1 by rw [e3, z]; decide)]
            exact ⟨rfl, S, O1⟩
        · rw [if_neg d1, d2, if_pos rfl]
          exact ⟨rfl, S, O1⟩
    · rw [if_neg (fun z => h0 (e0.mpr z)), if_pos h0, if_pos (by decide)]
      exact ⟨rfl, S, O1⟩
theorem so_replace {s w : Int32} (S : Sm h A (A + 5) f) (O : Ok K f) : (rRep h A s w).1 = (fReplace f (sN s) w).1 ∧ Sm (rRep h A s w).2 A (A + 5) (fReplace f (sN s) w).2 ∧ Ok (K + 1) (fReplace f (sN s) w).2 := by
  have O1 : Ok (K + 1) f := O.mono (Nat.le_succ _)
  unfold rRep fReplace
  rcases pl_cases S O s with ⟨c1, c2, c3⟩ | ⟨c1, c2, c3, c4⟩ | ⟨n, hn, hse, hso, c1, c2, c3, c4, ⟨d1, d2, d3⟩ | ⟨d1, d2, d3⟩⟩
  · rw [if_neg c1, c3, if_pos (by decide)]
    exact ⟨rfl, S, O1⟩
  · rw [if_pos c1, c3, c4, if_pos (by decide)]
    exact ⟨rfl, S, O1⟩
  · rw [if_pos c1, c3, d3, if_neg (by decide), if_pos rfl]
    dsimp only
    rw [if_pos d1]
    exact ⟨rfl, S, O1⟩
  · rw [if_pos c1, c3, d3, if_neg (by decide), if_neg (by decide), hso]
    dsimp only
    rw [if_neg d1]
    by_cases hw : w < 2 ∨ 4 < w
    · rw [if_neg (fun z => wn24.mp z hw), if_pos hw]
      exact ⟨rfl, S, O1⟩
    · rw [if_pos (wn24.mpr hw), if_neg hw]
      have h4 : ¬ f 4 = 0 := by rw [c2]; decide
      have hf4 : 0 < f 4 := by rw [c2]; decide
      have hv : OkV (K + 1) (f 0) (f 1) (f 4) (sv f n) := (O.2.2 n hn).up (Nat.le_succ _)
      have hz : sv f n 14 = 0 ∧ sv f n 13 = 0 := hv.z4 (fun z => by
        have y : isSt f n = true := d2
        unfold isSt at y
        have y := of_decide_eq_true y
        rw [show f (ix n 4) = 0 from z] at y
        exact absurd y (by decide))
      obtain ⟨m, hm2, hm4, ew⟩ := nI_rng (a := 2) (b := 4) rfl rfl (by decide) (by decide) hw
      have hw2 : 2 ≤ w.toInt64 := by rw [ew, nI_l (by omega)]; exact (pk_lLE (a := 2) (by decide) (by omega)).mpr hm2
      have z0 : ∀ M, ∃ d, d ≤ M ∧ (0 : Int64) = lN d := fun M => ⟨0, Nat.zero_le _, rfl⟩
      refine ⟨rfl, ((((((S.i0 hn).i4 (v := 0) hn).l7 hn).l9 hn).l10 hn).l11 hn).l12 hn, ?_⟩
      have C := (((((((SeatCh.refl (f := f) (n := n)).up (j := 0) (x := w.toInt64) hn (by decide)).up (j := 4) (x := 0) hn (by decide)).up (j := 6) (x := 0) hn (by decide)).up (j := 8) (x := 0) hn (by decide)).up (j := 9) (x := 0) hn (by decide)).up (j := 10) (x := 0) hn (by decide)).up (j := 11) (x := 0) hn (by decide)
      refine O.ch (Nat.le_succ _) C (Or.inr ⟨fun _ => of_decide_eq_true c4, fun _ => hw2⟩) ?_
      have v1 := hv.s0 (x := w.toInt64) h4 ⟨m, hm4, by rw [ew, nI_l (by omega)]⟩ hw2 hf4 hz
      have v2 := v1.s4 (x := 0) h4 (Or.inl rfl) hz
      have v3 := v2.s6 (x := 0) h4 (z0 _) (fun _ => rfl)
      have v4 := v3.s8 (x := 0) h4
      have v5 := v4.s9 (x := 0) h4 (fun _ => rfl)
      have v6 := v5.s10 (x := 0) h4
      exact v6.s11 (x := 0) h4
end

