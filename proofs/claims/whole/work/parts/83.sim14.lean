/-! a round's end: the pieces that are left -/
section
variable {h : Hp} {A K : Nat} {f : Fl}
/-- only numbers of rounds kept differ -/
theorem Ok.hi {g : Fl} (O : Ok K f) (e : ∀ k, k < 1153 → g k = f k) : Ok K g := by
  refine O.low (Nat.le_refl _) ?_ (e 0 (by decide)) (e 1 (by decide)) (e 4 (by decide)) (e 6 (by decide)) (fun k h1 h2 => e k (by omega))
  obtain ⟨a1, a2, a3, a4, a5, a6, a7, a8, a9, a10, ⟨t, t1, t2, t3⟩, ⟨u, u1, u2, u3, u4⟩⟩ := O.1
  unfold OkL asOK loOK toD
  simp only [e 0 (by decide), e 1 (by decide), e 2 (by decide), e 3 (by decide), e 4 (by decide), e 5 (by decide), e 6 (by decide), e 7 (by decide), e 8 (by decide), e 9 (by decide), e 10 (by decide), e 12 (by decide)]
  refine ⟨a1, a2, a3, a4, a5, a6, a7, a8, a9, a10, ⟨t, t1, t2, fun k hk => ?_⟩, ⟨u, u1, u2, fun k hk => ?_, fun j k hj hk z => ?_⟩⟩
  · rw [e _ (by omega)]; exact t3 k hk
  · rw [e _ (by omega)]; exact u3 k hk
  · rw [e _ (by omega), e _ (by omega)] at z; exact u4 j k hj hk z
theorem Ok.q7 {x : Int64} (O : Ok K f) (h4 : ¬ f 4 = 0) (hx : x = -1 ∨ ∃ n, n ≤ 60 ∧ x = lN n) : Ok K (upF f 7 x) := by
  have ek : ∀ k, k ≠ 7 → upF f 7 x k = f k := fun k hk => upF_n _ _ hk
  refine O.low (Nat.le_refl _) ?_ (ek 0 (by decide)) (ek 1 (by decide)) (ek 4 (by decide)) (ek 6 (by decide)) (fun k h1 h2 => ek k (by omega))
  obtain ⟨a1, a2, a3, a4, a5, a6, a7, a8, a9, a10, ⟨t, t1, t2, t3⟩, ⟨u, u1, u2, u3, u4⟩⟩ := O.1
  unfold OkL asOK loOK toD
  simp only [ek 0 (by decide), ek 1 (by decide), ek 2 (by decide), ek 3 (by decide), ek 4 (by decide), ek 5 (by decide), ek 6 (by decide), ek 8 (by decide), ek 9 (by decide), ek 10 (by decide), ek 12 (by decide), upF_s]
  refine ⟨a1, a2, a3, a4, a5, a6, fun z => absurd z h4, hx, a9, a10, ⟨t, t1, t2, fun k hk => ?_⟩, ⟨u, u1, u2, fun k hk => ?_, fun j k hj hk e => ?_⟩⟩
  · rw [ek _ (by omega)]; exact t3 k hk
  · rw [ek _ (by omega)]; exact u3 k hk
  · rw [ek _ (by omega), ek _ (by omega)] at e; exact u4 j k hj hk e
theorem Ok.q9 {x : Int64} (O : Ok K f) (h4 : ¬ f 4 = 0) (hx : x = -1 ∨ ∃ n, n < 60 ∧ x = lN n) : Ok K (upF f 9 x) := by
  have ek : ∀ k, k ≠ 9 → upF f 9 x k = f k := fun k hk => upF_n _ _ hk
  refine O.low (Nat.le_refl _) ?_ (ek 0 (by decide)) (ek 1 (by decide)) (ek 4 (by decide)) (ek 6 (by decide)) (fun k h1 h2 => ek k (by omega))
  obtain ⟨a1, a2, a3, a4, a5, a6, a7, a8, a9, a10, ⟨t, t1, t2, t3⟩, ⟨u, u1, u2, u3, u4⟩⟩ := O.1
  unfold OkL asOK loOK toD
  simp only [ek 0 (by decide), ek 1 (by decide), ek 2 (by decide), ek 3 (by decide), ek 4 (by decide), ek 5 (by decide), ek 6 (by decide), ek 8 (by decide), ek 7 (by decide), ek 10 (by decide), ek 12 (by decide), upF_s]
  refine ⟨a1, a2, a3, a4, a5, a6, fun z => absurd z h4, a8, a9, hx, ⟨t, t1, t2, fun k hk => ?_⟩, ⟨u, u1, u2, fun k hk => ?_, fun j k hj hk e => ?_⟩⟩
  · rw [ek _ (by omega)]; exact t3 k hk
  · rw [ek _ (by omega)]; exact u3 k hk
  · rw [ek _ (by omega), ek _ (by omega)] at e; exact u4 j k hj hk e
theorem Ok.q3 {x : Int64} (O : Ok K f) (hx : ∃ c, c ≤ (K + 1) * 10000000000 ∧ x = lN c) : Ok K (upF f 3 x) := by
  have ek : ∀ k, k ≠ 3 → upF f 3 x k = f k := fun k hk => upF_n _ _ hk
  refine O.low (Nat.le_refl _) ?_ (ek 0 (by decide)) (ek 1 (by decide)) (ek 4 (by decide)) (ek 6 (by decide)) (fun k h1 h2 => ek k (by omega))
  obtain ⟨a1, a2, a3, a4, a5, a6, a7, a8, a9, a10, ⟨t, t1, t2, t3⟩, ⟨u, u1, u2, u3, u4⟩⟩ := O.1
  unfold OkL asOK loOK toD
  simp only [ek 0 (by decide), ek 1 (by decide), ek 2 (by decide), ek 9 (by decide), ek 4 (by decide), ek 5 (by decide), ek 6 (by decide), ek 8 (by decide), ek 7 (by decide), ek 10 (by decide), ek 12 (by decide), upF_s]
  refine ⟨a1, a2, a3, hx, a5, a6, a7, a8, a9, a10, ⟨t, t1, t2, fun k hk => ?_⟩, ⟨u, u1, u2, fun k hk => ?_, fun j k hj hk e => ?_⟩⟩
  · rw [ek _ (by omega)]; exact t3 k hk
  · rw [ek _ (by omega)]; exact u3 k hk
  · rw [ek _ (by omega), ek _ (by omega)] at e; exact u4 j k hj hk e
theorem Ok.q5 {r p : Nat} (O : Ok K f) (h4 : ¬ f 4 = 0) (h6 : f 6 = lN p) (hp : p ≤ 60) (hr : r ≤ p) : Ok K (upF f 5 (lN r)) := by
  have ek : ∀ k, k ≠ 5 → upF f 5 (lN r) k = f k := fun k hk => upF_n _ _ hk
  refine O.low (Nat.le_refl _) ?_ (ek 0 (by decide)) (ek 1 (by decide)) (ek 4 (by decide)) (ek 6 (by decide)) (fun k h1 h2 => ek k (by omega))
  obtain ⟨a1, a2, a3, a4, a5, a6, a7, a8, a9, a10, ⟨t, t1, t2, t3⟩, ⟨u, u1, u2, u3, u4⟩⟩ := O.1
  unfold OkL asOK loOK toD
  simp only [ek 0 (by decide), ek 1 (by decide), ek 2 (by decide), ek 9 (by decide), ek 4 (by decide), ek 3 (by decide), ek 6 (by decide), ek 8 (by decide), ek 7 (by decide), ek 10 (by decide), ek 12 (by decide), upF_s]
  refine ⟨a1, a2, a3, a4, a5, ⟨r, p, hr, hp, rfl, h6⟩, fun z => absurd z h4, a8, a9, a10, ⟨t, t1, t2, fun k hk => ?_⟩, ⟨u, u1, u2, fun k hk => ?_, fun j k hj hk e => ?_⟩⟩
  · rw [ek _ (by omega)]; exact t3 k hk
  · rw [ek _ (by omega)]; exact u3 k hk
  · rw [ek _ (by omega), ek _ (by omega)] at e; exact u4 j k hj hk e
/-- a number of a round kept beyond those that count -/
theorem Sm.kept {j : Nat} {v : Int64} (S : Sm h A (A + 5) f) (h60 : (h.i A 4).toNatClampNeg ≤ 60) (hL6 : (h.i (A + 5) 6).toNatClampNeg ≤ 60) (hj : 4 * (h.i (A + 5) 2).toNatClampNeg ≤ j) : Sm (h.setL (A + 3) j v) A (A + 5) (upF f (1153 + j) v) := by
  have hE : ∀ x, x ≠ A + 3 → Eq1 h (h.setL (A + 3) j v) x := fun x hx => Eq1.setL hx
  refine ⟨fun k hk => ?_, fun t ht q hq => ?_, fun k hk => ?_, fun k hk => ?_, fun k hk => ?_, fun t ht => ?_⟩
  · rw [upF_n _ _ (by omega), cb_eq (hE A (by omega)) (hE (A + 5) (by omega))]
    exact S.1 k hk
  · have := ix_lt2 ht hq
    rw [upF_n _ _ (by omega), cs_eq (hE _ (by omega))]
    exact S.2.1 t ht q hq
  · have hk : k < (h.i A 4).toNatClampNeg := hk
    rw [upF_n _ _ (by omega)]
    exact S.2.2.1 k hk
  · have hk : k < (h.i (A + 5) 6).toNatClampNeg := hk
    rw [upF_n _ _ (by omega)]
    exact S.2.2.2.1 k hk
  · have hk : k < 4 * (h.i (A + 5) 2).toNatClampNeg := hk
    rw [upF_n _ _ (by omega), show (h.setL (A + 3) j v).l (A + 3) k = h.l (A + 3) k from up2_k _ _ (by omega)]
    exact S.2.2.2.2.1 k hk
  · exact S.2.2.2.2.2 t ht
/-- one more round counts -/
theorem Sm.round {r : Nat} (S : Sm h A (A + 5) f) (hR : h.i (A + 5) 2 = nI r) (hr : r < 60) (hk : ∀ i, i < 4 → f (1153 + (r * 4 + i)) = h.l (A + 3) (r * 4 + i)) : Sm (h.setI (A + 5) 2 (nI (r + 1))) A (A + 5) (upF f 5 (lN (r + 1))) := by
  have hE : ∀ x, x ≠ A + 5 → Eq1 h (h.setI (A + 5) 2 (nI (r + 1))) x := fun x hx => Eq1.setI hx
  have hc : ∀ q, q < 13 → cb (h.setI (A + 5) 2 (nI (r + 1))) A (A + 5) q = if q = 5 then (nI (r + 1)).toInt64 else cb h A (A + 5) q := c13 (by simp [cb, Hp.setI, Hp.i, Hp.l, up2])
  have g2 : (h.setI (A + 5) 2 (nI (r + 1))).i (A + 5) 2 = nI (r + 1) := up2_s _ _ _ _
  have g6 : (h.setI (A + 5) 2 (nI (r + 1))).i (A + 5) 6 = h.i (A + 5) 6 := up2_k _ _ (by decide)
  generalize h.setI (A + 5) 2 (nI (r + 1)) = g at hE hc g2 g6 ⊢
  refine ⟨fun k hk => ?_, fun t ht q hq => ?_, fun k hk => ?_, fun k hk => ?_, fun k hk2 => ?_, fun t ht => ?_⟩
  · rw [hc k hk]
    by_cases e : k = 5
    · rw [if_pos e, e, upF_s, nI_l (by omega)]
    · rw [if_neg e, upF_n _ _ e]
      exact S.1 k hk
  · rw [upF_n _ _ (ix_low (by decide)), cs_eq (hE _ (by omega))]
    exact S.2.1 t ht q hq
  · rw [(hE A (by omega)).2.2.1] at hk
    rw [upF_n _ _ (by omega), (hE (A + 1) (by omega)).2.2.1]
    exact S.2.2.1 k hk
  · rw [g6] at hk
    rw [upF_n _ _ (by omega), (hE (A + 2) (by omega)).2.2.1]
    exact S.2.2.2.1 k hk
  · rw [g2, nI_clamp (by omega)] at hk2
    rw [upF_n _ _ (by omega), (hE (A + 3) (by omega)).2.2.2]
    by_cases hlt : k < 4 * r
    · exact S.2.2.2.2.1 k (by rw [hR, nI_clamp (by omega)]; exact hlt)
    · have z := hk (k - r * 4) (by omega)
      rwa [show r * 4 + (k - r * 4) = k by omega] at z
  · have e := hE (A + 5 + 2 + t) (by omega)
    rw [e.2.2.1, e.2.2.1]
    exact S.2.2.2.2.2 t ht
/-- the cells emptied, the bids and the yes forgotten -/
def frN (n : Nat) (f : Fl) : Fl := nsS n (frS n f)
theorem fr_comm {n m : Nat} : frS n (nsS m f) = nsS m (frS n f) := by
  unfold frS nsS
  have c13 : ix m 16 ≠ ix n 13 := fun z => absurd (ix_inj (by decide) (by decide) z).2 (by decide)
  have c14 : ix m 16 ≠ ix n 14 := fun z => absurd (ix_inj (by decide) (by decide) z).2 (by decide)
  have c15 : ix m 16 ≠ ix n 15 := fun z => absurd (ix_inj (by decide) (by decide) z).2 (by decide)
  rw [upF_comm f _ _ c13, upF_comm _ _ _ c14, upF_comm _ _ _ c15]
theorem fr_comms {n : Nat} : ∀ N, frS n (itr nsS N f) = itr nsS N (frS n f) := by
  intro N
  induction N with
  | zero => rfl
  | succ N ih => rw [itr_succ, fr_comm, ih, itr_succ]
theorem frN_split : ∀ N, itr frN N f = itr nsS N (itr frS N f) := by
  intro N
  induction N with
  | zero => rw [itr_zero, itr_zero (step := nsS), itr_zero (step := frS)]
  | succ N ih => rw [itr_succ, itr_succ (step := nsS), itr_succ (step := frS), ih]; unfold frN; rw [fr_comms]
theorem sim_frN {n : Nat} (S : Sm h A (A + 5) f) (hn : n < 60) : Sm (frC (A + 5) n h) A (A + 5) (frN n f) := by
  unfold frC frN nsS frS pEmp
  have S1 := S.i13 (v := 0) hn
  have S2 := S1.h14 (v := 0) hn (Or.inl rfl)
  have S3 := S2.h15 (v := 0) hn (Or.inl rfl)
  rw [upF_upF] at S3
  have q : (((h.setI (A + 5 + 2 + n) 13 0).setI (A + 5 + 2 + n) 14 0).i (A + 5 + 2 + n) 14).toInt64 + 2 * (0 : Int32).toInt64 = 0 := by
    rw [show ((h.setI (A + 5 + 2 + n) 13 0).setI (A + 5 + 2 + n) 14 0).i (A + 5 + 2 + n) 14 = 0 from up2_s _ _ _ _]
    decide
  rw [q] at S3
  exact (S3.l16 hn).i17 (v := 0) hn
theorem ok_frN {n : Nat} (O : Ok K f) (hn : n < 60) (h4 : ¬ f 4 = 0) : Ok K (frN n f) := by
  have C := ((((SeatCh.refl (f := f) (n := n)).up (j := 13) (x := 0) hn (by decide)).up (j := 14) (x := 0) hn (by decide)).up (j := 15) (x := 0) hn (by decide)).up (j := 16) (x := 0) hn (by decide)
  exact O.ch (Nat.le_refl _) C (Or.inr Iff.rfl) ((((O.2.2 n hn).sC h4 (Or.inl ⟨rfl, rfl⟩)).s15 h4 ⟨0, Nat.zero_le _, rfl⟩ (fun _ => rfl)).s16 h4 (Or.inl rfl))
theorem frN_out {n k : Nat} (hn : n < 60) (hk : k < 13 ∨ 1033 ≤ k) : frN n f k = f k := by
  have q : ∀ j, j < 17 → k ≠ ix n j := fun j hj => hk.elim (fun z => (ix_low z).symm) (fun z => by have := ix_lt2 hn hj; omega)
  unfold frN nsS frS
  rw [upF_n _ _ (q 16 (by decide)), upF_n _ _ (q 15 (by decide)), upF_n _ _ (q 14 (by decide)), upF_n _ _ (q 13 (by decide))]
theorem sim_frL (S : Sm h A (A + 5) f) (O : Ok K f) (h4 : ¬ f 4 = 0) (N : Nat) (hN : N ≤ 60) : Sm (itr (frC (A + 5)) N h) A (A + 5) (itr frN N f) ∧ Ok K (itr frN N f) ∧ (∀ k, (k < 13 ∨ 1033 ≤ k) → itr frN N f k = f k) ∧ (itr (frC (A + 5)) N h).l (A + 3) = h.l (A + 3) :=
  itr_sim (p := frC (A + 5)) (q := frN) (x := h) (y := f) (R := fun _ g φ => Sm g A (A + 5) φ ∧ Ok K φ ∧ (∀ k, (k < 13 ∨ 1033 ≤ k) → φ k = f k) ∧ g.l (A + 3) = h.l (A + 3)) N ⟨S, O, fun _ _ => rfl, rfl⟩ (fun n hn g φ I => ⟨sim_frN I.1 (by omega), ok_frN I.2.1 (by omega) (by rw [I.2.2.1 4 (Or.inl (by decide))]; exact h4), fun k hk => (frN_out (by omega) hk).trans (I.2.2.1 k hk), by
    rw [← I.2.2.2]
    funext k
    exact (frC_eq (h := g) (B := A + 5) (x := A + 3) (n := n) (Or.inl (by omega)) (by omega)).2.2.2 k⟩)
end

