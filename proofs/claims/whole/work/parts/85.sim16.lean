/-! stopping -/
section
variable {h g : Hp} {A B K : Nat} {f : Fl}
theorem Sm.frame (S : Sm h A B f) (hE : ∀ x, (x = A ∨ x = A + 1 ∨ x = A + 2 ∨ x = A + 3 ∨ (B ≤ x ∧ x < B + 62)) → Eq1 h g x) : Sm g A B f := by
  have eA := hE A (Or.inl rfl)
  have e1 := hE (A + 1) (Or.inr (Or.inl rfl))
  have e2 := hE (A + 2) (Or.inr (Or.inr (Or.inl rfl)))
  have e3 := hE (A + 3) (Or.inr (Or.inr (Or.inr (Or.inl rfl))))
  have eB0 : Eq1 h g B := hE B (Or.inr (Or.inr (Or.inr (Or.inr ⟨Nat.le_refl _, by omega⟩))))
  have eB : ∀ i, i < 62 → Eq1 h g (B + i) := fun i hi => hE _ (Or.inr (Or.inr (Or.inr (Or.inr ⟨by omega, by omega⟩))))
  have eP : ∀ s, s < 60 → Eq1 h g (B + 2 + s) := fun s hs => by have := eB (2 + s) (by omega); rwa [show B + (2 + s) = B + 2 + s by omega] at this
  refine ⟨fun k hk => ?_, fun t ht q hq => ?_, fun k hk => ?_, fun k hk => ?_, fun k hk => ?_, fun t ht => ?_⟩
  · rw [cb_eq eA eB0]; exact S.1 k hk
  · rw [cs_eq (eP t ht)]; exact S.2.1 t ht q hq
  · rw [eA.2.2.1] at hk; rw [e1.2.2.1]; exact S.2.2.1 k hk
  · rw [show g.i B 6 = h.i B 6 from eB0.2.2.1 6] at hk; rw [e2.2.2.1]; exact S.2.2.2.1 k hk
  · rw [show g.i B 2 = h.i B 2 from eB0.2.2.1 2] at hk; rw [e3.2.2.2]; exact S.2.2.2.2.1 k hk
  · rw [(eP t ht).2.2.1, (eP t ht).2.2.1]; exact S.2.2.2.2.2 t ht
theorem sim_stop1 {n : Nat} {s : Int32} (S : Sm h A (A + 5) f) (hn : n < 60) (hs : s = nI n) : Sm (st1 (st0 h (A + 5 + 2 + n)) A s) A (A + 5) (stop1 f n) := by
  have S1 : Sm (st0 h (A + 5 + 2 + n)) A (A + 5) (upF (upF (cbS n f) (ix n 15) 0) (ix n 16) 0) := ((sim_back S hn).l16 hn).i17 (v := 0) hn
  unfold st1 stop1
  dsimp only
  generalize upF (upF (cbS n f) (ix n 15) 0) (ix n 16) 0 = φ at S1 ⊢
  generalize st0 h (A + 5 + 2 + n) = g at S1 ⊢
  have e9 : φ 9 = lN n ↔ g.i (A + 5) 5 = s := by rw [show φ 9 = (g.i (A + 5) 5).toInt64 from S1.k 9 (by decide), hs]; exact t64_n (by omega)
  by_cases hc : φ 9 = lN n
  · rw [if_pos hc, if_pos (e9.mp hc)]
    exact S1.b5 (v := -1)
  · rw [if_neg hc, if_neg (fun z => hc (e9.mpr z))]
    exact S1
theorem ok_stop1 {n : Nat} (O : Ok K f) (hn : n < 60) (h4 : ¬ f 4 = 0) : Ok K (stop1 f n) ∧ (stop1 f n 4 = f 4 ∧ stop1 f n 8 = f 8) ∧ (stop1 f n (ix n 13) = 0 ∧ stop1 f n (ix n 14) = 0) ∧ ∀ k, k ≠ 9 → k ≠ ix n 8 → k ≠ ix n 13 → k ≠ ix n 14 → k ≠ ix n 15 → k ≠ ix n 16 → stop1 f n k = f k := by
  have O1 := ok_back O hn h4
  have h41 : ¬ cbS n f 4 = 0 := by rw [cbS_low (by decide)]; exact h4
  have C := ((SeatCh.refl (f := cbS n f) (n := n)).up (j := 15) (x := 0) hn (by decide)).up (j := 16) (x := 0) hn (by decide)
  have O2 : Ok K (upF (upF (cbS n f) (ix n 15) 0) (ix n 16) 0) := O1.ch (Nat.le_refl _) C (Or.inr Iff.rfl) (((O1.2.2 n hn).s15 h41 ⟨0, Nat.zero_le _, rfl⟩ (fun _ => rfl)).s16 h41 (Or.inl rfl))
  have lo : ∀ k, k < 13 → upF (upF (cbS n f) (ix n 15) 0) (ix n 16) 0 k = f k := fun k hk => by rw [upF_n _ _ (ix_low hk).symm, upF_n _ _ (ix_low hk).symm, cbS_low hk]
  have x13 : upF (upF (cbS n f) (ix n 15) 0) (ix n 16) 0 (ix n 13) = 0 := by
    rw [upF_n _ _ (fun z => absurd (ix_inj (by decide) (by decide) z).2 (by decide)), upF_n _ _ (fun z => absurd (ix_inj (by decide) (by decide) z).2 (by decide))]
    unfold cbS
    rw [upF_n _ _ (fun z => absurd (ix_inj (by decide) (by decide) z).2 (by decide)), upF_s]
  have x14 : upF (upF (cbS n f) (ix n 15) 0) (ix n 16) 0 (ix n 14) = 0 := by
    rw [upF_n _ _ (fun z => absurd (ix_inj (by decide) (by decide) z).2 (by decide)), upF_n _ _ (fun z => absurd (ix_inj (by decide) (by decide) z).2 (by decide))]
    unfold cbS
    rw [upF_s]
  refine ⟨?_, ⟨stop1_o ⟨by decide, (ix_low (by decide)).symm, (ix_low (by decide)).symm, (ix_low (by decide)).symm, (ix_low (by decide)).symm, (ix_low (by decide)).symm⟩, stop1_o ⟨by decide, (ix_low (by decide)).symm, (ix_low (by decide)).symm, (ix_low (by decide)).symm, (ix_low (by decide)).symm, (ix_low (by decide)).symm⟩⟩, ?_, fun k a b c d e i => stop1_o ⟨a, b, c, d, e, i⟩⟩
  · unfold stop1
    try dsimp only
    split
    · exact O2.q9 (by rw [lo 4 (by decide)]; exact h4) (Or.inl rfl)
    · exact O2
  · unfold stop1
    try dsimp only
    split
    · exact ⟨(upF_n _ _ (ix_low (by decide))).trans x13, (upF_n _ _ (ix_low (by decide))).trans x14⟩
    · exact ⟨x13, x14⟩
def ksP (g : Hp) (A p q c : Nat) (s : Int32) : Hp := (ks4 (ks3 (ks2 (ks1 g q s) A q) A p q) A p q).setR (A + 4) c (some q)
theorem ksT_P {p q c : Nat} {s : Int32} : ksT g A p q c s = (ksP g A p q c s).setI (A + 5) 7 (nI (c + 1)) := rfl
theorem ksP_eq {p q c x : Nat} {s : Int32} (hx : x ≠ q) (h4 : x ≠ A + 4) : Eq1 g (ksP g A p q c s) x := by
  unfold ksP
  exact ((((Eq1.setI hx).trans (Eq1.setI hx)).trans (Eq1.setL hx)).trans ((Eq1.setL hx).trans (Eq1.setL hx))).trans (Eq1.setR h4)
/-- what is written of a stop -/
theorem ksP_val {p q c : Nat} {s : Int32} (hq : q ≠ A ∧ q ≠ A + 5 ∧ q ≠ p) : (ksP g A p q c s).i q 0 = s ∧ (ksP g A p q c s).i q 1 = g.i (A + 5) 2 ∧ (ksP g A p q c s).l q 2 = ksOwed g A p ∧ (ksP g A p q c s).l q 3 = ksOwes g A p ∧ (ksP g A p q c s).l q 4 = 0 ∧ (ksP g A p q c s).r (A + 4) c = some q := by
  have e1 : ∀ x, x ≠ q → Eq1 g (ks2 (ks1 g q s) A q) x := fun x hx => (Eq1.setI hx).trans (Eq1.setI hx)
  have e2 : ∀ x, x ≠ q → Eq1 g (ks3 (ks2 (ks1 g q s) A q) A p q) x := fun x hx => (e1 x hx).trans (Eq1.setL hx)
  have w1 : ksOwed (ks2 (ks1 g q s) A q) A p = ksOwed g A p := by
    unfold ksOwed
    rw [(e1 p (Ne.symm hq.2.2)).2.2.1, (e1 p (Ne.symm hq.2.2)).2.2.2, (e1 A (Ne.symm hq.1)).2.2.2]
  have w2 : ksOwes (ks3 (ks2 (ks1 g q s) A q) A p q) A p = ksOwes g A p := by
    unfold ksOwes
    rw [(e2 p (Ne.symm hq.2.2)).2.2.1, (e2 p (Ne.symm hq.2.2)).2.2.2, (e2 A (Ne.symm hq.1)).2.2.2, (e2 (A + 5) (Ne.symm hq.2.1)).2.2.1, (e2 (A + 5) (Ne.symm hq.2.1)).2.2.1]
  have w0 : (ks1 g q s).i (A + 5) 2 = g.i (A + 5) 2 := up2_a _ _ (Ne.symm hq.2.1)
  refine ⟨?_, ?_, ?_, ?_, ?_, up2_s _ _ _ _⟩
  · exact (up2_k _ _ (by decide)).trans (up2_s _ _ _ _)
  · exact (up2_s _ _ _ _).trans w0
  · exact ((up2_k _ _ (by decide)).trans (up2_k _ _ (by decide))).trans ((up2_s _ _ _ _).trans w1)
  · exact (up2_k _ _ (by decide)).trans ((up2_s _ _ _ _).trans w2)
  · exact up2_s _ _ _ _
theorem Sm.b7n {c : Nat} (S : Sm h A (A + 5) f) (hc : c < 2 ^ 31) : Sm (h.setI (A + 5) 7 (nI c)) A (A + 5) (upF f 8 (lN c)) := by
  have := S.b7 (v := nI c)
  rwa [nI_l hc] at this
theorem sim_stop2 {n : Nat} (S : Sm h A (A + 5) (upF f 8 (f 8 + 1))) (hn : n < 60) : Sm (st3 h (A + 5 + 2 + n)) A (A + 5) (stop2 f n) := by
  unfold st3 stop2 bcS pDep
  have S1 := ((S.i4 (v := 1) hn).i5 (v := 0) hn).l6 (v := 0) hn
  have S1 : Sm (((h.setI (A + 5 + 2 + n) 4 1).setI (A + 5 + 2 + n) 5 0).setL (A + 5 + 2 + n) 6 0) A (A + 5) (upF (upF (upF (upF f 8 (f 8 + 1)) (ix n 4) 1) (ix n 12) 0) (ix n 5) 0) := S1
  generalize ((h.setI (A + 5 + 2 + n) 4 1).setI (A + 5 + 2 + n) 5 0).setL (A + 5 + 2 + n) 6 0 = g at S1 ⊢
  generalize upF (upF (upF (upF f 8 (f 8 + 1)) (ix n 4) 1) (ix n 12) 0) (ix n 5) 0 = φ at S1 ⊢
  rw [show φ (ix n 11) = g.l (A + 5 + 2 + n) 12 from S1.s hn 11 (by decide), show φ (ix n 7) = g.l (A + 5 + 2 + n) 8 from S1.s hn 7 (by decide)]
  exact (S1.l12 hn).l8 hn
/-- the number of stops changes -/
theorem Ok.q8 {x : Int64} (O : Ok K f) (h4 : ¬ f 4 = 0) (hx : ∃ n, n ≤ K + 1 ∧ x = lN n) : Ok (K + 1) (upF f 8 x) := by
  have ek : ∀ k, k ≠ 8 → upF f 8 x k = f k := fun k hk => upF_n _ _ hk
  refine O.low (Nat.le_succ _) ?_ (ek 0 (by decide)) (ek 1 (by decide)) (ek 4 (by decide)) (ek 6 (by decide)) (fun k h1 h2 => ek k (by omega))
  obtain ⟨a1, a2, a3, a4, a5, a6, a7, a8, a9, a10, ⟨t, t1, t2, t3⟩, ⟨u, u1, u2, u3, u4⟩⟩ := (O.mono (Nat.le_succ _)).1
  unfold OkL asOK loOK toD
  simp only [ek 0 (by decide), ek 1 (by decide), ek 2 (by decide), ek 3 (by decide), ek 4 (by decide), ek 5 (by decide), ek 6 (by decide), ek 9 (by decide), ek 7 (by decide), ek 10 (by decide), ek 12 (by decide), upF_s]
  refine ⟨a1, a2, a3, a4, a5, a6, fun z => absurd z h4, a8, hx, a10, ⟨t, t1, t2, fun k hk => ?_⟩, ⟨u, u1, u2, fun k hk => ?_, fun j k hj hk e => ?_⟩⟩
  · rw [ek _ (by omega)]; exact t3 k hk
  · rw [ek _ (by omega)]; exact u3 k hk
  · rw [ek _ (by omega), ek _ (by omega)] at e; exact u4 j k hj hk e
theorem ok_stop {n c : Nat} (O : Ok K f) (hn : n < 60) (h4 : f 4 = 1) (h8 : f 8 = lN c) (hc : c ≤ K) : Ok (K + 1) (stop2 (stop1 f n) n) := by
  obtain ⟨O1, ⟨e4, e8⟩, ⟨z13, z14⟩, -⟩ := ok_stop1 O hn (by rw [h4]; decide)
  have h41 : ¬ stop1 f n 4 = 0 := by rw [e4, h4]; decide
  unfold stop2 bcS
  have O2 : Ok (K + 1) (upF (stop1 f n) 8 (stop1 f n 8 + 1)) := O1.q8 h41 ⟨c + 1, by omega, by rw [e8, h8, lN_1]⟩
  have h42 : ¬ upF (stop1 f n) 8 (stop1 f n 8 + 1) 4 = 0 := by rw [upF_n _ _ (by decide)]; exact h41
  have hz : sv (upF (stop1 f n) 8 (stop1 f n 8 + 1)) n 14 = 0 ∧ sv (upF (stop1 f n) 8 (stop1 f n 8 + 1)) n 13 = 0 := ⟨(upF_n _ _ (ix_low (by decide))).trans z14, (upF_n _ _ (ix_low (by decide))).trans z13⟩
  have eX : ∀ x, ∃ w, SeatCh (upF (stop1 f n) 8 (stop1 f n 8 + 1)) (upF (upF (upF (upF (upF (upF (stop1 f n) 8 (stop1 f n 8 + 1)) (ix n 4) 1) (ix n 12) 0) (ix n 5) 0) (ix n 11) x) (ix n 7) 0) n w ∧ w = upV (upV (upV (upV (upV (sv (upF (stop1 f n) 8 (stop1 f n 8 + 1)) n) 4 1) 12 0) 5 0) 11 x) 7 0 := fun x => ⟨_, ((((((SeatCh.refl (n := n)).up (j := 4) (x := 1) hn (by decide)).up (j := 12) (x := 0) hn (by decide)).up (j := 5) (x := 0) hn (by decide)).up (j := 11) (x := x) hn (by decide)).up (j := 7) (x := 0) hn (by decide)), rfl⟩
  obtain ⟨w, C, ew⟩ := eX (upF (upF (upF (upF (stop1 f n) 8 (stop1 f n 8 + 1)) (ix n 4) 1) (ix n 12) 0) (ix n 5) 0 (ix n 11) + upF (upF (upF (upF (stop1 f n) 8 (stop1 f n 8 + 1)) (ix n 4) 1) (ix n 12) 0) (ix n 5) 0 (ix n 7))
  refine O2.ch (Nat.le_refl _) C (Or.inr (by rw [ew]; exact Iff.rfl)) ?_
  rw [ew]
  have v0 := O2.2.2 n hn
  have v1 := v0.s4 (x := 1) h42 (Or.inr rfl) hz
  have v2 := v1.s12 h42
  have v3 := v2.s5 (x := 0) h42 ⟨0, Nat.zero_le _, rfl⟩
  exact (v3.s11 h42).s7 (x := 0) h42 ⟨0, Nat.zero_le _, rfl⟩
/-- owed, owes -/
theorem owed_eq {n : Nat} (S : Sm h A (A + 5) f) (O : Ok K f) (hn : n < 60) : ksOwed h A (A + 5 + 2 + n) = stOwed f n ∧ ksOwes h A (A + 5 + 2 + n) = stOwes f n ∧ ¬ stOwed f n < 0 := by
  have e3 : f (ix n 3) = (h.i (A + 5 + 2 + n) 3).toInt64 := S.s hn 3 (by decide)
  have e8 : f (ix n 8) = h.l (A + 5 + 2 + n) 9 := S.s hn 8 (by decide)
  have e5 : f (ix n 5) = h.l (A + 5 + 2 + n) 6 := S.s hn 5 (by decide)
  have e1 : f 1 = h.l A 1 := S.k 1 (by decide)
  have e2 : f 2 = h.l A 2 := S.k 2 (by decide)
  obtain ⟨r, p, h1, h2, h3, h4, h5, h6⟩ := Ok.R S O
  have ed : (nI p - nI r).toInt64 = lN p - lN r := by rw [pk_sub h1, nI_l (by omega), lN_sub h1]
  unfold ksOwed ksOwes stOwed stOwes mx64
  rw [h5, h6, ed, e8, e5, e1, e2, h3, h4]
  rcases S.bit3 O hn with z | z
  · have c1 : ¬ f (ix n 3) = 1 := by rw [e3, z]; decide
    simp only [if_pos z, if_neg c1]
    refine ⟨trivial, trivial, ?_⟩
    split
    · rename_i w; exact fun y => Int64.lt_irrefl (Int64.lt_trans w y)
    · decide
  · have c0 : ¬ h.i (A + 5 + 2 + n) 3 = 0 := by rw [z]; decide
    have c1 : f (ix n 3) = 1 := by rw [e3, z]; decide
    simp only [if_neg c0, if_pos c1]
    exact ⟨trivial, trivial, by decide⟩
end

