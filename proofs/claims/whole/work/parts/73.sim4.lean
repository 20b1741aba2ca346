/-! the order and the lots told -/
section
variable {h : Hp} {A K : Nat} {f : Fl}
theorem Sm.told {T n : Nat} {s : Int32} (S : Sm h A (A + 5) f) (hT : h.i A 4 = nI T) (hT6 : T < 60) (h12 : f 12 = lN T) (hn : n < 60) (hs : s = nI n) : Sm ((h.setI (A + 1) T s).setI A 4 (nI (T + 1))) A (A + 5) (upF (upF f (1033 + T) (lN n)) 12 (f 12 + 1)) := by
  have hE : ∀ x, x ≠ A → x ≠ A + 1 → Eq1 h ((h.setI (A + 1) T s).setI A 4 (nI (T + 1))) x := fun x h1 h2 => (Eq1.setI h2).trans (Eq1.setI h1)
  have hc : ∀ q, q < 13 → cb ((h.setI (A + 1) T s).setI A 4 (nI (T + 1))) A (A + 5) q = if q = 12 then (nI (T + 1)).toInt64 else cb h A (A + 5) q := c13 (by simp [cb, Hp.setI, Hp.i, Hp.l, up2])
  have g4 : ((h.setI (A + 1) T s).setI A 4 (nI (T + 1))).i A 4 = nI (T + 1) := up2_s _ _ _ _
  have g1 : ∀ k, ((h.setI (A + 1) T s).setI A 4 (nI (T + 1))).i (A + 1) k = if k = T then s else h.i (A + 1) k := fun k => by
    refine (up2_a _ _ (by omega)).trans ?_
    by_cases e : k = T
    · rw [if_pos e, e]; exact up2_s _ _ _ _
    · rw [if_neg e]; exact up2_k _ _ e
  generalize (h.setI (A + 1) T s).setI A 4 (nI (T + 1)) = g at hE hc g4 g1 ⊢
  refine ⟨fun k hk => ?_, fun t ht q hq => ?_, fun k hk => ?_, fun k hk => ?_, fun k hk => ?_, fun t ht => ?_⟩
  · rw [hc k hk]
    by_cases e : k = 12
    · rw [if_pos e, e, upF_s, h12, lN_1, nI_l (by omega)]
    · rw [if_neg e, upF_n _ _ e, upF_n _ _ (by omega)]
      exact S.1 k hk
  · have := ix_lt2 ht hq
    rw [upF_n _ _ (ix_low (by decide)), upF_n _ _ (by omega), cs_eq (hE _ (by omega) (by omega))]
    exact S.2.1 t ht q hq
  · rw [g4, nI_clamp (by omega)] at hk
    rw [upF_n _ _ (by omega), g1]
    by_cases e : k = T
    · rw [if_pos e, e, upF_s, hs, nI_l (by omega)]
    · rw [if_neg e, upF_n _ _ (by omega)]
      exact S.2.2.1 k (by rw [hT, nI_clamp (by omega)]; omega)
  · rw [(hE (A + 5) (by omega) (by omega)).2.2.1] at hk
    rw [upF_n _ _ (by omega), upF_n _ _ (by omega), (hE (A + 2) (by omega) (by omega)).2.2.1]
    exact S.2.2.2.1 k hk
  · rw [(hE (A + 5) (by omega) (by omega)).2.2.1] at hk
    rw [upF_n _ _ (by omega), upF_n _ _ (by omega), (hE (A + 3) (by omega) (by omega)).2.2.2]
    exact S.2.2.2.2.1 k hk
  · have e := hE (A + 5 + 2 + t) (by omega) (by omega)
    rw [e.2.2.1, e.2.2.1]
    exact S.2.2.2.2.2 t ht
theorem Sm.lot {T : Nat} {x : Int32} (S : Sm h A (A + 5) f) (h60 : (h.i A 4).toNatClampNeg ≤ 60) (hT : h.i (A + 5) 6 = nI T) (hT6 : T < 60) (h10 : f 10 = lN T) : Sm ((h.setI (A + 2) T x).setI (A + 5) 6 (nI (T + 1))) A (A + 5) (upF (upF f (1093 + T) x.toInt64) 10 (f 10 + 1)) := by
  have hE : ∀ y, y ≠ A + 5 → y ≠ A + 2 → Eq1 h ((h.setI (A + 2) T x).setI (A + 5) 6 (nI (T + 1))) y := fun y h1 h2 => (Eq1.setI h2).trans (Eq1.setI h1)
  have hc : ∀ q, q < 13 → cb ((h.setI (A + 2) T x).setI (A + 5) 6 (nI (T + 1))) A (A + 5) q = if q = 10 then (nI (T + 1)).toInt64 else cb h A (A + 5) q := c13 (by simp [cb, Hp.setI, Hp.i, Hp.l, up2])
  have g4 : ((h.setI (A + 2) T x).setI (A + 5) 6 (nI (T + 1))).i (A + 5) 6 = nI (T + 1) := up2_s _ _ _ _
  have g5 : ((h.setI (A + 2) T x).setI (A + 5) 6 (nI (T + 1))).i (A + 5) 2 = h.i (A + 5) 2 := (up2_k _ _ (by decide)).trans (up2_a _ _ (by omega))
  have g1 : ∀ k, ((h.setI (A + 2) T x).setI (A + 5) 6 (nI (T + 1))).i (A + 2) k = if k = T then x else h.i (A + 2) k := fun k => by
    refine (up2_a _ _ (by omega)).trans ?_
    by_cases e : k = T
    · rw [if_pos e, e]; exact up2_s _ _ _ _
    · rw [if_neg e]; exact up2_k _ _ e
  generalize (h.setI (A + 2) T x).setI (A + 5) 6 (nI (T + 1)) = g at hE hc g4 g5 g1 ⊢
  refine ⟨fun k hk => ?_, fun t ht q hq => ?_, fun k hk => ?_, fun k hk => ?_, fun k hk => ?_, fun t ht => ?_⟩
  · rw [hc k hk]
    by_cases e : k = 10
    · rw [if_pos e, e, upF_s, h10, lN_1, nI_l (by omega)]
    · rw [if_neg e, upF_n _ _ e, upF_n _ _ (by omega)]
      exact S.1 k hk
  · have := ix_lt2 ht hq
    rw [upF_n _ _ (ix_low (by decide)), upF_n _ _ (by omega), cs_eq (hE _ (by omega) (by omega))]
    exact S.2.1 t ht q hq
  · have q1 := hE A (by omega) (by omega)
    rw [q1.2.2.1] at hk
    rw [upF_n _ _ (by omega), upF_n _ _ (by omega), (hE (A + 1) (by omega) (by omega)).2.2.1]
    exact S.2.2.1 k hk
  · rw [g4, nI_clamp (by omega)] at hk
    rw [upF_n _ _ (by omega), g1]
    by_cases e : k = T
    · rw [if_pos e, e, upF_s]
    · rw [if_neg e, upF_n _ _ (by omega)]
      exact S.2.2.2.1 k (by rw [hT, nI_clamp (by omega)]; omega)
  · rw [g5] at hk
    rw [upF_n _ _ (by omega), upF_n _ _ (by omega), (hE (A + 3) (by omega) (by omega)).2.2.2]
    exact S.2.2.2.2.1 k hk
  · have e := hE (A + 5 + 2 + t) (by omega) (by omega)
    rw [e.2.2.1, e.2.2.1]
    exact S.2.2.2.2.2 t ht
theorem Ok.T (S : Sm h A (A + 5) f) (O : Ok K f) : ∃ T, T ≤ 60 ∧ f 12 = lN T ∧ h.i A 4 = nI T ∧ (h.i A 4).toNatClampNeg ≤ 60 := by
  obtain ⟨T, h1, h2, -⟩ := O.1.2.2.2.2.2.2.2.2.2.2.2
  have e : h.i A 4 = nI T := (t64_n (by omega)).mp ((S.k 12 (by decide)).symm.trans h2)
  exact ⟨T, h1, h2, e, by rw [e, nI_clamp (by omega)]; exact h1⟩
theorem Ok.L {B : Nat} (S : Sm h A B f) (O : Ok K f) : ∃ L, L ≤ 60 ∧ f 10 = lN L ∧ h.i B 6 = nI L := by
  obtain ⟨L, h1, h2, -⟩ := O.1.2.2.2.2.2.2.2.2.2.2.1
  exact ⟨L, h1, h2, (t64_n (by omega)).mp ((S.k 10 (by decide)).symm.trans h2)⟩
theorem Ok.R {B : Nat} (S : Sm h A B f) (O : Ok K f) : ∃ r p, r ≤ p ∧ p ≤ 60 ∧ f 5 = lN r ∧ f 6 = lN p ∧ h.i B 2 = nI r ∧ h.i B 3 = nI p := by
  obtain ⟨r, p, h1, h2, h3, h4⟩ := O.1.2.2.2.2.2.1
  exact ⟨r, p, h1, h2, h3, h4, (t64_n (by omega)).mp ((S.k 5 (by decide)).symm.trans h3), (t64_n (by omega)).mp ((S.k 6 (by decide)).symm.trans h4)⟩
/-- who is not told: then one more can be -/
theorem toD.room {T : Nat} (O : Ok K f) (h12 : f 12 = lN T) (hT6 : T ≤ 60) : ∀ s, s < 60 → isTo f s = false → T < 60 := by
  intro s hs hto
  obtain ⟨t, h1, h2, h3, h4⟩ := O.1.2.2.2.2.2.2.2.2.2.2.2
  have e : t = T := (pk_lEQ (by omega) (by omega)).mp (h2.symm.trans h12)
  subst e
  unfold isTo at hto
  rw [h12, lN_nat (by omega)] at hto
  have hf : fnd (fun k => decide (f (1033 + k) = lN s)) t = none := by
    cases hz : fnd (fun k => decide (f (1033 + k) = lN s)) t with
    | none => rfl
    | some y => rw [hz] at hto; cases hto
  have hn := fnd_none.mp hf
  have key : ∀ k, k < t → (f (1033 + k)).toInt.toNat < 60 ∧ f (1033 + k) = lN (f (1033 + k)).toInt.toNat := fun k hk => by
    obtain ⟨q, hq, e⟩ := h3 k hk
    rw [e, lN_nat (by omega)]
    exact ⟨hq, rfl⟩
  refine php2 hs (fun k hk => (key k hk).1) (fun j k hj hk e => h4 j k hj hk ?_) (fun k hk e => ?_)
  · rw [(key j hj).2, (key k hk).2, e]
  · have z := of_decide_eq_false (hn k hk)
    exact z (by rw [(key k hk).2, e])
theorem told_eq {T n : Nat} {s : Int32} (S : Sm h A (A + 5) f) (hT : h.i A 4 = nI T) (hT6 : T ≤ 60) (h12 : f 12 = lN T) (hn : n < 60) (hs : s = nI n) : rTold h A s T = isTo f n := by
  unfold rTold isTo
  rw [h12, lN_nat (by omega)]
  congr 1
  refine fnd_cong (fun k hk => decide_eq_decide.mpr ?_)
  rw [S.2.2.1 k (by rw [hT, nI_clamp (by omega)]; exact hk), hs]
  exact (t64_n (by omega)).symm
theorem so_order {T : Nat} {s : Int32} (S : Sm h A (A + 5) f) (O : Ok K f) (hT : h.i A 4 = nI T) (hT6 : T ≤ 60) (h12 : f 12 = lN T) : (rTell h A s T).1 = (fOrder f (sN s)).1 ∧ Sm (rTell h A s T).2 A (A + 5) (fOrder f (sN s)).2 ∧ Ok (K + 1) (fOrder f (sN s)).2 := by
  have O1 : Ok (K + 1) f := O.mono (Nat.le_succ _)
  have e4 : f 4 = 0 ↔ h.i (A + 5) 1 = 0 := by rw [show f 4 = (h.i (A + 5) 1).toInt64 from S.k 4 (by decide)]; exact t64_e0
  have e0 : f 0 = 0 ↔ h.i A 0 = 0 := by rw [show f 0 = (h.i A 0).toInt64 from S.k 0 (by decide)]; exact t64_e0
  unfold rTell fOrder bMem
  by_cases h4 : f 4 = 0
  · rw [if_pos (e4.mp h4), if_neg (nn h4)]
    rcases sN_cases s with ⟨hso, hsn⟩ | ⟨n, hn, hse, hso⟩ <;> rw [hso] <;> dsimp only
    · exact ⟨rfl, S, O1⟩
    · have hm := S.mem hn
      cases hmm : isMem f n with
      | false =>
        rw [hmm] at hm
        rw [hm, if_pos rfl]
        exact ⟨rfl, S, O1⟩
      | true =>
        rw [hmm] at hm
        rw [hm, if_pos rfl, if_neg (show ¬ true = false by decide)]
        dsimp only
        by_cases h0 : f 0 = 0
        · rw [if_pos (e0.mp h0), if_neg (nn h0), told_eq S hT hT6 h12 hn hse]
          cases hto : isTo f n with
          | true =>
            rw [if_pos rfl, if_pos rfl]
            exact ⟨rfl, S, O1⟩
          | false =>
            have hTl := toD.room O h12 hT6 n hn hto
            rw [if_neg (show ¬ false = true by decide), if_neg (show ¬ false = true by decide), if_pos hTl, show (f 12).toInt.toNat = T by rw [h12, lN_nat (by omega)]]
            refine ⟨rfl, S.told hT hTl h12 hn hse, ?_⟩
            have ek : ∀ k, k < 13 → k ≠ 12 → upF (upF f (1033 + T) (lN n)) 12 (f 12 + 1) k = f k := fun k hk h1 => by rw [upF_n _ _ h1, upF_n _ _ (by omega)]
            refine O.low (Nat.le_succ _) ?_ (ek 0 (by decide) (by decide)) (ek 1 (by decide) (by decide)) (ek 4 (by decide) (by decide)) (ek 6 (by decide) (by decide)) (fun k h1 h2 => by dsimp only; rw [upF_n _ _ (by omega), upF_n _ _ (by omega)])
            obtain ⟨a1, a2, a3, a4, a5, a6, a7, a8, a9, a10, ⟨t, t1, t2, t3⟩, ⟨u, u1, u2, u3, u4⟩⟩ := O1.1
            have eu : u = T := (pk_lEQ (by omega) (by omega)).mp (u2.symm.trans h12)
            subst eu
            unfold isTo at hto
            rw [h12, lN_nat (by omega)] at hto
            have hf : fnd (fun k => decide (f (1033 + k) = lN n)) u = none := by
              cases hz : fnd (fun k => decide (f (1033 + k) = lN n)) u with
              | none => rfl
              | some y => rw [hz] at hto; cases hto
            have hnt := fnd_none.mp hf
            have eu : upF (upF f (1033 + u) (lN n)) 12 (f 12 + 1) (1033 + u) = lN n := by rw [upF_n _ _ (by omega), upF_s]
            have eo : ∀ k, k < u → upF (upF f (1033 + u) (lN n)) 12 (f 12 + 1) (1033 + k) = f (1033 + k) := fun k hk => by rw [upF_n _ _ (by omega), upF_n _ _ (by omega)]
            unfold OkL asOK loOK toD
            simp only [ek 0 (by decide) (by decide), ek 1 (by decide) (by decide), ek 2 (by decide) (by decide), ek 3 (by decide) (by decide), ek 4 (by decide) (by decide), ek 5 (by decide) (by decide), ek 6 (by decide) (by decide), ek 7 (by decide) (by decide), ek 8 (by decide) (by decide), ek 9 (by decide) (by decide), ek 10 (by decide) (by decide)]
            refine ⟨a1, a2, a3, a4, a5, a6, a7, a8, a9, a10, ⟨t, t1, t2, fun k hk => ?_⟩, ⟨u + 1, by omega, by rw [upF_s, h12, lN_1], fun k hk => ?_, fun j k hj hk e => ?_⟩⟩
            · rw [upF_n _ _ (by omega), upF_n _ _ (by omega)]
              exact t3 k hk
            · by_cases hku : k = u
              · subst hku
                exact ⟨n, hn, eu⟩
              · rw [eo k (by omega)]
                exact u3 k (by omega)
            · by_cases hju : j = u <;> by_cases hku : k = u
              · omega
              · rw [hju, eu, eo k (by omega)] at e
                exact absurd e.symm (of_decide_eq_false (hnt k (by omega)))
              · rw [hku, eu, eo j (by omega)] at e
                exact absurd e (of_decide_eq_false (hnt j (by omega)))
              · rw [eo j (by omega), eo k (by omega)] at e
                exact u4 j k (by omega) (by omega) e
        · rw [if_neg (fun z => h0 (e0.mpr z)), if_pos h0]
          exact ⟨rfl, S, O1⟩
  · rw [if_neg (fun z => h4 (e4.mpr z)), if_pos h4]
    exact ⟨rfl, S, O1⟩
theorem so_lot {T : Nat} {x : Int32} (S : Sm h A (A + 5) f) (O : Ok K f) (hT : h.i (A + 5) 6 = nI T) (hT6 : T ≤ 60) (h10 : f 10 = lN T) : (rLot h A x T).1 = (fLot f x).1 ∧ Sm (rLot h A x T).2 A (A + 5) (fLot f x).2 ∧ Ok (K + 1) (fLot f x).2 := by
  have O1 : Ok (K + 1) f := O.mono (Nat.le_succ _)
  have e4 : f 4 = 2 ↔ h.i (A + 5) 1 = 2 := by rw [show f 4 = (h.i (A + 5) 1).toInt64 from S.k 4 (by decide)]; exact t64_e2
  have e0 : f 0 = 1 ↔ h.i A 0 = 1 := by rw [show f 0 = (h.i A 0).toInt64 from S.k 0 (by decide)]; exact t64_e1
  obtain ⟨T2, -, -, -, h60⟩ := Ok.T S O
  unfold rLot fLot
  by_cases h4 : f 4 = 2
  · rw [if_pos h4, if_pos (e4.mp h4)]
    exact ⟨rfl, S, O1⟩
  · rw [if_neg h4, if_neg (fun z => h4 (e4.mpr z))]
    by_cases h0 : f 0 = 1
    · rw [if_pos (e0.mp h0), if_neg (nn h0)]
      by_cases hx : x < 0
      · rw [if_pos hx, if_pos hx]
        exact ⟨rfl, S, O1⟩
      · rw [if_neg hx, if_neg hx]
        have e60 : f 10 = 60 ↔ T = 60 := by rw [h10]; exact pk_lEQ (b := 60) (by omega) (by omega)
        by_cases h6 : T = 60
        · rw [if_neg (by omega), if_pos (e60.mpr h6)]
          exact ⟨rfl, S, O1⟩
        · rw [if_pos (by omega), if_neg (fun z => h6 (e60.mp z)), show (f 10).toInt.toNat = T by rw [h10, lN_nat (by omega)]]
          refine ⟨rfl, S.lot h60 hT (by omega) h10, ?_⟩
          have ek : ∀ k, k < 13 → k ≠ 10 → upF (upF f (1093 + T) x.toInt64) 10 (f 10 + 1) k = f k := fun k hk h1 => by rw [upF_n _ _ h1, upF_n _ _ (by omega)]
          refine O.low (Nat.le_succ _) ?_ (ek 0 (by decide) (by decide)) (ek 1 (by decide) (by decide)) (ek 4 (by decide) (by decide)) (ek 6 (by decide) (by decide)) (fun k h1 h2 => by dsimp only; rw [upF_n _ _ (by omega), upF_n _ _ (by omega)])
          obtain ⟨a1, a2, a3, a4, a5, a6, a7, a8, a9, a10, ⟨t, t1, t2, t3⟩, ⟨u, u1, u2, u3, u4⟩⟩ := O1.1
          have et : t = T := (pk_lEQ (by omega) (by omega)).mp (t2.symm.trans h10)
          subst et
          have eo : ∀ k, k < u → upF (upF f (1093 + t) x.toInt64) 10 (f 10 + 1) (1033 + k) = f (1033 + k) := fun k hk => by rw [upF_n _ _ (by omega), upF_n _ _ (by omega)]
          unfold OkL asOK loOK toD
          simp only [ek 0 (by decide) (by decide), ek 1 (by decide) (by decide), ek 2 (by decide) (by decide), ek 3 (by decide) (by decide), ek 4 (by decide) (by decide), ek 5 (by decide) (by decide), ek 6 (by decide) (by decide), ek 7 (by decide) (by decide), ek 8 (by decide) (by decide), ek 9 (by decide) (by decide), ek 12 (by decide) (by decide)]
          refine ⟨a1, a2, a3, a4, a5, a6, a7, a8, a9, a10, ⟨t + 1, by omega, by rw [upF_s, h10, lN_1], fun k hk => ?_⟩, ⟨u, u1, u2, fun k hk => ?_, fun j k hj hk e => ?_⟩⟩
          · by_cases hku : k = t
            · subst hku
              obtain ⟨y, hy, rfl⟩ := nI_of hx
              exact ⟨y, hy, by rw [upF_n _ _ (by omega), upF_s, nI_l hy]⟩
            · rw [upF_n _ _ (by omega), upF_n _ _ (by omega)]
              exact t3 k (by omega)
          · rw [eo k hk]
            exact u3 k hk
          · rw [eo j hj, eo k hk] at e
            exact u4 j k hj hk e
    · rw [if_neg (fun z => h0 (e0.mpr z)), if_pos h0]
      exact ⟨rfl, S, O1⟩
end

