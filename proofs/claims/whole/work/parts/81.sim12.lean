/-! a round's end: who draws -/
theorem cnt_none {p : Nat → Bool} : ∀ n, (∀ k, k < n → p k = false) → cnt p n = 0
  | 0, _ => rfl
  | n + 1, hz => by
    unfold cnt
    rw [cnt_none n (fun k hk => hz k (by omega)), hz n (by omega)]
    rfl
theorem fnd_first {p : Nat → Bool} : ∀ n, n < 2 ^ 31 → fnd (fun i => p i && decide (lN (cnt p i) = 0)) n = fnd p n := by
  intro n
  induction n with
  | zero => intro _; rfl
  | succ n ih =>
    intro hn
    have ih := ih (by omega)
    unfold fnd
    rw [ih]
    cases hf : fnd p n with
    | some k => rfl
    | none =>
      have h0 : cnt p n = 0 := cnt_none n (fnd_none.mp hf)
      dsimp only
      rw [h0]
      cases p n <;> rfl
section
variable {h : Hp} {A K : Nat} {f : Fl}
theorem able_first (S : Sm h A (A + 5) f) (O : Ok K f) (h4 : 0 < f 4) : fnd (abP h (A + 5) 0) 60 = fnd (isAb f) 60 := by
  refine Eq.trans (fnd_cong (fun s hs => ?_)) (fnd_first (p := isAb f) 60 (by decide))
  unfold abP
  rw [S.ab O hs h4, show cnt (fun j => pAb h (A + 5 + 2 + j)) s = cnt (isAb f) s from cnt_cong (fun t ht => S.ab O (by omega) h4)]
theorem so_first {T : Nat} (S : Sm h A (A + 5) f) (O : Ok K f) (h4 : 0 < f 4) (hT : h.i A 4 = nI T) (hT6 : T ≤ 60) (h12 : f 12 = lN T) (h0 : f 0 = 0) : rFirst h A T = woI (who f) := by
  obtain ⟨t, h1, h2, h3, -⟩ := O.1.2.2.2.2.2.2.2.2.2.2.2
  have et : t = T := (pk_lEQ (by omega) (by omega)).mp (h2.symm.trans h12)
  subst et
  have key : ∀ k, k < t → ∃ q, q < 60 ∧ f (1033 + k) = lN q ∧ h.i (A + 1) k = nI q := fun k hk => by
    obtain ⟨q, hq, e⟩ := h3 k hk
    refine ⟨q, hq, e, (t64_n (by omega)).mp ?_⟩
    rw [← S.2.2.1 k (by rw [hT, nI_clamp (by omega)]; exact hk)]
    exact e
  have ef : fnd (foP h A) t = fnd (fun k => isAb f (f (1033 + k)).toInt.toNat) t := fnd_cong (fun k hk => by
    obtain ⟨q, hq, e1, e2⟩ := key k hk
    unfold foP
    rw [e2, sN_nI hq, e1, lN_nat (by omega)]
    exact S.ab O hq h4)
  unfold rFirst who
  rw [if_pos h0, h12, lN_nat (by omega), ef]
  cases hf : fnd (fun k => isAb f (f (1033 + k)).toInt.toNat) t with
  | none => dsimp only; rw [able_first S O h4]
  | some k =>
    obtain ⟨q, hq, e1, e2⟩ := key k (fnd_some hf).1
    dsimp only
    rw [e2, e1, lN_nat (by omega)]
    rfl
theorem so_lots {r L : Nat} (S : Sm h A (A + 5) f) (O : Ok K f) (h4 : 0 < f 4) (hR : h.i (A + 5) 2 = nI r) (h5 : f 5 = lN r) (hr : r ≤ 60) (hL : h.i (A + 5) 6 = nI L) (h10 : f 10 = lN L) (hL6 : L ≤ 60) (h0 : f 0 = 1) : rLots h A r L = woI (who f) := by
  have ec : cAb h (A + 5) = cnt (isAb f) 60 := by
    unfold cAb
    exact cnt_cong (fun s hs => S.ab O hs h4)
  unfold rLots who
  rw [if_neg (show ¬ f 0 = 0 by rw [h0]; decide), if_pos h0, ec]
  have hc6 : cnt (isAb f) 60 ≤ 60 := cnt_le _ 60
  by_cases hz : cnt (isAb f) 60 = 0
  · rw [if_pos hz, if_pos (by rw [hz]; rfl)]
    rfl
  · rw [if_neg hz, if_neg (nI_ne0 (by omega) (by omega))]
    -- the number told
    have key : ∃ x, x < 2 ^ 31 ∧ lotX f = lN x ∧ lotC h A r L = nI x := by
      obtain ⟨t, t1, t2, t3⟩ := O.1.2.2.2.2.2.2.2.2.2.2.1
      have et : t = L := (pk_lEQ (by omega) (by omega)).mp (t2.symm.trans h10)
      subst et
      unfold lotX lotC
      rw [h5, h10, lN_nat (by omega)]
      by_cases hl : r < t
      · rw [if_pos ((pk_lLT (by omega) (by omega)).mpr hl), if_pos hl]
        obtain ⟨x, hx, e⟩ := t3 r hl
        refine ⟨x, hx, e, (t64_n hx).mp ?_⟩
        rw [← S.2.2.2.1 r (by rw [hL, nI_clamp (by omega)]; exact hl)]
        exact e
      · rw [if_neg (fun z => hl ((pk_lLT (by omega) (by omega)).mp z)), if_neg hl]
        exact ⟨0, by decide, rfl, rfl⟩
    obtain ⟨x, hx, e1, e2⟩ := key
    have hmod : x % cnt (isAb f) 60 < cnt (isAb f) 60 := Nat.mod_lt _ (by omega)
    rw [e2, pk_rem hx (by omega) (by omega), nI_l (by omega)]
    congr 1
    unfold lotN
    rw [e1, lN_nat (by omega)]
    refine fnd_cong (fun s hs => ?_)
    unfold abP
    rw [S.ab O hs h4, show cnt (fun j => pAb h (A + 5 + 2 + j)) s = cnt (isAb f) s from cnt_cong (fun t ht => S.ab O (by omega) h4)]
    congr 1
    have := cnt_le (isAb f) s
    exact decide_eq_decide.mpr (pk_lEQ (by omega) (by omega))
def BbR (f : Fl) (w : Int32 × Int64) (b : Option Nat) : Prop := (b = none ∧ w = (-1, -1)) ∨ ∃ q, q < 60 ∧ b = some q ∧ w = (nI q, f (ix q 15))
theorem bb_step {n : Nat} {w : Int32 × Int64} {b : Option Nat} (S : Sm h A (A + 5) f) (O : Ok K f) (h4 : 0 < f 4) (hn : n < 60) (I : BbR f w b) : BbR f (bbC h A n w) (bbS f n b) := by
  have e15 : h.l (A + 5 + 2 + n) 16 = f (ix n 15) := (S.s hn 15 (by decide)).symm
  have hab := S.ab O hn h4
  obtain ⟨d, hd, ed⟩ := (O.2.2 n hn).2.2.2.2.2.2.2.1
  have ed : f (ix n 15) = lN d := ed
  have win : isAb f n = true → w.2 < f (ix n 15) → bbC h A n w = (nI n, f (ix n 15)) := fun a c => by
    unfold bbC
    rw [hab, e15, if_pos ⟨a, c⟩]
  have los : ¬ (isAb f n = true ∧ w.2 < f (ix n 15)) → bbC h A n w = w := fun a => by
    unfold bbC
    rw [hab, e15, if_neg a]
  cases ha : isAb f n with
  | false =>
    rw [los (fun z => by rw [ha] at z; exact Bool.false_ne_true z.1), show bbS f n b = b by unfold bbS; rw [ha]; rfl]
    exact I
  | true =>
    rcases I with ⟨i1, i2⟩ | ⟨q, hq, i1, i2⟩
    · have hl : w.2 < f (ix n 15) := by rw [i2, ed]; exact Int64.lt_iff_toInt_lt.mpr (by rw [pk_lT (by omega), show ((-1, -1) : Int32 × Int64).2.toInt = -1 from rfl]; omega)
      rw [win ha hl, show bbS f n b = some n by unfold bbS; rw [ha, i1]; rfl]
      exact Or.inr ⟨n, hn, rfl, rfl⟩
    · by_cases hl : f (ix q 15) < f (ix n 15)
      · rw [win ha (by rw [i2]; exact hl), show bbS f n b = some n by unfold bbS; rw [ha, i1]; exact if_pos (decide_eq_true hl)]
        exact Or.inr ⟨n, hn, rfl, rfl⟩
      · rw [los (fun z => hl (by rw [i2] at z; exact z.2)), show bbS f n b = b by unfold bbS; rw [ha, i1]; exact if_neg (fun z => hl (of_decide_eq_true z))]
        exact Or.inr ⟨q, hq, i1, i2⟩
theorem so_best (S : Sm h A (A + 5) f) (O : Ok K f) (h4 : 0 < f 4) (h0 : f 0 = 2) : bestC h A = woI (who f) := by
  have R : ∀ N, N ≤ 60 → BbR f (itr (bbC h A) N ((-1 : Int32), (-1 : Int64))) (itr (bbS f) N none) := fun N hN =>
    itr_sim (p := bbC h A) (q := bbS f) (x := ((-1 : Int32), (-1 : Int64))) (y := none) (R := fun _ w b => BbR f w b) N (Or.inl ⟨rfl, rfl⟩) (fun n hn w b I => bb_step S O h4 (by omega) I)
  have Z := R 60 (Nat.le_refl _)
  unfold bestC who
  rw [if_neg (show ¬ f 0 = 0 by rw [h0]; decide), if_neg (show ¬ f 0 = 1 by rw [h0]; decide), if_pos h0]
  generalize itr (bbC h A) 60 ((-1 : Int32), (-1 : Int64)) = w at Z ⊢
  generalize itr (bbS f) 60 none = b at Z ⊢
  rcases Z with ⟨z1, z2⟩ | ⟨q, -, z1, z2⟩
  · rw [z1, z2]; rfl
  · rw [z1, z2]; rfl
theorem said_eq (S : Sm h A (A + 5) f) (O : Ok K f) (h4 : 0 < f 4) : said f 60 = lN (cYes h (A + 5)) := by
  have key : ∀ N, N ≤ 60 → said f N = lN (cnt (fun i => (pNe h (A + 5 + 2 + i) && decide (¬ h.i (A + 5 + 2 + i) 17 = 0))) N) := by
    intro N
    induction N with
    | zero => intro _; rfl
    | succ N ih =>
      intro hN
      have hs : N < 60 := by omega
      have e1 : said f (N + 1) = said f N + (if isNe f N then f (ix N 16) else 0) := rfl
      have e2 : cnt (fun i => (pNe h (A + 5 + 2 + i) && decide (¬ h.i (A + 5 + 2 + i) 17 = 0))) (N + 1) = cnt (fun i => (pNe h (A + 5 + 2 + i) && decide (¬ h.i (A + 5 + 2 + i) 17 = 0))) N + (if (pNe h (A + 5 + 2 + N) && decide (¬ h.i (A + 5 + 2 + N) 17 = 0)) = true then 1 else 0) := rfl
      rw [e1, e2, ih (by omega), S.ne O hs h4, ← lN_add]
      congr 1
      rw [show f (ix N 16) = (h.i (A + 5 + 2 + N) 17).toInt64 from S.s hs 16 (by decide)]
      cases isNe f N with
      | false => rfl
      | true => rcases S.bit17 O hs with z | z <;> rw [z] <;> decide
  exact key 60 (Nat.le_refl _)
theorem so_neediest (S : Sm h A (A + 5) f) (O : Ok K f) (h4 : 0 < f 4) (h0 : ¬ f 0 = 0 ∧ ¬ f 0 = 1 ∧ ¬ f 0 = 2) : rNeed h A = woI (who f) := by
  have e9 : f 9 = (h.i (A + 5) 5).toInt64 := S.k 9 (by decide)
  have en : cNei h (A + 5) = cnt (isNe f) 60 := by
    unfold cNei
    exact cnt_cong (fun s hs => S.ne O hs h4)
  have hy6 : cYes h (A + 5) ≤ 60 := cnt_le _ 60
  have hn6 : cnt (isNe f) 60 ≤ 60 := cnt_le _ 60
  unfold rNeed who
  rw [if_neg h0.1, if_neg h0.2.1, if_neg h0.2.2, able_first S O h4]
  rcases O.1.2.2.2.2.2.2.2.2.2.1 with z | ⟨q, hq, z⟩
  · have y : h.i (A + 5) 5 = -1 := t64_em.mp (e9.symm.trans z)
    have hnd : ¬ ndP h A = true := by unfold ndP; rw [y, show sN (-1 : Int32) = none by decide]; exact Bool.false_ne_true
    rw [if_neg hnd, z, if_pos (by decide)]
  · have y : h.i (A + 5) 5 = nI q := (t64_n (by omega)).mp (e9.symm.trans z)
    have hnd : ndP h A = true ↔ isAb f q = true ∧ lN (cnt (isNe f) 60) < 2 * said f 60 := by
      unfold ndP
      rw [y, sN_nI hq]
      dsimp only
      rw [S.ab O hq h4, en, said_eq S O h4, Bool.and_eq_true, decide_eq_true_eq, show (2 : Int32) = nI 2 from rfl, pk_mul, nI_ltI (by omega) (by omega), show (2 : Int64) = lN 2 from rfl, lN_mul, pk_lLT (by omega) (by omega)]
    rw [z, lN_i, if_neg (nI_ne hq), lN_nat (by omega)]
    by_cases hc : isAb f q = true ∧ lN (cnt (isNe f) 60) < 2 * said f 60
    · rw [if_pos (hnd.mpr hc), if_pos hc, y]
      rfl
    · rw [if_neg (fun w => hc (hnd.mp w)), if_neg hc]
theorem so_who {k T r L : Nat} (S : Sm h A (A + 5) f) (O : Ok K f) (h4 : 0 < f 4) (hk : k < 4) (h0 : f 0 = lN k) (hT : h.i A 4 = nI T) (hT6 : T ≤ 60) (h12 : f 12 = lN T) (hR : h.i (A + 5) 2 = nI r) (h5 : f 5 = lN r) (hr : r ≤ 60) (hL : h.i (A + 5) 6 = nI L) (h10 : f 10 = lN L) (hL6 : L ≤ 60) : rWho h A T r L k = woI (who f) := by
  rcases (show k = 0 ∨ k = 1 ∨ k = 2 ∨ k = 3 by omega) with rfl | rfl | rfl | rfl
  · exact so_first S O h4 hT hT6 h12 h0
  · exact so_lots S O h4 hR h5 hr hL h10 hL6 h0
  · exact so_best S O h4 h0
  · exact so_neediest S O h4 (by rw [h0]; decide)
end

