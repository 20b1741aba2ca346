/-! what is only read -/
section
variable {h : Hp} {A B K : Nat} {f : Fl}
theorem f4_pos (O : Ok K f) : 0 < f 4 ↔ ¬ f 4 = 0 := by
  rcases O.1.2.2.2.2.1 with z | z | z <;> rw [z] <;> decide
theorem bPl_eq {n : Nat} (S : Sm h A B f) (O : Ok K f) (hn : n < 60) : bPl h B (nI n) = if isPl f n then some (B + 2 + n) else none := by
  have e4 : f 4 = 0 ↔ h.i B 1 = 0 := by rw [show f 4 = (h.i B 1).toInt64 from S.k 4 (by decide)]; exact t64_e0
  unfold bPl bMem
  rw [sN_nI hn]
  dsimp only
  rw [S.mem hn]
  by_cases h4 : f 4 = 0
  · rw [if_pos (e4.mp h4)]
    unfold isPl
    rw [h4]
    rfl
  · rw [if_neg (fun z => h4 (e4.mpr z)), isPl_on ((f4_pos O).mpr h4)]
theorem so_look {s w : Int32} (S : Sm h A B f) (O : Ok K f) : bVal h B s w = fLook f (sN s) w := by
  unfold bVal fLook
  rcases sN_cases s with ⟨hso, hsn⟩ | ⟨n, hn, hse, hso⟩ <;> rw [hso] <;> dsimp only
  rw [hse, bPl_eq S O hn]
  have bl3 : bl (h.i (B + 2 + n) 3) = f (ix n 3) := by
    rw [show f (ix n 3) = (h.i (B + 2 + n) 3).toInt64 from S.s hn 3 (by decide)]
    rcases S.bit3 O hn with z | z <;> rw [z] <;> decide
  have bl4 : bl (h.i (B + 2 + n) 4) = f (ix n 4) := by
    rw [show f (ix n 4) = (h.i (B + 2 + n) 4).toInt64 from S.s hn 4 (by decide)]
    rcases S.bit4 O hn with z | z <;> rw [z] <;> decide
  have bl5 : bl (h.i (B + 2 + n) 5) = f (ix n 12) := by
    rw [show f (ix n 12) = (h.i (B + 2 + n) 5).toInt64 from S.s hn 12 (by decide)]
    rcases S.bit5 O hn with z | z <;> rw [z] <;> decide
  by_cases hw : w < 0 ∨ 11 < w
  · rw [if_pos hw]
    have hwi : w.toInt < 0 ∨ 11 < w.toInt := by
      rcases hw with z | z
      · left; exact Int32.lt_iff_toInt_lt.mp z
      · right; exact Int32.lt_iff_toInt_lt.mp z
    have w0 : ¬ w = 0 := fun z => by rw [z] at hwi; exact absurd hwi (by decide)
    have w11 : ¬ w = 11 := fun z => by rw [z] at hwi; exact absurd hwi (by decide)
    rw [if_neg w0, if_neg w11]
    cases isPl f n with
    | false => rfl
    | true =>
      rw [if_pos rfl]
      exact pVal_out (by omega)
  · rw [if_neg hw]
    obtain ⟨k, -, hk, rfl⟩ := nI_rng (a := 0) (b := 11) rfl rfl (by decide) (by decide) hw
    rw [nI_clamp (by omega)]
    rcases (show k = 0 ∨ k = 11 ∨ (1 ≤ k ∧ k ≤ 10) by omega) with rfl | rfl | ⟨k1, k2⟩
    · rw [if_pos (show nI 0 = 0 from rfl), if_neg (show ¬ (0 < nI 0 ∧ nI 0 < 11 ∧ isPl f n = false) from fun z => absurd z.1 (by decide))]
      exact (S.s hn 0 (by decide)).symm
    · rw [if_neg (show ¬ nI 11 = 0 by decide), if_pos (show nI 11 = 11 from rfl), if_neg (show ¬ (0 < nI 11 ∧ nI 11 < 11 ∧ isPl f n = false) from fun z => absurd z.2.1 (by decide))]
      exact (S.s hn 2 (by decide)).symm
    · rw [if_neg (show ¬ nI k = 0 from fun z => by have := (nI_eq (b := 0) (by omega) (by decide)).mp z; omega), if_neg (show ¬ nI k = 11 from fun z => by have := (nI_eq (b := 11) (by omega) (by decide)).mp z; omega)]
      cases hp : isPl f n with
      | false =>
        rw [if_pos (show 0 < nI k ∧ nI k < 11 ∧ false = false from ⟨nI_lt (a := 0) (by omega) (by omega), nI_lt (b := 11) (by omega) (by decide), rfl⟩)]
        rfl
      | true =>
        rw [if_neg (show ¬ (0 < nI k ∧ nI k < 11 ∧ true = false) from fun z => absurd z.2.2 (by decide)), if_pos rfl]
        dsimp only
        rcases (show k = 1 ∨ k = 2 ∨ k = 3 ∨ k = 4 ∨ k = 5 ∨ k = 6 ∨ k = 7 ∨ k = 8 ∨ k = 9 ∨ k = 10 by omega) with rfl | rfl | rfl | rfl | rfl | rfl | rfl | rfl | rfl | rfl
        · exact bl3
        · exact bl4
        · exact (S.s hn 5 (by decide)).symm
        · exact (S.s hn 6 (by decide)).symm
        · exact (S.s hn 7 (by decide)).symm
        · exact (S.s hn 8 (by decide)).symm
        · exact (S.s hn 9 (by decide)).symm
        · exact (S.s hn 10 (by decide)).symm
        · exact (S.s hn 11 (by decide)).symm
        · exact bl5
theorem so_count {w : Int32} {r F : Nat} (S : Sm h A (A + 5) f) (O : Ok K f) (hr : h.i (A + 5) 2 = nI r) (hr6 : r ≤ 60) (hF : h.i A 10 = nI F) (hFr : F ≤ r) : rCnt h A w = fCount f (lN (r - F)) w := by
  have e10 : (nI (cYes h (A + 5))).toInt64 = said f 60 := by
    have hy6 : cYes h (A + 5) ≤ 60 := cnt_le _ 60
    rw [nI_l (by omega)]
    by_cases h4 : f 4 = 0
    · have hc : cYes h (A + 5) = 0 := cnt_none 60 (fun s hs => by
        have z : f (ix s 16) = 0 := (O.2.2 s hs).2.2.2.2.2.2.2.2.2.2.2.2 h4 16 (by decide) (by decide)
        have y : h.i (A + 5 + 2 + s) 17 = 0 := t64_e0.mp ((S.s hs 16 (by decide)).symm.trans z)
        rw [y]
        cases pNe h (A + 5 + 2 + s) <;> rfl)
      have hs : ∀ N, said f N = 0 := by
        intro N
        induction N with
        | zero => rfl
        | succ N ih =>
          have e : said f (N + 1) = said f N + (if isNe f N then f (ix N 16) else 0) := rfl
          rw [e, ih]
          unfold isNe isPl
          rw [h4]
          rfl
      rw [hc, hs]
      rfl
    · exact (said_eq S O ((f4_pos O).mpr h4)).symm
  have e12 : (h.i (A + 5) 2 - h.i A 10).toInt64 = lN (r - F) := by rw [hr, hF, pk_sub hFr, nI_l (by omega)]
  unfold rCnt fCount
  rw [e10, e12, show f 0 = (h.i A 0).toInt64 from S.k 0 (by decide), show f 1 = h.l A 1 from S.k 1 (by decide), show f 2 = h.l A 2 from S.k 2 (by decide), show f 3 = h.l (A + 5) 8 from S.k 3 (by decide), show f 4 = (h.i (A + 5) 1).toInt64 from S.k 4 (by decide), show f 5 = (h.i (A + 5) 2).toInt64 from S.k 5 (by decide), show f 6 = (h.i (A + 5) 3).toInt64 from S.k 6 (by decide), show f 7 = (h.i (A + 5) 4).toInt64 from S.k 7 (by decide), show f 8 = (h.i (A + 5) 7).toInt64 from S.k 8 (by decide), show f 9 = (h.i (A + 5) 5).toInt64 from S.k 9 (by decide), show f 10 = (h.i (A + 5) 6).toInt64 from S.k 10 (by decide), show f 11 = h.l (A + 5) 9 from S.k 11 (by decide)]
theorem so_fair (S : Sm h A (A + 5) f) (O : Ok K f) (hK : K ≤ 600) : rFair h A = fFair f := by
  have e0 : f 0 = 0 ↔ h.i A 0 = 0 := by rw [show f 0 = (h.i A 0).toInt64 from S.k 0 (by decide)]; exact t64_e0
  have e4 : f 4 = 0 ↔ h.i (A + 5) 1 = 0 := by rw [show f 4 = (h.i (A + 5) 1).toInt64 from S.k 4 (by decide)]; exact t64_e0
  have e8 : 0 < f 8 ↔ ¬ h.i (A + 5) 7 ≤ 0 := by rw [show f 8 = (h.i (A + 5) 7).toInt64 from S.k 8 (by decide), Int32.not_le]; exact t64_lt (x := 0)
  have ef : fnd (faP h A) 60 = fnd (fun s => isFu f s && (decide (f (ix s 3) = 1) && !decide (f (ix s 9) = pur f))) 60 := fnd_cong (fun s hs => by
    unfold faP
    rw [full_eq S O hs, purse_eq S, ← show f (ix s 9) = h.l (A + 5 + 2 + s) 10 from S.s hs 9 (by decide)]
    congr 2
    · rw [show f (ix s 3) = (h.i (A + 5 + 2 + s) 3).toInt64 from S.s hs 3 (by decide)]
      rcases S.bit3 O hs with z | z <;> rw [z] <;> decide
    · exact decide_not)
  unfold rFair fFair
  rw [ef]
  by_cases h0 : f 0 = 0
  · rw [if_neg (nn h0)]
    by_cases h4 : f 4 = 0
    · rw [if_pos h4, if_neg (fun z => z.2.1 (e4.mp h4))]
    · rw [if_neg h4]
      by_cases h8 : 0 < f 8
      · rw [if_pos h8, if_neg (fun z => e8.mp h8 z.2.2)]
      · rw [if_neg h8, if_pos ⟨e0.mp h0, fun z => h4 (e4.mpr z), Classical.byContradiction fun z => h8 (e8.mpr z)⟩]
        cases fnd (fun s => isFu f s && (decide (f (ix s 3) = 1) && !decide (f (ix s 9) = pur f))) 60 <;> rfl
  · rw [if_pos h0, if_neg (fun z => h0 (e0.mpr z.1))]
theorem so_drawn {k w : Int32} {r : Nat} (S : Sm h A (A + 5) f) (hr : h.i (A + 5) 2 = nI r) (h5 : f 5 = lN r) (hr6 : r ≤ 60) : (if ¬ k < 0 ∧ k < nI r ∧ wn w.toInt64 0 3 = true then h.l (A + 3) (k.toNatClampNeg * 4 + w.toNatClampNeg) else -1) = fDrawn f k w := by
  unfold fDrawn
  by_cases hk : k < 0
  · rw [if_pos hk, if_neg (fun z => z.1 hk)]
  · rw [if_neg hk]
    have e5 : f 5 ≤ k.toInt64 ↔ ¬ k < nI r := by rw [h5, ← nI_l (show r < 2 ^ 31 by omega), Int32.not_lt]; exact Int32.toInt64_le
    by_cases h1 : f 5 ≤ k.toInt64
    · rw [if_pos h1, if_neg (fun z => e5.mp h1 z.2.1)]
    · rw [if_neg h1]
      have hkr : k < nI r := Classical.byContradiction fun z => h1 (e5.mpr z)
      by_cases h2 : w < 0
      · rw [if_pos h2, if_neg (fun z => wn03.mp z.2.2 (Or.inl h2))]
      · rw [if_neg h2]
        by_cases h3 : 3 < w
        · rw [if_pos h3, if_neg (fun z => wn03.mp z.2.2 (Or.inr h3))]
        · rw [if_neg h3, if_pos ⟨hk, hkr, wn03.mpr (fun z => z.elim h2 h3)⟩]
          obtain ⟨j, hj, rfl⟩ := nI_of hk
          obtain ⟨v, -, hv, rfl⟩ := nI_rng (a := 0) (b := 3) rfl rfl (by decide) (by decide) (show ¬ (w < 0 ∨ 3 < w) from fun z => z.elim h2 h3)
          have hjr : j < r := (nI_ltI hj (by omega)).mp hkr
          rw [nI_clamp hj, nI_clamp (by omega), Nat.add_assoc, show 4 * j + v = j * 4 + v by omega]
          exact (S.2.2.2.2.1 _ (by rw [hr, nI_clamp (by omega)]; omega)).symm
theorem so_check {X M r m : Nat} (S : Sm h A (A + 5) f) (hr : h.i (A + 5) 2 = nI r) (hr6 : r ≤ 60) (hl : ∀ i, i < m → h.l (X + 2) i = h.l (M + 5) i) : (if m = 3 * r then woI (fnd (foK h A (X + 2)) r) else -2) = fCheck h M m r f := by
  unfold fCheck
  by_cases hm : m = 3 * r
  · rw [if_pos hm, if_neg (nn hm)]
    congr 1
    refine fnd_cong (fun k hk => ?_)
    unfold foK ckB
    congr 1
    refine fnd_cong (fun w hw => ?_)
    unfold foW
    rw [hl _ (by omega), show k * 3 + w = 3 * k + w by omega, Nat.add_assoc 1153, show 4 * k + w = k * 4 + w by omega, S.2.2.2.2.1 _ (by rw [hr, nI_clamp (by omega)]; omega)]
    exact decide_not
  · rw [if_neg hm, if_pos hm]
end

