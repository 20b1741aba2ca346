/-! an open ring: paying, bidding, asking, saying yes, replacing -/
theorem h63_0 : (0 : Int32).toInt64 &&& 63 = 0 := by decide
theorem h63_1 : (1 : Int32).toInt64 &&& 63 = 1 := by decide
section
variable {h : Hp} {A K : Nat} {f : Fl}
theorem cell_add {P c m : Nat} {y : Int64} (hc : h.i P 13 = nI c) (hy : y = lN m) (hm : c + m < 2 ^ 31) : (h.i P 13 + y.toInt32).toInt64 = (h.i P 13).toInt64 + y := by
  rw [hc, hy, lN_i, nI_add, nI_l hm, nI_l (by omega), lN_add]
/-- what lies in a cell -/
theorem Ok.cell {n p : Nat} (S : Sm h A (A + 5) f) (O : Ok K f) (hn : n < 60) (hp : f 1 = lN p) (hp9 : p ≤ 9999999) : ∃ c, c ≤ p ∧ f (ix n 13) = lN c ∧ h.i (A + 5 + 2 + n) 13 = nI c := by
  have e13 : f (ix n 13) = (h.i (A + 5 + 2 + n) 13).toInt64 := S.s hn 13 (by decide)
  have key : ∃ c, c ≤ p ∧ f (ix n 13) = lN c := by
    have hd : f 1 / 2 = lN (p / 2) := by rw [hp]; exact pk_lDiv (b := 2) (by omega) (by decide) (by decide)
    have hs : f 1 - f 1 / 2 = lN (p - p / 2) := by rw [hd, hp, lN_sub (by omega)]
    have z : (sv f n 14 = 0 ∧ sv f n 13 = 0) ∨ _ := (O.2.2 n hn).2.2.2.2.2.2.1
    rcases z with ⟨-, z⟩ | ⟨-, -, -, ⟨-, -, z⟩ | ⟨-, ⟨-, z⟩ | ⟨-, z⟩ | ⟨-, z⟩⟩⟩
    · exact ⟨0, Nat.zero_le _, z⟩
    · exact ⟨p, Nat.le_refl _, z.trans hp⟩
    · exact ⟨p - p / 2, by omega, z.trans hs⟩
    · exact ⟨p / 2, by omega, z.trans hd⟩
    · exact ⟨p, Nat.le_refl _, z.trans hp⟩
  obtain ⟨c, h1, h2⟩ := key
  exact ⟨c, h1, h2, (t64_n (by omega)).mp (e13.symm.trans h2)⟩
theorem so_pay {s x : Int32} (S : Sm h A (A + 5) f) (O : Ok K f) : (rPayIn h A s x).1 = (fPay f (sN s) x).1 ∧ Sm (rPayIn h A s x).2 A (A + 5) (fPay f (sN s) x).2 ∧ Ok (K + 1) (fPay f (sN s) x).2 := by
  have O1 : Ok (K + 1) f := O.mono (Nat.le_succ _)
  unfold rPayIn fPay
  rcases pl_cases S O s with ⟨c1, c2, c3⟩ | ⟨c1, c2, c3, c4⟩ | ⟨n, hn, hse, hso, c1, c2, c3, c4, ⟨d1, d2, d3⟩ | ⟨d1, d2, d3⟩⟩
  · rw [if_neg c1, c3, if_pos (by decide)]
    exact ⟨rfl, S, O1⟩
  · rw [if_pos c1, c3, c4, if_pos (by decide)]
    exact ⟨rfl, S, O1⟩
  · rw [if_pos c1, c3, d3, if_neg (by decide), hso]
    dsimp only
    rw [if_pos d1]
    have e0 : f (ix n 0) = 3 ↔ h.i (A + 5 + 2 + n) 0 = 3 := by rw [show f (ix n 0) = (h.i (A + 5 + 2 + n) 0).toInt64 from S.s hn 0 (by decide)]; exact t64_e3
    by_cases hp : x = 1 ∧ ¬ f (ix n 0) = 3
    · rw [if_pos hp, if_pos ⟨hp.1, fun z => hp.2 (e0.mpr z)⟩]
      exact ⟨rfl, S, O1⟩
    · rw [if_neg hp, if_neg (fun z => hp ⟨z.1, fun y => z.2 (e0.mp y)⟩)]
      by_cases hx : x < 0 ∨ 1 < x
      · rw [if_neg (fun z => wn01.mp z hx), if_pos hx]
        exact ⟨rfl, S, O1⟩
      · rw [if_pos (wn01.mpr hx), if_neg hx]
        have e7 : f 7 = (h.i (A + 5) 4).toInt64 := S.k 7 (by decide)
        by_cases h7 : f 7 = -1
        · rw [if_pos h7, if_pos (t64_em.mp (e7.symm.trans h7))]
          exact ⟨rfl, S, O1⟩
        · rw [if_neg h7, if_neg (fun z => h7 (e7.trans (t64_em.mpr z)))]
          have e7b : f 7 ≤ lN n ↔ ¬ s < h.i (A + 5) 4 := by rw [e7, ← nI_l (show n < 2 ^ 31 by omega), hse, Int32.not_lt]; exact Int32.toInt64_le
          by_cases h8 : f 7 ≤ lN n
          · rw [if_pos h8, if_neg (e7b.mp h8)]
            exact ⟨rfl, S, O1⟩
          · rw [if_neg h8, if_pos (Classical.byContradiction fun z => h8 (e7b.mpr z))]
            obtain ⟨p, hp1, hp9, ep⟩ := O.1.2.1
            have hd : f 1 / 2 = lN (p / 2) := by rw [ep]; exact pk_lDiv (b := 2) (by omega) (by decide) (by decide)
            have hsb : f 1 - f 1 / 2 = lN (p - p / 2) := by rw [hd, ep, lN_sub (by omega)]
            have e14 : f (ix n 14) = (h.i (A + 5 + 2 + n) 14).toInt64 + 2 * (h.i (A + 5 + 2 + n) 15).toInt64 := S.s hn 14 (by decide)
            have e13 : f (ix n 13) = (h.i (A + 5 + 2 + n) 13).toInt64 := S.s hn 13 (by decide)
            have e8 : f (ix n 8) = h.l (A + 5 + 2 + n) 9 := S.s hn 8 (by decide)
            have e1 : f 1 = h.l A 1 := S.k 1 (by decide)
            obtain ⟨b14, b15⟩ := S.2.2.2.2.2 n hn
            have hv4 : f (ix n 4) = 0 := by
              rcases (O.2.2 n hn).2.2.1.2.1 with z | z
              · exact z
              · exact absurd (show isSt f n = true from decide_eq_true z) (by rw [d2]; decide)
            have hm2 : 2 ≤ f (ix n 0) := of_decide_eq_true c4
            have hf4 : 0 < f 4 := by rw [c2]; decide
            have h4 : ¬ f 4 = 0 := by rw [c2]; decide
            have hOV := (O.2.2 n hn).2.2.2.2.2.2.1
            have hOV : (f (ix n 14) = 0 ∧ f (ix n 13) = 0) ∨ (0 < f 4 ∧ 2 ≤ f (ix n 0) ∧ f (ix n 4) = 0 ∧ ((f (ix n 14) = 1 ∧ ¬ f (ix n 0) = 3 ∧ f (ix n 13) = f 1) ∨ (f (ix n 0) = 3 ∧ ((f (ix n 14) = 1 ∧ f (ix n 13) = f 1 - f 1 / 2) ∨ (f (ix n 14) = 2 ∧ f (ix n 13) = f 1 / 2) ∨ (f (ix n 14) = 3 ∧ f (ix n 13) = f 1))))) := hOV
            obtain ⟨m, -, hm1, ex⟩ := nI_rng (a := 0) (b := 1) rfl rfl (by decide) (by decide) hx
            rcases (show m = 0 ∨ m = 1 by omega) with rfl | rfl
            · have ex : x = 0 := ex
              subst ex
              rw [if_pos rfl, h63_0]
              unfold rPay1
              rcases b14 with z14 | z14
              · -- the first half is not paid yet
                rw [if_pos z14]
                have hv14 : f (ix n 14) = 2 * (h.i (A + 5 + 2 + n) 15).toInt64 := by rw [e14, z14]; exact Int64.zero_add _
                have hno : ¬ f (ix n 14) >>> (0 : Int64) &&& 1 = 1 := by rw [hv14]; rcases b15 with z | z <;> rw [z] <;> decide
                rw [if_neg hno]
                have hor : f (ix n 14) ||| (1 : Int64) <<< (0 : Int64) = (1 : Int32).toInt64 + 2 * (h.i (A + 5 + 2 + n) 15).toInt64 := by rw [hv14]; rcases b15 with z | z <;> rw [z] <;> decide
                have hps : paySum f n 0 = (if h.i (A + 5 + 2 + n) 0 = 3 then h.l A 1 - h.l A 1 / 2 else h.l A 1) := by
                  unfold paySum
                  by_cases z : f (ix n 0) = 3
                  · rw [if_neg (nn z), if_neg (by decide), if_pos (e0.mp z), e1]
                  · rw [if_pos z, if_neg (fun y => z (e0.mpr y)), e1]
                -- what comes in, and what lies there then
                have key : ∃ y c q, paySum f n 0 = lN y ∧ f (ix n 13) = lN c ∧ c + y ≤ p ∧ f (ix n 14) ||| (1 : Int64) <<< (0 : Int64) = q ∧ ((f (ix n 0) = 3 ∧ ((q = 1 ∧ lN (c + y) = f 1 - f 1 / 2) ∨ (q = 3 ∧ lN (c + y) = f 1))) ∨ (q = 1 ∧ ¬ f (ix n 0) = 3 ∧ lN (c + y) = f 1)) := by
                  by_cases z : f (ix n 0) = 3
                  · have hpy : paySum f n 0 = lN (p - p / 2) := by unfold paySum; rw [if_neg (nn z), if_neg (by decide), hsb]
                    rcases b15 with z15 | z15
                    · have hz : f (ix n 14) = 0 := by rw [hv14, z15]; decide
                      have h13 : f (ix n 13) = 0 := by
                        rcases hOV with ⟨-, y⟩ | ⟨-, -, -, ⟨y, -⟩ | ⟨-, ⟨y, -⟩ | ⟨y, -⟩ | ⟨y, -⟩⟩⟩
                        · exact y
                        all_goals (rw [hz] at y; exact absurd y (by decide))
                      exact ⟨p - p / 2, 0, 1, hpy, h13, by omega, by rw [hz]; decide, Or.inl ⟨z, Or.inl ⟨rfl, by rw [hsb, Nat.zero_add]⟩⟩⟩
                    · have hz : f (ix n 14) = 2 := by rw [hv14, z15]; decide
                      have h13 : f (ix n 13) = lN (p / 2) := by
                        rcases hOV with ⟨y, -⟩ | ⟨-, -, -, ⟨y, -⟩ | ⟨-, ⟨y, -⟩ | ⟨-, y⟩ | ⟨y, -⟩⟩⟩
                        · rw [hz] at y; exact absurd y (by decide)
                        · rw [hz] at y; exact absurd y (by decide)
                        · rw [hz] at y; exact absurd y (by decide)
                        · exact y.trans hd
                        · rw [hz] at y; exact absurd y (by decide)
                      exact ⟨p - p / 2, p / 2, 3, hpy, h13, by omega, by rw [hz]; decide, Or.inl ⟨z, Or.inr ⟨rfl, by rw [ep]; congr 1; omega⟩⟩⟩
                  · have hpy : paySum f n 0 = lN p := by unfold paySum; rw [if_pos z, ep]
                    have hz : f (ix n 14) = 0 := by
                      rcases hOV with ⟨y, -⟩ | ⟨-, -, -, ⟨y, -⟩ | ⟨y, -⟩⟩
                      · exact y
                      · rw [hv14] at y; rcases b15 with w | w <;> rw [w] at y <;> exact absurd y (by decide)
                      · exact absurd y z
                    have h13 : f (ix n 13) = 0 := by
                      rcases hOV with ⟨-, y⟩ | ⟨-, -, -, ⟨y, -⟩ | ⟨y, -⟩⟩
                      · exact y
                      · rw [hz] at y; exact absurd y (by decide)
                      · exact absurd y z
                    exact ⟨p, 0, 1, hpy, h13, by omega, by rw [hz]; decide, Or.inr ⟨rfl, z, by rw [ep, Nat.zero_add]⟩⟩
                obtain ⟨y, c, q, k1, k2, k3, k4, k5⟩ := key
                have hci : h.i (A + 5 + 2 + n) 13 = nI c := (t64_n (by omega)).mp (e13.symm.trans k2)
                refine ⟨rfl, ?_, ?_⟩
                · rw [hor, ← hps]
                  unfold rPut
                  have q1 : (h.setI (A + 5 + 2 + n) 14 1).i (A + 5 + 2 + n) 13 = h.i (A + 5 + 2 + n) 13 := up2_k _ _ (by decide)
                  rw [q1, show f (ix n 13) + paySum f n 0 = (h.i (A + 5 + 2 + n) 13 + (paySum f n 0).toInt32).toInt64 by rw [cell_add hci k1 (by omega), e13], e8]
                  exact ((S.h14 hn (Or.inr rfl)).i13 hn).l9 hn
                · have C := (((SeatCh.refl (f := f) (n := n)).up (j := 14) (x := f (ix n 14) ||| (1 : Int64) <<< (0 : Int64)) hn (by decide)).up (j := 13) (x := f (ix n 13) + paySum f n 0) hn (by decide)).up (j := 8) (x := f (ix n 8) + paySum f n 0) hn (by decide)
                  refine O.ch (Nat.le_succ _) C (Or.inr Iff.rfl) ((((O.2.2 n hn).up (Nat.le_succ _)).sD h4 ?_).s8 h4)
                  rw [k4, k1, k2, lN_add]
                  rcases k5 with ⟨z, ⟨w1, w2⟩ | ⟨w1, w2⟩⟩ | ⟨w1, z, w2⟩
                  · exact Or.inr ⟨hf4, hm2, hv4, Or.inr ⟨z, Or.inl ⟨w1, w2⟩⟩⟩
                  · exact Or.inr ⟨hf4, hm2, hv4, Or.inr ⟨z, Or.inr (Or.inr ⟨w1, w2⟩)⟩⟩
                  · exact Or.inr ⟨hf4, hm2, hv4, Or.inl ⟨w1, z, w2⟩⟩
              · rw [if_neg (by rw [z14]; decide)]
                have hyes : f (ix n 14) >>> (0 : Int64) &&& 1 = 1 := by rw [e14, z14]; rcases b15 with z | z <;> rw [z] <;> decide
                rw [if_pos hyes]
                exact ⟨rfl, S, O1⟩
            · have ex : x = 1 := ex
              subst ex
              rw [if_neg (by decide), h63_1]
              have z3 : f (ix n 0) = 3 := Classical.byContradiction fun z => hp ⟨rfl, z⟩
              unfold rPay2
              rcases b15 with z15 | z15
              · rw [if_pos z15]
                have hv14 : f (ix n 14) = (h.i (A + 5 + 2 + n) 14).toInt64 := by rw [e14, z15]; exact Int64.add_zero _
                have hno : ¬ f (ix n 14) >>> (1 : Int64) &&& 1 = 1 := by rw [hv14]; rcases b14 with z | z <;> rw [z] <;> decide
                rw [if_neg hno]
                have hor : f (ix n 14) ||| (1 : Int64) <<< (1 : Int64) = (h.i (A + 5 + 2 + n) 14).toInt64 + 2 * (1 : Int32).toInt64 := by rw [hv14]; rcases b14 with z | z <;> rw [z] <;> decide
                have hps : paySum f n 1 = h.l A 1 / 2 := by unfold paySum; rw [if_neg (nn z3), if_pos rfl, e1]
                have hpy : paySum f n 1 = lN (p / 2) := by unfold paySum; rw [if_neg (nn z3), if_pos rfl, hd]
                have key : ∃ c q, f (ix n 13) = lN c ∧ c + p / 2 ≤ p ∧ f (ix n 14) ||| (1 : Int64) <<< (1 : Int64) = q ∧ ((q = 2 ∧ lN (c + p / 2) = f 1 / 2) ∨ (q = 3 ∧ lN (c + p / 2) = f 1)) := by
                  rcases b14 with z14 | z14
                  · have hz : f (ix n 14) = 0 := by rw [hv14, z14]; decide
                    have h13 : f (ix n 13) = 0 := by
                      rcases hOV with ⟨-, y⟩ | ⟨-, -, -, ⟨y, -⟩ | ⟨-, ⟨y, -⟩ | ⟨y, -⟩ | ⟨y, -⟩⟩⟩
                      · exact y
                      all_goals (rw [hz] at y; exact absurd y (by decide))
                    exact ⟨0, 2, h13, by omega, by rw [hz]; decide, Or.inl ⟨rfl, by rw [hd, Nat.zero_add]⟩⟩
                  · have hz : f (ix n 14) = 1 := by rw [hv14, z14]; decide
                    have h13 : f (ix n 13) = lN (p - p / 2) := by
                      rcases hOV with ⟨y, -⟩ | ⟨-, -, -, ⟨-, y, -⟩ | ⟨-, ⟨-, y⟩ | ⟨y, -⟩ | ⟨y, -⟩⟩⟩
                      · rw [hz] at y; exact absurd y (by decide)
                      · exact absurd z3 y
                      · exact y.trans hsb
                      · rw [hz] at y; exact absurd y (by decide)
                      · rw [hz] at y; exact absurd y (by decide)
                    exact ⟨p - p / 2, 3, h13, by omega, by rw [hz]; decide, Or.inr ⟨rfl, by rw [ep]; congr 1; omega⟩⟩
                obtain ⟨c, q, k2, k3, k4, k5⟩ := key
                have hci : h.i (A + 5 + 2 + n) 13 = nI c := (t64_n (by omega)).mp (e13.symm.trans k2)
                refine ⟨rfl, ?_, ?_⟩
                · rw [hor, ← hps]
                  unfold rPut
                  have q1 : (h.setI (A + 5 + 2 + n) 15 1).i (A + 5 + 2 + n) 13 = h.i (A + 5 + 2 + n) 13 := up2_k _ _ (by decide)
                  rw [q1, show f (ix n 13) + paySum f n 1 = (h.i (A + 5 + 2 + n) 13 + (paySum f n 1).toInt32).toInt64 by rw [cell_add hci hpy (by omega), e13], e8]
                  exact ((S.h15 hn (Or.inr rfl)).i13 hn).l9 hn
                · have C := (((SeatCh.refl (f := f) (n := n)).up (j := 14) (x := f (ix n 14) ||| (1 : Int64) <<< (1 : Int64)) hn (by decide)).up (j := 13) (x := f (ix n 13) + paySum f n 1) hn (by decide)).up (j := 8) (x := f (ix n 8) + paySum f n 1) hn (by decide)
                  refine O.ch (Nat.le_succ _) C (Or.inr Iff.rfl) ((((O.2.2 n hn).up (Nat.le_succ _)).sD h4 ?_).s8 h4)
                  rw [k4, hpy, k2, lN_add]
                  rcases k5 with ⟨w1, w2⟩ | ⟨w1, w2⟩
                  · exact Or.inr ⟨hf4, hm2, hv4, Or.inr ⟨z3, Or.inr (Or.inl ⟨w1, w2⟩)⟩⟩
                  · exact Or.inr ⟨hf4, hm2, hv4, Or.inr ⟨z3, Or.inr (Or.inr ⟨w1, w2⟩)⟩⟩
              · rw [if_neg (by rw [z15]; decide)]
                have hyes : f (ix n 14) >>> (1 : Int64) &&& 1 = 1 := by rw [e14, z15]; rcases b14 with z | z <;> rw [z] <;> decide
                rw [if_pos hyes]
                exact ⟨rfl, S, O1⟩
  · rw [if_pos c1, c3, d3, if_pos (by decide)]
    dsimp only
    rw [if_neg d1]
    exact ⟨rfl, S, O1⟩
end

