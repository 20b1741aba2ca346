/-! an open ring: calls that change one place -/
section
variable {h : Hp} {A K : Nat} {f : Fl}
theorem so_came {s : Int32} (S : Sm h A (A + 5) f) : bCell h (A + 5) s = fCame f (sN s) := by
  unfold bCell fCame
  rcases sN_cases s with ⟨hso, hsn⟩ | ⟨n, hn, hse, hso⟩ <;> rw [hso] <;> dsimp only
  have e7 : f 7 ≤ lN n ↔ h.i (A + 5) 4 ≤ nI n := by rw [show f 7 = (h.i (A + 5) 4).toInt64 from S.k 7 (by decide), ← nI_l (show n < 2 ^ 31 by omega)]; exact Int32.toInt64_le
  by_cases h7 : f 7 ≤ lN n
  · rw [if_pos h7, if_neg (Int32.not_lt.mpr (e7.mp h7))]
  · rw [if_neg h7, if_pos (Int32.not_le.mp (fun z => h7 (e7.mpr z))), show f (ix n 13) = (h.i (A + 5 + 2 + n) 13).toInt64 from S.s hn 13 (by decide), Int32.toInt32_toInt64]
theorem so_deposit {s x : Int32} (S : Sm h A (A + 5) f) (O : Ok K f) : (rDep h A s x).1 = (fDeposit f (sN s) x).1 ∧ Sm (rDep h A s x).2 A (A + 5) (fDeposit f (sN s) x).2 ∧ Ok (K + 1) (fDeposit f (sN s) x).2 := by
  have O1 : Ok (K + 1) f := O.mono (Nat.le_succ _)
  unfold rDep fDeposit
  rcases pl_cases S O s with ⟨c1, c2, c3⟩ | ⟨c1, c2, c3, c4⟩ | ⟨n, hn, hse, hso, c1, c2, c3, c4, ⟨d1, d2, d3⟩ | ⟨d1, d2, d3⟩⟩
  · rw [if_neg c1, c3, if_pos (by decide)]
    exact ⟨rfl, S, O1⟩
  · rw [if_pos c1, c3, c4, if_pos (by decide)]
    exact ⟨rfl, S, O1⟩
  · rw [if_pos c1, c3, d3, if_neg (by decide), hso]
    dsimp only
    rw [if_pos d1]
    have e0 : f (ix n 0) = 4 ↔ h.i (A + 5 + 2 + n) 0 = 4 := by rw [show f (ix n 0) = (h.i (A + 5 + 2 + n) 0).toInt64 from S.s hn 0 (by decide)]; exact t64_e4
    by_cases h0 : f (ix n 0) = 4
    · rw [if_pos (e0.mp h0), if_neg (nn h0)]
      by_cases hx : x < 1 ∨ 100000000 < x
      · rw [if_neg (fun z => wn1d.mp z hx), if_pos hx]
        exact ⟨rfl, S, O1⟩
      · rw [if_pos (wn1d.mpr hx), if_neg hx]
        have e7 : f (ix n 7) = h.l (A + 5 + 2 + n) 8 := S.s hn 7 (by decide)
        refine ⟨rfl, by rw [e7]; exact S.l8 hn, ?_⟩
        refine O.ch (Nat.le_succ _) ((SeatCh.refl (n := n)).up hn (by decide)) (Or.inr Iff.rfl) (((O.2.2 n hn).up (Nat.le_succ _)).s7 (by rw [c2]; decide) ?_)
        obtain ⟨m, hm0, hm, rfl⟩ := nI_rng (a := 1) (b := 100000000) rfl rfl (by decide) (by decide) hx
        obtain ⟨d, hd, e⟩ := (O.2.2 n hn).2.2.2.2.2.1
        exact ⟨d + m, by omega, by rw [show f (ix n 7) = lN d from e, nI_l (by omega), lN_add]⟩
    · rw [if_neg (fun z => h0 (e0.mpr z)), if_pos h0]
      exact ⟨rfl, S, O1⟩
  · rw [if_pos c1, c3, d3, if_pos (by decide)]
    dsimp only
    rw [if_neg d1]
    exact ⟨rfl, S, O1⟩
theorem so_late {s : Int32} (S : Sm h A (A + 5) f) (O : Ok K f) (hK : K ≤ 600) : (rLate h A s).1 = (fLate f (sN s)).1 ∧ Sm (rLate h A s).2 A (A + 5) (fLate f (sN s)).2 ∧ Ok (K + 1) (fLate f (sN s)).2 := by
  have O1 : Ok (K + 1) f := O.mono (Nat.le_succ _)
  unfold rLate fLate
  rcases pl_cases S O s with ⟨c1, c2, c3⟩ | ⟨c1, c2, c3, c4⟩ | ⟨n, hn, hse, hso, c1, c2, c3, c4, ⟨d1, d2, d3⟩ | ⟨d1, d2, d3⟩⟩
  · rw [if_neg c1, c3, if_pos (by decide)]
    exact ⟨rfl, S, O1⟩
  · rw [if_pos c1, c3, c4, if_pos (by decide)]
    exact ⟨rfl, S, O1⟩
  · rw [if_pos c1, c3, d3, if_neg (by decide), hso]
    dsimp only
    rw [if_pos d1]
    have e5 : f (ix n 5) = h.l (A + 5 + 2 + n) 6 := S.s hn 5 (by decide)
    by_cases h5 : f (ix n 5) = 0
    · rw [if_pos h5, if_pos (e5.symm.trans h5)]
      exact ⟨rfl, S, O1⟩
    · rw [if_neg h5, if_neg (fun z => h5 (e5.trans z))]
      have e3 : f 3 = h.l (A + 5) 8 := S.k 3 (by decide)
      have e2 : f 2 = h.l A 2 := S.k 2 (by decide)
      have e11 : f 11 = h.l (A + 5) 9 := S.k 11 (by decide)
      have e8 : f (ix n 8) = h.l (A + 5 + 2 + n) 9 := S.s hn 8 (by decide)
      refine ⟨rfl, ?_, ?_⟩
      · have S1 : Sm (lt1 h A (A + 5 + 2 + n)) A (A + 5) (upF f 3 (f 3 + (f (ix n 5) + f 2))) := by rw [e3, e5, e2]; exact S.bl8
        have S2 : Sm (lt2 (lt1 h A (A + 5 + 2 + n)) A) A (A + 5) (upF (upF f 3 (f 3 + (f (ix n 5) + f 2))) 11 (f 11 + f 2)) := by
          have q1 : (lt1 h A (A + 5 + 2 + n)).l (A + 5) 9 = f 11 := (up2_k _ _ (by decide)).trans e11.symm
          have q2 : (lt1 h A (A + 5 + 2 + n)).l A 2 = f 2 := (up2_a _ _ (by omega)).trans e2.symm
          unfold lt2
          rw [q1, q2]
          exact S1.bl9
        have q3 : (lt2 (lt1 h A (A + 5 + 2 + n)) A).l (A + 5 + 2 + n) 9 = f (ix n 8) := ((up2_a _ _ (by omega)).trans (up2_a _ _ (by omega))).trans e8.symm
        have q4 : (lt2 (lt1 h A (A + 5 + 2 + n)) A).l (A + 5 + 2 + n) 6 = f (ix n 5) := ((up2_a _ _ (by omega)).trans (up2_a _ _ (by omega))).trans e5.symm
        unfold lt3
        rw [q3, q4]
        exact (S2.l9 hn).l6 hn
      · have C := ((SeatCh.refl (f := upF (upF f 3 (f 3 + (f (ix n 5) + f 2))) 11 (f 11 + f 2)) (n := n)).up (j := 8) (x := f (ix n 8) + f (ix n 5)) hn (by decide)).up (j := 5) (x := 0) hn (by decide)
        have ek : ∀ k, k ≠ 3 → k ≠ 11 → upF (upF f 3 (f 3 + (f (ix n 5) + f 2))) 11 (f 11 + f 2) k = f k := fun k h1 h2 => by rw [upF_n _ _ h2, upF_n _ _ h1]
        obtain ⟨d, hd, ed⟩ := (O.2.2 n hn).2.2.2.1
        have ed : f (ix n 5) = lN d := ed
        have O2 : Ok (K + 1) (upF (upF f 3 (f 3 + (f (ix n 5) + f 2))) 11 (f 11 + f 2)) := by
          refine O.low (Nat.le_succ _) ?_ (ek 0 (by decide) (by decide)) (ek 1 (by decide) (by decide)) (ek 4 (by decide) (by decide)) (ek 6 (by decide) (by decide)) (fun k h1 h2 => ek k (by omega) (by omega))
          obtain ⟨a1, a2, ⟨q, b1, b2⟩, ⟨c, b3, b4⟩, a5, a6, a7, a8, ⟨st, b5, b6⟩, a10, ⟨t, t1, t2, t3⟩, ⟨u, u1, u2, u3, u4⟩⟩ := O.1
          unfold OkL asOK loOK toD
          simp only [ek 0 (by decide) (by decide), ek 1 (by decide) (by decide), ek 2 (by decide) (by decide), ek 4 (by decide) (by decide), ek 5 (by decide) (by decide), ek 6 (by decide) (by decide), ek 7 (by decide) (by decide), ek 8 (by decide) (by decide), ek 9 (by decide) (by decide), ek 10 (by decide) (by decide), ek 12 (by decide) (by decide)]
          refine ⟨a1, a2, ⟨q, b1, b2⟩, ⟨c + (d + q), ?_, ?_⟩, a5, a6, a7, a8, ⟨st, by omega, b6⟩, a10, ⟨t, t1, t2, fun k hk => ?_⟩, ⟨u, u1, u2, fun k hk => ?_, fun j k hj hk e => ?_⟩⟩
          · have : d ≤ 600 * 10000000 := Nat.le_trans hd (Nat.mul_le_mul_right _ hK)
            rw [show (K + 1 + 1) * 10000000000 = (K + 1) * 10000000000 + 10000000000 from Nat.succ_mul _ _]
            omega
          · rw [upF_n _ _ (by decide), upF_s, b4, ed, b2, lN_add, lN_add]
          · rw [ek _ (by omega) (by omega)]; exact t3 k hk
          · rw [ek _ (by omega) (by omega)]; exact u3 k hk
          · rw [ek _ (by omega) (by omega), ek _ (by omega) (by omega)] at e; exact u4 j k hj hk e
        have h4 : ¬ upF (upF f 3 (f 3 + (f (ix n 5) + f 2))) 11 (f 11 + f 2) 4 = 0 := by rw [ek 4 (by decide) (by decide), c2]; decide
        exact O2.ch (Nat.le_refl _) C (Or.inr Iff.rfl) (((O2.2.2 n hn).s8 h4).s5 h4 ⟨0, Nat.zero_le _, rfl⟩)
  · rw [if_pos c1, c3, d3, if_pos (by decide)]
    dsimp only
    rw [if_neg d1]
    exact ⟨rfl, S, O1⟩
end

