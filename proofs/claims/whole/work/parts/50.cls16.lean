/-! the class: the best bidder -/
def bbC (h : Hp) (A i : Nat) (w : Int32 × Int64) : Int32 × Int64 := if pAb h (A + 5 + 2 + i) = true ∧ w.2 < h.l (A + 5 + 2 + i) 16 then (nI i, h.l (A + 5 + 2 + i) 16) else w
section
variable {cx : Cx} {h : Hp} {A : Nat}
theorem t_bestBidder (hA : RSh h.1 A) : DI cx mX2_bestBidder 4 h [.ref A] (itr (bbC h A) 60 ((-1 : Int32), (-1 : Int64))).1 h := by
  have hB := hA.2.2.2.2.2.1.2
  refine Sp.ofQ 5 (by decide) (Nat.le_of_ble_eq_true rfl) rfl (fun Q hQ => ?_)
  have L : ∀ N, N = 60 → J cx mX2_bestBidder (Rm 4 0 0) h 9 [some (.ref A), some (.int (-1)), some (.long (-1)), none, some (.int (nI 0)), none] [] 0 0 Q := by
    intro N hN
    rw [← hN] at hQ
    refine dn (P := fun n => J cx mX2_bestBidder (Rm 4 0 0) h 9 [some (.ref A), some (.int (itr (bbC h A) n ((-1 : Int32), (-1 : Int64))).1), some (.long (itr (bbC h A) n ((-1 : Int32), (-1 : Int64))).2), none, some (.int (nI n)), none] [] 0 0 Q) N ?_ ?_
    · refine j_iload4 (pc := 9) dX2_bestBidder_9 ?_
      refine j_bipush (pc := 11) (v := nI 60) dX2_bestBidder_11 (by decide) ?_
      refine j_icmpN_ge (pc := 13) (tgt := 61) (by first | decide | omega) (by first | decide | omega) dX2_bestBidder_13 (by decide) (fun c13 => ?_) (fun c13 => by omega)
      refine j_iload1 (pc := 61) dX2_bestBidder_61 ?_
      refine j_iret (pc := 62) dX2_bestBidder_62 rfl rfl ?_
      exact hQ _ _ ⟨_, rfl, rfl, rfl⟩
    · intro n hn ih
      have hn6 : n < 60 := by omega
      have hp := (hB.2.2.2 n hn6).2
      have ih : J cx mX2_bestBidder (Rm 4 0 0) h 9 [some (.ref A), some (.int (bbC h A n (itr (bbC h A) n ((-1 : Int32), (-1 : Int64)))).1), some (.long (bbC h A n (itr (bbC h A) n ((-1 : Int32), (-1 : Int64)))).2), none, some (.int (nI (n + 1))), none] [] 0 0 Q := ih
      generalize itr (bbC h A) n ((-1 : Int32), (-1 : Int64)) = w at ih
      obtain ⟨w1, w2⟩ := w
      unfold bbC at ih
      dsimp only at ih ⊢
      have e1 : pAb h (A + 5 + 2 + n) = true → w2 < h.l (A + 5 + 2 + n) 16 → (pAb h (A + 5 + 2 + n) = true ∧ w2 < h.l (A + 5 + 2 + n) 16) := fun a b => ⟨a, b⟩
      have e0 : pAb h (A + 5 + 2 + n) = true → ¬ h.l (A + 5 + 2 + n) 16 ≤ w2 → (pAb h (A + 5 + 2 + n) = true ∧ w2 < h.l (A + 5 + 2 + n) 16) := fun a b => ⟨a, Int64.not_le.mp b⟩
      have e3 : h.l (A + 5 + 2 + n) 16 ≤ w2 → ¬ (pAb h (A + 5 + 2 + n) = true ∧ w2 < h.l (A + 5 + 2 + n) 16) := fun b z => absurd z.2 (Int64.not_lt.mpr b)
      have e2 : pAb h (A + 5 + 2 + n) = false → ¬ (pAb h (A + 5 + 2 + n) = true ∧ w2 < h.l (A + 5 + 2 + n) 16) := fun b z => nb z.1 b
      refine j_iload4 (pc := 9) dX2_bestBidder_9 ?_
      refine j_bipush (pc := 11) (v := nI 60) dX2_bestBidder_11 (by decide) ?_
      refine j_icmpN_ge (pc := 13) (tgt := 61) (by first | decide | omega) (by first | decide | omega) dX2_bestBidder_13 (by decide) (fun c13 => by omega) (fun c13 => ?_)
      refine j_aload0 (pc := 16) dX2_bestBidder_16 ?_
      refine g_X2_42 (pc := 17) rfl hA.1 hA.2.2.2.2.2.1.1 dX2_bestBidder_17 ?_
      refine g_X2_126 (pc := 20) rfl hA.2.2.2.2.2.1.2.1 hA.2.2.2.2.2.1.2.2.1 dX2_bestBidder_20 ?_
      refine j_iload4 (pc := 23) dX2_bestBidder_23 ?_
      refine j_aald (pc := 25) (by decide) hA.2.2.2.2.2.1.2.2.2.1 (pk_in n 60 hn6 rfl) (hB.r hn6) dX2_bestBidder_25 ?_
      refine j_astore5 (pc := 26) dX2_bestBidder_26 (by decide) trivial ?_
      refine j_aload5 (pc := 28) dX2_bestBidder_28 ?_
      refine cd_X2_261 (pc := 30) rfl (t_isAble hp) hp dX2_bestBidder_30 rfl rfl ?_
      refine j_bif_eq (pc := 33) (tgt := 55) dX2_bestBidder_33 (by decide) (fun c33 => ?_) (fun c33 => ?_)
      · refine j_iincN4 (pc := 55) dX2_bestBidder_55 (by decide) trivial ?_
        refine j_goto (pc := 58) (tgt := 9) dX2_bestBidder_58 (by decide) ?_
        first | (rw [if_pos (e1 c33 c42)] at ih; exact J.wk ih (by simp [lcw])) | (rw [if_pos (e0 c33 c42)] at ih; exact J.wk ih (by simp [lcw])) | (rw [if_neg (e3 c42)] at ih; exact J.wk ih (by simp [lcw])) | (rw [if_neg (e2 c33)] at ih; exact J.wk ih (by simp [lcw]))
      · refine j_aload5 (pc := 36) dX2_bestBidder_36 ?_
        refine g_X2_199 (pc := 38) rfl hp dX2_bestBidder_38 ?_
        refine j_lload2 (pc := 41) dX2_bestBidder_41 ?_
        refine j_lcmp_le (pc := 42) (tgt := 55) dX2_bestBidder_42 dX2_bestBidder_43 (by decide) (fun c42 => ?_) (fun c42 => ?_)
        · refine j_iincN4 (pc := 55) dX2_bestBidder_55 (by decide) trivial ?_
          refine j_goto (pc := 58) (tgt := 9) dX2_bestBidder_58 (by decide) ?_
          first | (rw [if_pos (e1 c33 c42)] at ih; exact J.wk ih (by simp [lcw])) | (rw [if_pos (e0 c33 c42)] at ih; exact J.wk ih (by simp [lcw])) | (rw [if_neg (e3 c42)] at ih; exact J.wk ih (by simp [lcw])) | (rw [if_neg (e2 c33)] at ih; exact J.wk ih (by simp [lcw]))
        · refine j_iload4 (pc := 46) dX2_bestBidder_46 ?_
          refine j_istore1 (pc := 48) dX2_bestBidder_48 (by decide) trivial ?_
          refine j_aload5 (pc := 49) dX2_bestBidder_49 ?_
          refine g_X2_199 (pc := 51) rfl hp dX2_bestBidder_51 ?_
          refine j_lstore2 (pc := 54) dX2_bestBidder_54 (by decide) trivial ?_
          refine j_iincN4 (pc := 55) dX2_bestBidder_55 (by decide) trivial ?_
          refine j_goto (pc := 58) (tgt := 9) dX2_bestBidder_58 (by decide) ?_
          first | (rw [if_pos (e1 c33 c42)] at ih; exact J.wk ih (by simp [lcw])) | (rw [if_pos (e0 c33 c42)] at ih; exact J.wk ih (by simp [lcw])) | (rw [if_neg (e3 c42)] at ih; exact J.wk ih (by simp [lcw])) | (rw [if_neg (e2 c33)] at ih; exact J.wk ih (by simp [lcw]))
  refine j_iconst (pc := 0) (v := (-1)) dX2_bestBidder_0 (by decide) ?_
  refine j_istore1 (pc := 1) dX2_bestBidder_1 (by decide) trivial ?_
  refine j_ldc2 (pc := 2) dX2_bestBidder_2 wT_kl_X2_271 ?_
  refine j_lstore2 (pc := 5) dX2_bestBidder_5 (by decide) trivial ?_
  refine j_iconst (pc := 6) (v := nI 0) dX2_bestBidder_6 (by decide) ?_
  refine j_istore4 (pc := 7) dX2_bestBidder_7 (by decide) trivial ?_
  exact L 60 rfl
end

