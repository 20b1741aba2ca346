/-! the class: who draws -/
def bestC (h : Hp) (A : Nat) : Int32 := (itr (bbC h A) 60 ((-1 : Int32), (-1 : Int64))).1
def rWho (h : Hp) (A T r L : Nat) : Nat → Int32
  | 0 => rFirst h A T
  | 1 => rLots h A r L
  | 2 => bestC h A
  | _ => rNeed h A
section
variable {cx : Cx} {h : Hp} {A : Nat}
theorem t_whoDraws {k T r L : Nat} (hA : RSh h.1 A) (hK : h.i A 0 = nI k) (hk4 : k < 4) (hT : h.i A 4 = nI T) (hT6 : T ≤ 60) (hR : h.i (A + 5) 2 = nI r) (hr : r < 2 ^ 31) (hL : h.i (A + 5) 6 = nI L) (hL6 : L ≤ 60) : DI cx mX2_whoDraws 6 h [.ref A] (rWho h A T r L k) h := by
  have S0 := t_firstInOrder (cx := cx) hA hT hT6
  have S1 := t_drawnByLot (cx := cx) hA hR hr hL hL6
  have S2 : DI cx mX2_bestBidder 4 h [.ref A] (bestC h A) h := t_bestBidder (cx := cx) hA
  have S3 := t_neediest (cx := cx) hA
  rcases (show k = 0 ∨ k = 1 ∨ k = 2 ∨ k = 3 by omega) with rfl | rfl | rfl | rfl
  · refine Sp.of 0 (by decide) (Nat.le_of_ble_eq_true rfl) rfl ?_
    refine j_aload0 (pc := 0) dX2_whoDraws_0 ?_
    refine g_X2_9 (pc := 1) rfl hA.1 dX2_whoDraws_1 ?_
    rw [hK]
    refine j_tabIn (off := 28) (tgt := 32) dX2_whoDraws_4 (by decide) (by decide) (by decide) (by decide) ?_
    refine j_aload0 (pc := 32) dX2_whoDraws_32 ?_
    refine cd_X2_249 (pc := 33) rfl (S0) hA.1 dX2_whoDraws_33 rfl rfl ?_
    refine j_iret (pc := 36) dX2_whoDraws_36 rfl rfl ?_
    exact ⟨_, rfl, rfl, rfl⟩
  · refine Sp.of 0 (by decide) (Nat.le_of_ble_eq_true rfl) rfl ?_
    refine j_aload0 (pc := 0) dX2_whoDraws_0 ?_
    refine g_X2_9 (pc := 1) rfl hA.1 dX2_whoDraws_1 ?_
    rw [hK]
    refine j_tabIn (off := 33) (tgt := 37) dX2_whoDraws_4 (by decide) (by decide) (by decide) (by decide) ?_
    refine j_aload0 (pc := 37) dX2_whoDraws_37 ?_
    refine cd_X2_252 (pc := 38) rfl (S1) hA.1 dX2_whoDraws_38 rfl rfl ?_
    refine j_iret (pc := 41) dX2_whoDraws_41 rfl rfl ?_
    exact ⟨_, rfl, rfl, rfl⟩
  · refine Sp.of 0 (by decide) (Nat.le_of_ble_eq_true rfl) rfl ?_
    refine j_aload0 (pc := 0) dX2_whoDraws_0 ?_
    refine g_X2_9 (pc := 1) rfl hA.1 dX2_whoDraws_1 ?_
    rw [hK]
    refine j_tabIn (off := 38) (tgt := 42) dX2_whoDraws_4 (by decide) (by decide) (by decide) (by decide) ?_
    refine j_aload0 (pc := 42) dX2_whoDraws_42 ?_
    refine cd_X2_255 (pc := 43) rfl (S2) hA.1 dX2_whoDraws_43 rfl rfl ?_
    refine j_iret (pc := 46) dX2_whoDraws_46 rfl rfl ?_
    exact ⟨_, rfl, rfl, rfl⟩
  · refine Sp.of 0 (by decide) (Nat.le_of_ble_eq_true rfl) rfl ?_
    refine j_aload0 (pc := 0) dX2_whoDraws_0 ?_
    refine g_X2_9 (pc := 1) rfl hA.1 dX2_whoDraws_1 ?_
    rw [hK]
    refine j_tabOut (tgt := 47) dX2_whoDraws_4 (by decide) (by decide) ?_
    refine j_aload0 (pc := 47) dX2_whoDraws_47 ?_
    refine cd_X2_258 (pc := 48) rfl (S3) hA.1 dX2_whoDraws_48 rfl rfl ?_
    refine j_iret (pc := 51) dX2_whoDraws_51 rfl rfl ?_
    exact ⟨_, rfl, rfl, rfl⟩
end

