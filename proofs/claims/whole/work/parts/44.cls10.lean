/-! the class: telling the order -/
def rTell (h : Hp) (A : Nat) (s : Int32) (T : Nat) : Int32 × Hp := if h.i (A + 5) 1 = 0 then (match bMem h (A + 5) s with | none => (3, h) | some _ => if h.i A 0 = 0 then (if rTold h A s T = true then (8, h) else if T < 60 then (0, (h.setI (A + 1) T s).setI A 4 (nI (T + 1))) else (8, h)) else (4, h)) else (2, h)
section
variable {cx : Cx} {h : Hp} {A : Nat}
theorem t_tellNext {s : Int32} {T : Nat} (hA : RSh h.1 A) (hT : h.i A 4 = nI T) (hT6 : T ≤ 60) : DI cx mX2_tellNext 2 h [.ref A, .int s] (rTell h A s T).1 (rTell h A s T).2 := by
  have S := t_memberAt (cx := cx) (h := h) (B := A + 5) (s := s) hA.2.2.2.2.2.1.2
  unfold rTell
  by_cases h1 : h.i (A + 5) 1 = 0
  · rw [if_pos h1]
    cases hm : bMem h (A + 5) s with
    | none =>
      rw [hm] at S
      refine Sp.of 0 (by decide) (Nat.le_of_ble_eq_true rfl) rfl ?_
      refine j_aload0 (pc := 0) dX2_tellNext_0 ?_
      refine g_X2_42 (pc := 1) rfl hA.1 hA.2.2.2.2.2.1.1 dX2_tellNext_1 ?_
      refine g_X2_85 (pc := 4) rfl hA.2.2.2.2.2.1.2.1 dX2_tellNext_4 ?_
      refine j_if_eq (pc := 7) (tgt := 12) dX2_tellNext_7 (by decide) (fun c7 => ?_) (fun c7 => by exact absurd h1 c7)
      refine j_aload0 (pc := 12) dX2_tellNext_12 ?_
      refine g_X2_42 (pc := 13) rfl hA.1 hA.2.2.2.2.2.1.1 dX2_tellNext_13 ?_
      refine j_iload1 (pc := 16) dX2_tellNext_16 ?_
      refine cd_X2_106 (pc := 17) rfl (S) hA.2.2.2.2.2.1.2.1 dX2_tellNext_17 rfl rfl ?_
      refine j_rn ?_
      refine j_ifnonnullN (pc := 20) dX2_tellNext_20 ?_
      refine j_iconst (pc := 23) (v := 3) dX2_tellNext_23 (by decide) ?_
      refine j_iret (pc := 24) dX2_tellNext_24 rfl rfl ?_
      exact ⟨_, rfl, rfl, rfl⟩
    | some m =>
      rw [hm] at S
      dsimp only
      refine Sp.of 0 (by decide) (Nat.le_of_ble_eq_true rfl) rfl ?_
      refine j_aload0 (pc := 0) dX2_tellNext_0 ?_
      refine g_X2_42 (pc := 1) rfl hA.1 hA.2.2.2.2.2.1.1 dX2_tellNext_1 ?_
      refine g_X2_85 (pc := 4) rfl hA.2.2.2.2.2.1.2.1 dX2_tellNext_4 ?_
      refine j_if_eq (pc := 7) (tgt := 12) dX2_tellNext_7 (by decide) (fun c7 => ?_) (fun c7 => by exact absurd h1 c7)
      refine j_aload0 (pc := 12) dX2_tellNext_12 ?_
      refine g_X2_42 (pc := 13) rfl hA.1 hA.2.2.2.2.2.1.1 dX2_tellNext_13 ?_
      refine j_iload1 (pc := 16) dX2_tellNext_16 ?_
      refine cd_X2_106 (pc := 17) rfl (S) hA.2.2.2.2.2.1.2.1 dX2_tellNext_17 rfl rfl ?_
      refine j_rs ?_
      refine j_ifnonnull (pc := 20) (tgt := 25) dX2_tellNext_20 (by decide) ?_
      refine j_aload0 (pc := 25) dX2_tellNext_25 ?_
      refine g_X2_9 (pc := 26) rfl hA.1 dX2_tellNext_26 ?_
      refine j_if_eq (pc := 29) (tgt := 34) dX2_tellNext_29 (by decide) (fun c29 => ?_) (fun c29 => ?_)
      · refine j_aload0 (pc := 34) dX2_tellNext_34 ?_
        refine j_iload1 (pc := 35) dX2_tellNext_35 ?_
        refine cd_X2_112 (pc := 36) rfl (t_isTold hA hT hT6) hA.1 dX2_tellNext_36 rfl rfl ?_
        refine j_bif_ne (pc := 39) (tgt := 51) dX2_tellNext_39 (by decide) (fun c39 => ?_) (fun c39 => ?_)
        · refine j_bipush (pc := 51) (v := 8) dX2_tellNext_51 (by decide) ?_
          refine j_iret (pc := 53) dX2_tellNext_53 rfl rfl ?_
          exact ⟨_, rfl, (by have z : rTold h A s T = true ∨ ¬ T < 60 := (by first | exact Or.inl c39 | exact Or.inr (by omega)); rcases z with z | z <;> simp [c29, z]), (by have z : rTold h A s T = true ∨ ¬ T < 60 := (by first | exact Or.inl c39 | exact Or.inr (by omega)); rcases z with z | z <;> simp [c29, z])⟩
        · refine j_aload0 (pc := 42) dX2_tellNext_42 ?_
          refine g_X2_62 (pc := 43) rfl hA.1 dX2_tellNext_43 ?_
          rw [hT]
          refine j_bipush (pc := 46) (v := nI 60) dX2_tellNext_46 (by decide) ?_
          refine j_icmpN_lt (pc := 48) (tgt := 54) (by first | decide | omega) (by first | decide | omega) dX2_tellNext_48 (by decide) (fun c48 => ?_) (fun c48 => ?_)
          · refine j_aload0 (pc := 54) dX2_tellNext_54 ?_
            refine g_X2_22 (pc := 55) rfl hA.1 hA.2.1.1 dX2_tellNext_55 ?_
            refine j_aload0 (pc := 58) dX2_tellNext_58 ?_
            refine g_X2_62 (pc := 59) rfl hA.1 dX2_tellNext_59 ?_
            rw [hT]
            refine j_iload1 (pc := 62) dX2_tellNext_62 ?_
            refine j_iast (pc := 63) hA.2.1.2 (pk_in T 60 c48 rfl) dX2_tellNext_63 ?_
            rw [nI_clamp (show T < 2 ^ 31 by omega)]
            refine j_aload0 (pc := 64) dX2_tellNext_64 ?_
            refine j_dup (pc := 65) dX2_tellNext_65 ?_
            refine g_X2_62 (pc := 66) rfl hA.1 dX2_tellNext_66 ?_
            rw [show (h.setI (A + 1) T s).i A 4 = nI T from (up2_a _ _ (by omega)).trans hT]
            refine j_iconst (pc := 69) (v := nI 1) dX2_tellNext_69 (by decide) ?_
            refine j_iaddN (pc := 70) dX2_tellNext_70 ?_
            refine p_X2_62 (pc := 71) rfl hA.1 dX2_tellNext_71 ?_
            refine j_iconst (pc := 74) (v := 0) dX2_tellNext_74 (by decide) ?_
            refine j_iret (pc := 75) dX2_tellNext_75 rfl rfl ?_
            exact ⟨_, rfl, by simp_all, by simp_all⟩
          · refine j_bipush (pc := 51) (v := 8) dX2_tellNext_51 (by decide) ?_
            refine j_iret (pc := 53) dX2_tellNext_53 rfl rfl ?_
            exact ⟨_, rfl, (by have z : rTold h A s T = true ∨ ¬ T < 60 := (by first | exact Or.inl c39 | exact Or.inr (by omega)); rcases z with z | z <;> simp [c29, z]), (by have z : rTold h A s T = true ∨ ¬ T < 60 := (by first | exact Or.inl c39 | exact Or.inr (by omega)); rcases z with z | z <;> simp [c29, z])⟩
      · refine j_iconst (pc := 32) (v := 4) dX2_tellNext_32 (by decide) ?_
        refine j_iret (pc := 33) dX2_tellNext_33 rfl rfl ?_
        exact ⟨_, rfl, by rw [if_neg c29], by rw [if_neg c29]⟩
  · rw [if_neg h1]
    refine Sp.of 0 (by decide) (Nat.le_of_ble_eq_true rfl) rfl ?_
    refine j_aload0 (pc := 0) dX2_tellNext_0 ?_
    refine g_X2_42 (pc := 1) rfl hA.1 hA.2.2.2.2.2.1.1 dX2_tellNext_1 ?_
    refine g_X2_85 (pc := 4) rfl hA.2.2.2.2.2.1.2.1 dX2_tellNext_4 ?_
    refine j_if_eq (pc := 7) (tgt := 12) dX2_tellNext_7 (by decide) (fun c7 => by exact absurd c7 h1) (fun c7 => ?_)
    refine j_iconst (pc := 10) (v := 2) dX2_tellNext_10 (by decide) ?_
    refine j_iret (pc := 11) dX2_tellNext_11 rfl rfl ?_
    exact ⟨_, rfl, rfl, rfl⟩
end

