/-! the reference's constructor -/
def mdl (h : Hp) (M : Nat) : Hp := ((((((((((h.new 2 55720).setR M 0 (some (M + 1))).new 2 863660).setR M 2 (some (M + 2))).new 1 620).setR M 3 (some (M + 3))).new 2 120000).setR M 5 (some (M + 4))).new 2 180).setR M 6 (some (M + 5)))
section
variable {cx : Cx} {h : Hp} {M : Nat}
theorem s_init5 (hk : h.kd M = kObj 5) (hn : h.n = M + 1) : Sp cx mX5_init 1 5 1040180 h [.ref M] (Rv fun g => g = mdl h M) := by
  refine Sp.ofQ 0 (by decide) (Nat.le_of_ble_eq_true rfl) rfl (fun Q hQ => ?_)
  unfold mdl at hQ
  have hk0 : (h.new 2 55720).kd M = kObj 5 := (new_kd (show M ≠ h.n by show M ≠ h.n + 0; omega)).trans hk
  have hn0 : h.n = M + 1 := by show h.n + 0 = M + 1; omega
  have hk1 : (((h.new 2 55720).setR M 0 (some (M + 1))).new 2 863660).kd M = kObj 5 := (new_kd (show M ≠ ((h.new 2 55720).setR M 0 (some (M + 1))).n by show M ≠ h.n + 1; omega)).trans hk0
  have hn1 : ((h.new 2 55720).setR M 0 (some (M + 1))).n = M + 2 := by show h.n + 1 = M + 2; omega
  have hk2 : (((((h.new 2 55720).setR M 0 (some (M + 1))).new 2 863660).setR M 2 (some (M + 2))).new 1 620).kd M = kObj 5 := (new_kd (show M ≠ ((((h.new 2 55720).setR M 0 (some (M + 1))).new 2 863660).setR M 2 (some (M + 2))).n by show M ≠ h.n + 2; omega)).trans hk1
  have hn2 : ((((h.new 2 55720).setR M 0 (some (M + 1))).new 2 863660).setR M 2 (some (M + 2))).n = M + 3 := by show h.n + 2 = M + 3; omega
  have hk3 : (((((((h.new 2 55720).setR M 0 (some (M + 1))).new 2 863660).setR M 2 (some (M + 2))).new 1 620).setR M 3 (some (M + 3))).new 2 120000).kd M = kObj 5 := (new_kd (show M ≠ ((((((h.new 2 55720).setR M 0 (some (M + 1))).new 2 863660).setR M 2 (some (M + 2))).new 1 620).setR M 3 (some (M + 3))).n by show M ≠ h.n + 3; omega)).trans hk2
  have hn3 : ((((((h.new 2 55720).setR M 0 (some (M + 1))).new 2 863660).setR M 2 (some (M + 2))).new 1 620).setR M 3 (some (M + 3))).n = M + 4 := by show h.n + 3 = M + 4; omega
  have hk4 : (((((((((h.new 2 55720).setR M 0 (some (M + 1))).new 2 863660).setR M 2 (some (M + 2))).new 1 620).setR M 3 (some (M + 3))).new 2 120000).setR M 5 (some (M + 4))).new 2 180).kd M = kObj 5 := (new_kd (show M ≠ ((((((((h.new 2 55720).setR M 0 (some (M + 1))).new 2 863660).setR M 2 (some (M + 2))).new 1 620).setR M 3 (some (M + 3))).new 2 120000).setR M 5 (some (M + 4))).n by show M ≠ h.n + 4; omega)).trans hk3
  have hn4 : ((((((((h.new 2 55720).setR M 0 (some (M + 1))).new 2 863660).setR M 2 (some (M + 2))).new 1 620).setR M 3 (some (M + 3))).new 2 120000).setR M 5 (some (M + 4))).n = M + 5 := by show h.n + 4 = M + 5; omega
  refine j_aload0 (pc := 0) dX5_init_0 ?_
  refine ob_X5_3 (pc := 1) rfl (by decide) rfl dX5_init_1 ?_
  refine j_aload0 (pc := 4) dX5_init_4 ?_
  refine j_ldc (pc := 5) dX5_init_5 wT_k_X5_9 ?_
  refine j_newL (N := 55720) (by decide) (by decide) (by decide) wT_arr_long dX5_init_7 ?_
  rw [hn0]
  refine p_X5_10 (pc := 9) rfl hk0 rfl dX5_init_9 ?_
  refine j_aload0 (pc := 12) dX5_init_12 ?_
  refine j_ldc (pc := 13) dX5_init_13 wT_k_X5_14 ?_
  refine j_newL (N := 863660) (by decide) (by decide) (by decide) wT_arr_long dX5_init_15 ?_
  rw [hn1]
  refine p_X5_15 (pc := 17) rfl hk1 rfl dX5_init_17 ?_
  refine j_aload0 (pc := 20) dX5_init_20 ?_
  refine j_sipush (pc := 21) (v := 620) dX5_init_21 (by decide) ?_
  refine j_newI (N := 620) (by decide) (by decide) (by decide) wT_arr_int dX5_init_24 ?_
  rw [hn2]
  refine p_X5_18 (pc := 26) rfl hk2 rfl dX5_init_26 ?_
  refine j_aload0 (pc := 29) dX5_init_29 ?_
  refine j_ldc (pc := 30) dX5_init_30 wT_k_X5_22 ?_
  refine j_newL (N := 120000) (by decide) (by decide) (by decide) wT_arr_long dX5_init_32 ?_
  rw [hn3]
  refine p_X5_23 (pc := 34) rfl hk3 rfl dX5_init_34 ?_
  refine j_aload0 (pc := 37) dX5_init_37 ?_
  refine j_sipush (pc := 38) (v := 180) dX5_init_38 (by decide) ?_
  refine j_newL (N := 180) (by decide) (by decide) (by decide) wT_arr_long dX5_init_41 ?_
  rw [hn4]
  refine p_X5_26 (pc := 43) rfl hk4 rfl dX5_init_43 ?_
  refine j_vret (pc := 46) dX5_init_46 rfl ?_
  exact hQ _ _ ⟨rfl, rfl⟩
end

