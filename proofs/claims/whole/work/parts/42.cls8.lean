/-! the class: a new ring -/
def rg1 (h : Hp) (A : Nat) (k : Int32) (p f : Int64) : Hp := ((h.setI A 0 k).setL A 1 p).setL A 2 f
def rg2 (g : Hp) (A : Nat) : Hp := (g.new 1 60).setR A 3 (some (A + 1))
def rg3 (g : Hp) (A : Nat) : Hp := (g.new 1 60).setR A 5 (some (A + 2))
def rg4 (g : Hp) (A : Nat) : Hp := (g.new 2 240).setR A 6 (some (A + 3))
def rg5 (g : Hp) (A : Nat) : Hp := (g.new (3 + 3) 512).setR A 7 (some (A + 4))
def rg6 (g : Hp) (A : Nat) : Hp := (bkN (g.new (10 + 0) 0) (A + 5)).setR A 8 (some (A + 5))
def rg7 (g : Hp) (A : Nat) (c : Int64) : Hp := g.setL (A + 5) 8 c
def rg8 (g : Hp) (A : Nat) : Hp := (g.new (3 + 0) 60).setR A 9 (some (A + 67))
def rgN (h : Hp) (A : Nat) (k : Int32) (p f c : Int64) : Hp := rg8 (rg7 (rg6 (rg5 (rg4 (rg3 (rg2 (rg1 h A k p f) A) A) A) A) A) A c) A
theorem bkS_kd {g : Hp} {B x : Nat} (hx : x < B) : ∀ n, (∀ m, m ≤ n → x ≠ (itr (bkS B) m g).n) → (itr (bkS B) n g).kd x = g.kd x := by
  intro n
  induction n with
  | zero => intro _; rfl
  | succ n ih =>
    intro hm
    have z := ih (fun m h => hm m (by omega))
    exact (if_neg (hm n (by omega))).trans z
theorem bkN_kd {h : Hp} {B x : Nat} (hk : h.kd B = kObj 0) (hn : h.n = B + 1) (hx : x < B) : (bkN h B).kd x = h.kd x := by
  have z := bkS_kd (g := bk0 h B) hx 60 (fun m _ => by have q : (itr (bkS B) m (bk0 h B)).n = B + 2 + m := (BI.all hk hn m).1; omega)
  have y : (bk0 h B).kd x = h.kd x := if_neg (show ¬ x = h.n by omega)
  rw [y] at z
  unfold bkN
  generalize itr (bkS B) 60 (bk0 h B) = g at z
  exact z
theorem bkN_n {h : Hp} {B : Nat} (hk : h.kd B = kObj 0) (hn : h.n = B + 1) : (bkN h B).n = B + 62 := by
  have q := (BI.all hk hn 60).1
  unfold bkN
  generalize itr (bkS B) 60 (bk0 h B) = g at q
  exact q
section
variable {cx : Cx} {h : Hp} {A : Nat}
theorem t_init2 {k : Int32} {p f c : Int64} (hk : h.kd A = kObj 2) (hn : h.n = A + 1) : Sp cx mX2_init 3 67 2082 h [.ref A, .int k, .long p, .long f, .long c] (Rv fun g => g = rgN h A k p f c) := by
  refine Sp.ofQ 0 (by decide) (Nat.le_of_ble_eq_true rfl) rfl (fun Q hQ => ?_)
  unfold rgN at hQ
  refine j_aload0 (pc := 0) dX2_init_0 ?_
  refine ob_X2_3 (pc := 1) rfl (by decide) rfl dX2_init_1 ?_
  refine j_aload0 (pc := 4) dX2_init_4 ?_
  refine j_iload1 (pc := 5) dX2_init_5 ?_
  refine p_X2_9 (pc := 6) rfl hk rfl dX2_init_6 ?_
  refine j_aload0 (pc := 9) dX2_init_9 ?_
  refine j_lload2 (pc := 10) dX2_init_10 ?_
  refine p_X2_15 (pc := 11) rfl hk rfl dX2_init_11 ?_
  refine j_aload0 (pc := 14) dX2_init_14 ?_
  refine j_lload4 (pc := 15) dX2_init_15 ?_
  refine p_X2_19 (pc := 17) rfl hk rfl dX2_init_17 ?_
  have hk1 : (rg1 h A k p f).kd A = kObj 2 := hk
  have hn1 : (rg1 h A k p f).n = A + 1 := hn
  show J cx mX2_init _ (rg1 h A k p f) _ _ _ _ _ _
  generalize rg1 h A k p f = g1 at hQ hk1 hn1
  refine j_aload0 (pc := 20) dX2_init_20 ?_
  refine j_bipush (pc := 21) (v := 60) dX2_init_21 (by decide) ?_
  refine j_newI (N := 60) (by decide) (by decide) (by decide) wT_arr_int dX2_init_23 ?_
  rw [hn1]
  refine p_X2_22 (pc := 25) rfl (show (g1.new 1 60).kd A = kObj 2 from (new_kd (by omega)).trans hk1) rfl dX2_init_25 ?_
  have hk2 : (rg2 g1 A).kd A = kObj 2 := (new_kd (by omega)).trans hk1
  have hn2 : (rg2 g1 A).n = A + 2 := congrArg (· + 1) hn1
  show J cx mX2_init _ (rg2 g1 A) _ _ _ _ _ _
  generalize rg2 g1 A = g2 at hQ hk2 hn2
  refine j_aload0 (pc := 28) dX2_init_28 ?_
  refine j_bipush (pc := 29) (v := 60) dX2_init_29 (by decide) ?_
  refine j_newI (N := 60) (by decide) (by decide) (by decide) wT_arr_int dX2_init_31 ?_
  rw [hn2]
  refine p_X2_26 (pc := 33) rfl (show (g2.new 1 60).kd A = kObj 2 from (new_kd (by omega)).trans hk2) rfl dX2_init_33 ?_
  have hk3 : (rg3 g2 A).kd A = kObj 2 := (new_kd (by omega)).trans hk2
  have hn3 : (rg3 g2 A).n = A + 3 := congrArg (· + 1) hn2
  show J cx mX2_init _ (rg3 g2 A) _ _ _ _ _ _
  generalize rg3 g2 A = g3 at hQ hk3 hn3
  refine j_aload0 (pc := 36) dX2_init_36 ?_
  refine j_sipush (pc := 37) (v := 240) dX2_init_37 (by decide) ?_
  refine j_newL (N := 240) (by decide) (by decide) (by decide) wT_arr_long dX2_init_40 ?_
  rw [hn3]
  refine p_X2_29 (pc := 42) rfl (show (g3.new 2 240).kd A = kObj 2 from (new_kd (by omega)).trans hk3) rfl dX2_init_42 ?_
  have hk4 : (rg4 g3 A).kd A = kObj 2 := (new_kd (by omega)).trans hk3
  have hn4 : (rg4 g3 A).n = A + 4 := congrArg (· + 1) hn3
  show J cx mX2_init _ (rg4 g3 A) _ _ _ _ _ _
  generalize rg4 g3 A = g4 at hQ hk4 hn4
  refine j_aload0 (pc := 45) dX2_init_45 ?_
  refine j_sipush (pc := 46) (v := 512) dX2_init_46 (by decide) ?_
  refine j_newR 3 (N := 512) (by decide) (by decide) (by decide) (by decide) wT_cl_X2_33 dX2_init_49 ?_
  rw [hn4]
  refine p_X2_35 (pc := 52) rfl (show (g4.new (3 + 3) 512).kd A = kObj 2 from (new_kd (by omega)).trans hk4) rfl dX2_init_52 ?_
  have hk5 : (rg5 g4 A).kd A = kObj 2 := (new_kd (by omega)).trans hk4
  have hn5 : (rg5 g4 A).n = A + 5 := congrArg (· + 1) hn4
  show J cx mX2_init _ (rg5 g4 A) _ _ _ _ _ _
  generalize rg5 g4 A = g5 at hQ hk5 hn5
  refine j_aload0 (pc := 55) dX2_init_55 ?_
  refine j_new 0 cls_0 (by decide) wT_cl_X2_39 wT_ins_X0 wT_ini_X0 dX2_init_56 ?_
  rw [hn5]
  have hb1 : (g5.new (10 + 0) 0).kd (A + 5) = kObj 0 := by rw [← hn5]; exact new_kn
  have hb2 : (g5.new (10 + 0) 0).n = A + 5 + 1 := congrArg (· + 1) hn5
  have hk6 : (bkN (g5.new (10 + 0) 0) (A + 5)).kd A = kObj 2 := (bkN_kd hb1 hb2 (by omega)).trans ((new_kd (by omega)).trans hk5)
  have hn6 : (bkN (g5.new (10 + 0) 0) (A + 5)).n = A + 67 := bkN_n hb1 hb2
  have hb6 : (bkN (g5.new (10 + 0) 0) (A + 5)).kd (A + 5) = kObj 0 := (bkN_sh hb1 hb2).1
  refine j_dup (pc := 59) dX2_init_59 ?_
  refine cs_X2_41 (pc := 60) rfl (t_init0 hb1 hb2) dX2_init_60 rfl rfl (by decide) (by decide) (fun h' q => ?_)
  subst q
  unfold rg6 at hQ
  generalize bkN (g5.new (10 + 0) 0) (A + 5) = g6 at hQ hk6 hn6 hb6
  refine p_X2_42 (pc := 63) rfl hk6 rfl dX2_init_63 ?_
  refine j_aload0 (pc := 66) dX2_init_66 ?_
  refine g_X2_42 (pc := 67) rfl hk6 (up2_s _ _ _ _) dX2_init_67 ?_
  refine j_lload6 (pc := 70) dX2_init_70 ?_
  refine p_X2_46 (pc := 72) rfl hb6 dX2_init_72 ?_
  show J cx mX2_init _ (rg7 (g6.setR A 8 (some (A + 5))) A c) _ _ _ _ _ _
  have hk7 : (rg7 (g6.setR A 8 (some (A + 5))) A c).kd A = kObj 2 := hk6
  have hn7 : (rg7 (g6.setR A 8 (some (A + 5))) A c).n = A + 67 := hn6
  generalize rg7 (g6.setR A 8 (some (A + 5))) A c = g7 at hQ hk7 hn7
  refine j_aload0 (pc := 75) dX2_init_75 ?_
  refine j_bipush (pc := 76) (v := 60) dX2_init_76 (by decide) ?_
  refine j_newR 0 (N := 60) (by decide) (by decide) (by decide) (by decide) wT_cl_X2_39 dX2_init_78 ?_
  rw [hn7]
  refine p_X2_49 (pc := 81) rfl (show (g7.new (3 + 0) 60).kd A = kObj 2 from (new_kd (by omega)).trans hk7) rfl dX2_init_81 ?_
  refine j_vret (pc := 84) dX2_init_84 rfl ?_
  exact hQ _ _ ⟨rfl, rfl⟩
end

