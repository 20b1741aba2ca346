/-! the calls: a stop, a round drawn, the close -/
section
variable {cx : Cx} {h g : Hp} {ow : Nat → Nat} {X M n C m K a : Nat} {Aof : Nat → Nat} {Γ : Nat → Gh} {r : Int32}
theorem CR.qA {A : Nat} {γ : Gh} (R : CR h ow a A K γ) {i q : Nat} (hi : i < 512) (hq : h.r (A + 4) i = some q) : h.kd q = kObj 3 ∧ (q < A ∨ A + 68 ≤ q) := by
  obtain ⟨q1, q2, q3⟩ := R.2.2.2.2.2.2.2.2.1 i q hi hq
  refine ⟨q1, ?_⟩
  rcases Nat.lt_or_ge q A with z | z
  · exact Or.inl z
  · rcases Nat.lt_or_ge q (A + 68) with y | y
    · have := R.2.2.1 q z y
      omega
    · exact Or.inr y
theorem ca_stop {s : Int32} (I : GI h ow X M n C m K Aof Γ) (hK : K < 512) : Cal cx mX4_stop mX5_stop h [.int r, .int s] X M K := by
  rcases I.ri r with ⟨p, q⟩ | ⟨a, ha, hr, p, q⟩
  · exact ⟨1, h, h, 1, 4, 0, 0, by decide, by decide, by decide, by decide, qn_stop I.2.1 I.2.2.1 I.1.2.2.1 p, sb_stop I.1.1 q, I.1.1.1, ⟨ow, n, C, m, Aof, Γ, I.mono hK⟩⟩
  · have R := I.cr ha
    obtain ⟨c, hc, e8, -, e7⟩ := R.c (by omega)
    have Tx := qs_stop (cx := cx) (a2 := s) I.2.1 I.2.2.1 I.1.2.2.1 p R.1 (t_stopPlace (s := s) R.1 e7 (by omega) R.2.1 (fun q hq => R.qA (by omega) hq))
    have no : ∀ y, rStop h (Aof a) s c = (y, h) → ag (Γ a).f (sN s) = y → ¬ y = 0 → Cal cx mX4_stop mX5_stop h [.int r, .int s] X M K := fun y e1 e2 e3 => by
      rw [e1] at Tx
      have T := s_stop (cx := cx) (h := h) (f := (Γ a).f) (seat := s) I.1.1 (I.a4 ha) (I.1.ri ha) e8 (by omega)
      unfold fStop at T
      rw [e2, if_pos e3, ← I.1.self ha, ← hr] at T
      exact ⟨_, _, _, 4, 4, 1, 5, by decide, by decide, by decide, by decide, Tx, T, I.1.1.1, ⟨ow, n, C, m, Aof, Γ, I.mono hK⟩⟩
    rcases pl_cases R.sm R.ok s with ⟨c1, c2, c3⟩ | ⟨c1, c2, c3, c4⟩ | ⟨v, hv, hse, hso, c1, c2, c3, c4, ⟨d1, d2, d3⟩ | ⟨d1, d2, d3⟩⟩
    · exact no 2 (by unfold rStop; rw [if_neg c1]) c3 (by decide)
    · exact no 3 (by unfold rStop; rw [if_pos c1, c3]) c4 (by decide)
    · have e1 : rStop h (Aof a) s c = (0, st3 (rKS (st1 (st0 h (Aof a + 5 + 2 + v)) (Aof a) s) (Aof a) (Aof a + 5 + 2 + v) c s) (Aof a + 5 + 2 + v)) := by
        unfold rStop
        rw [if_pos c1, c3]
        exact if_pos d1
      rw [e1] at Tx
      obtain ⟨ow', R2, oth, how⟩ := cr_stop (s := s) R hK hv hse c2 hc e8
      generalize st3 (rKS (st1 (st0 h (Aof a + 5 + 2 + v)) (Aof a) s) (Aof a) (Aof a + 5 + 2 + v) c s) (Aof a + 5 + 2 + v) = g at Tx R2 oth
      obtain ⟨m1, fin⟩ := I.step hK ha R2 oth how
      have T := s_stop (cx := cx) (h := g) (f := (Γ a).f) (seat := s) m1.1 (I.a4 ha) (m1.ri ha) e8 (by omega)
      unfold fStop at T
      rw [d3, if_neg (by decide), hso, ← m1.self ha, ← hr] at T
      dsimp only at T
      have mi := m1.setZ (g := stW g M a c v (stop1 (Γ a).f v)) (f := stop2 (stop1 (Γ a).f v) v) (Z' := stZ (Γ a).Z c v (stop1 (Γ a).f v)) ha hK rfl (fun _ _ => rfl) (fun x hx k => (up2_a _ _ hx).trans ((up2_a _ _ hx).trans ((up2_a _ _ hx).trans ((up2_a _ _ hx).trans (up2_a _ _ hx))))) (fun b hb i hi k hk => stW_l (by omega) hi hk (fun e => by rw [e]; exact m1.2.2.2.2.2.2.2.2.2.2.2 a ha i hi k hk))
      have eW : ∀ x, x ≠ M + 4 → Eq1 g (stW g M a c v (stop1 (Γ a).f v)) x := fun x hx => ((((Eq1.setL hx).trans (Eq1.setL hx)).trans (Eq1.setL hx)).trans (Eq1.setL hx)).trans (Eq1.setL hx)
      have sW : (stW g M a c v (stop1 (Γ a).f v)).1 = g.1 := rfl
      generalize stW g M a c v (stop1 (Γ a).f v) = y at T mi eW sW
      exact ⟨_, _, _, 4, 4, 1, 5, by decide, by decide, by decide, by decide, Tx, T, m1.1.1, ⟨ow', n, C, m, Aof, _, fin _ C sW (fun x hx => (eW x (by omega)).trans (mh_o (by omega))) (fun i => ((mh_o (by omega)).2.2.2 i).trans ((eW (M + 5) (by omega)).2.2.2 i)) mi⟩⟩
    · exact no 10 (by unfold rStop; rw [if_pos c1, c3]; exact if_neg d1) d3 (by decide)
theorem MI.draw {f : Fl} (I : MI h M n C m K Γ) (ha : a < n) (hK : K < 512) : MI (mh (keep h M C a (Γ a).f) M a f) M n (C + 1) m (K + 1) (gup Γ a ((Γ a).F, (Γ a).r + 1, upG (Γ a).G ((Γ a).r + 1) f, (Γ a).Z)) := by
  obtain ⟨i1, i2, i3, i4, i5, i6, i7, i8, i9, i10, i11, i12⟩ := I
  have ys : (keep h M C a (Γ a).f).1 = h.1 := rfl
  have y01 : (keep h M C a (Γ a).f).i M 1 = h.i M 1 := (up2_k _ _ (by decide)).trans (up2_a _ _ (by omega))
  have y07 : (keep h M C a (Γ a).f).i M 7 = h.i M 7 := (up2_k _ _ (by decide)).trans (up2_a _ _ (by omega))
  have y04 : (keep h M C a (Γ a).f).i M 4 = nI (C + 1) := up2_s _ _ _ _
  have y3 : ∀ c, c ≠ C → (keep h M C a (Γ a).f).i (M + 3) c = h.i (M + 3) c := fun c hc => (up2_a _ _ (by omega)).trans (up2_k _ _ hc)
  have y3s : (keep h M C a (Γ a).f).i (M + 3) C = nI a := (up2_a _ _ (by omega)).trans (up2_s _ _ _ _)
  have y2 : ∀ c, c ≠ C → ∀ j, j < 1393 → (keep h M C a (Γ a).f).l (M + 2) (1393 * c + j) = h.l (M + 2) (1393 * c + j) := fun c hc j hj => if_neg (by omega)
  have y2s : ∀ j, j < 1393 → (keep h M C a (Γ a).f).l (M + 2) (1393 * C + j) = (Γ a).f j := fun j hj => (if_pos ⟨rfl, by omega, by omega⟩).trans (by rw [Nat.add_sub_cancel_left])
  have y1 : ∀ k, (keep h M C a (Γ a).f).l (M + 1) k = h.l (M + 1) k := fun k => if_neg (by omega)
  have y4 : ∀ k, (keep h M C a (Γ a).f).l (M + 4) k = h.l (M + 4) k := fun k => if_neg (by omega)
  generalize keep h M C a (Γ a).f = y at ys y01 y07 y04 y3 y3s y2 y2s y1 y4 ⊢
  have ecC : ∀ b c, c ≤ C → cnt (isC (mh y M a f) M (nI b)) c = cnt (isC h M (nI b)) c := fun b c hc => cnt_cong (fun k hk => by
    unfold isC
    show decide (y.i (M + 3) k = _) = _
    rw [y3 k (by omega)])
  have ecS : ∀ b, b < n → cnt (isC (mh y M a f) M (nI b)) (C + 1) = cnt (isC h M (nI b)) C + (if b = a then 1 else 0) := fun b hb => by
    show cnt (isC (mh y M a f) M (nI b)) C + (if isC (mh y M a f) M (nI b) C then 1 else 0) = _
    rw [ecC b C (Nat.le_refl _)]
    congr 1
    have e0 : isC (mh y M a f) M (nI b) C = decide (nI a = nI b) := by
      unfold isC
      show decide (y.i (M + 3) C = _) = _
      rw [y3s]
    rw [e0]
    by_cases e : b = a
    · rw [if_pos e, e, if_pos (decide_eq_true rfl)]
    · rw [if_neg e, if_neg (fun z => e ((nI_eq (by omega) (by omega)).mp (of_decide_eq_true z)).symm)]
  refine ⟨by rw [show (mh y M a f).1 = y.1 from rfl, ys]; exact i1, y01.trans i2, i3, y04, by omega, y07.trans i6, i7, fun b hb j hj => ?_, fun c hc => ?_, fun b hb => ?_, fun b hb c hc hcb j hj => ?_, fun b hb i hi k hk => ?_⟩
  · by_cases e : b = a
    · rw [e, gup_s, mh_get hj]
      show f j = upG (Γ a).G ((Γ a).r + 1) f ((Γ a).r + 1) j
      rw [upG_s]
    · rw [gup_n e, mh_oa e hj, y1]
      exact i8 b hb j hj
  · by_cases e : c = C
    · exact ⟨a, ha, by rw [e]; exact y3s⟩
    · obtain ⟨a', ha', e'⟩ := i9 c (by omega)
      exact ⟨a', ha', (y3 c e).trans e'⟩
  · rw [ecS b hb]
    have := i10 b hb
    by_cases e : b = a
    · rw [e, gup_s, if_pos rfl]
      rw [e] at this
      show (Γ a).r + 1 = (Γ a).F + _
      omega
    · rw [gup_n e, if_neg e]
      exact this
  · rw [ecC b c (by omega), (mh_o (h := y) (M := M) (a := a) (f := f) (x := M + 2) (by omega)).2.2.2]
    have hcb : y.i (M + 3) c = nI b := hcb
    by_cases ec : c = C
    · rw [ec] at hcb ⊢
      have hab : a = b := (nI_eq (by omega) (by omega)).mp (y3s.symm.trans hcb)
      rw [← hab, gup_s, y2s j hj]
      show _ = upG (Γ a).G ((Γ a).r + 1) f ((Γ a).F + cnt (isC h M (nI a)) C) j
      rw [← i10 a ha, upG_n (by omega)]
    · rw [y3 c ec] at hcb
      rw [y2 c ec j hj, i11 b hb c (by omega) hcb j hj]
      by_cases e : b = a
      · rw [e, gup_s]
        have hlt := cnt_lt2 (p := isC h M (nI b)) (decide_eq_true hcb) C (by omega)
        have hr := i10 b hb
        rw [e] at hlt hr
        show _ = upG (Γ a).G ((Γ a).r + 1) f ((Γ a).F + cnt (isC h M (nI a)) c) j
        rw [upG_n (by omega)]
      · rw [gup_n e]
  · rw [(mh_o (h := y) (M := M) (a := a) (f := f) (x := M + 4) (by omega)).2.2.2, y4, i12 b hb i hi k hk]
    by_cases e : b = a
    · rw [e, gup_s]
    · rw [gup_n e]
theorem Ok.dw {f : Fl} (O : Ok K f) : dwOK f := by
  obtain ⟨⟨⟨k, hk, h0⟩, -, -, -, -, h56, -, -, -, h9, h10, ⟨t, t1, t2, t3, -⟩⟩, -, hs⟩ := O
  refine ⟨?_, ⟨t, t1, t2, t3⟩, h10, h9, fun s hs' => (hs s hs').2.1, fun s hs' => (hs s hs').2.2.2.2.2.2.2.2.2.2.1, h56⟩
  unfold kiOK
  rcases (show k = 0 ∨ k = 1 ∨ k = 2 ∨ k = 3 by omega) with e | e | e | e <;> rw [e] at h0
  · exact Or.inl h0
  · exact Or.inr (Or.inl h0)
  · exact Or.inr (Or.inr (Or.inl h0))
  · exact Or.inr (Or.inr (Or.inr h0))
theorem t_endN {A : Nat} (hA : RSh h.1 A) (hno : h.i (A + 5) 1 = 1 → bLeft h (A + 5) = false) : Sp cx mX2_endRound 7 62 1150 h [.ref A] (Ri fun y g => y = (if h.i (A + 5) 1 = 1 then 8 else 2) ∧ g = h) := by
  have hB := hA.2.2.2.2.2.1.2
  refine Sp.of 9 (by decide) (Nat.le_of_ble_eq_true rfl) rfl ?_
  refine j_aload0 (pc := 0) dX2_endRound_0 ?_
  refine g_X2_42 (pc := 1) rfl hA.1 hA.2.2.2.2.2.1.1 dX2_endRound_1 ?_
  refine g_X2_85 (pc := 4) rfl hA.2.2.2.2.2.1.2.1 dX2_endRound_4 ?_
  refine j_iconst (pc := 7) (v := 1) dX2_endRound_7 (by decide) ?_
  refine j_icmp_eq (pc := 8) (tgt := 13) dX2_endRound_8 (by decide) (fun c8 => ?_) (fun c8 => ?_)
  · refine j_aload0 (pc := 13) dX2_endRound_13 ?_
    refine g_X2_42 (pc := 14) rfl hA.1 hA.2.2.2.2.2.1.1 dX2_endRound_14 ?_
    refine cd_X2_148 (pc := 17) rfl (t_roundIsLeft hB) hA.2.2.2.2.2.1.2.1 dX2_endRound_17 rfl rfl ?_
    refine j_bif_ne (pc := 20) (tgt := 26) dX2_endRound_20 (by decide) (fun c20 => by rw [hno c8] at c20; cases c20) (fun c20 => ?_)
    refine j_bipush (pc := 23) (v := 8) dX2_endRound_23 (by decide) ?_
    refine j_iret (pc := 25) dX2_endRound_25 rfl rfl ?_
    exact ⟨_, rfl, by rw [if_pos c8], rfl⟩
  · refine j_iconst (pc := 11) (v := 2) dX2_endRound_11 (by decide) ?_
    refine j_iret (pc := 12) dX2_endRound_12 rfl rfl ?_
    exact ⟨_, rfl, by rw [if_neg c8], rfl⟩
theorem ca_draw (I : GI h ow X M n C m K Aof Γ) (hK : K < 512) : Cal cx mX4_draw mX5_draw h [.int r] X M K := by
  rcases I.ri r with ⟨p, q⟩ | ⟨a, ha, hr, p, q⟩
  · exact ⟨1, h, h, 1, 8, 0, 0, by decide, by decide, by decide, by decide, qn_draw I.2.1 I.2.2.1 I.1.2.2.1 p, sb_draw I.1.1 q, I.1.1.1, ⟨ow, n, C, m, Aof, Γ, I.mono hK⟩⟩
  · have R := I.cr ha
    have hC := I.1.2.2.2.2.1
    have e4 : (Γ a).f 4 = 1 ↔ h.i (Aof a + 5) 1 = 1 := by rw [show (Γ a).f 4 = (h.i (Aof a + 5) 1).toInt64 from R.sm.k 4 (by decide)]; exact t64_e1
    have el := left_eq R.sm R.ok
    by_cases hyes : (Γ a).f 4 = 1 ∧ ¬ (Γ a).f 5 = (Γ a).f 6
    · obtain ⟨h4, h56⟩ := hyes
      have hr6 := R.2.2.2.2.1.2.1
      have hr60 : (Γ a).r < 60 := by
        obtain ⟨r', p', a1, a2, a3, a4⟩ := R.ok.1.2.2.2.2.2.1
        have e : r' = (Γ a).r := (pk_lEQ (by omega) (by omega)).mp (a3.symm.trans R.f5)
        rcases Nat.lt_or_ge (Γ a).r 60 with z | z
        · exact z
        · exact absurd (by rw [a3, a4, show r' = p' by omega]) h56
      obtain ⟨k, hk, h0⟩ := R.ok.1.1
      obtain ⟨T, hT6, h12, hT, -⟩ := Ok.T R.sm R.ok
      obtain ⟨L, hL6, h10, hL⟩ := Ok.L R.sm R.ok
      have hk0 : h.i (Aof a) 0 = nI k := (t64_n (by omega)).mp ((R.sm.k 0 (by decide)).symm.trans h0)
      have Tx := qs_draw (cx := cx) I.2.1 I.2.2.1 I.1.2.2.1 p R.1 (t_endRound R.1 hk0 hk hT hT6 R.hr hr6 hL hL6 R.2.1 (fun i hi => R.sm.plB R.ok hi) (fun b hb => ⟨(R.2.2.2.2.2.2.1 _ b hr60 hb).1, R.ap hr60 hb⟩))
      have e1 : rEnd h (Aof a) k T (Γ a).r L = (0, erT (coL (Aof a) (rKeep h (Aof a) (Γ a).r)) (Aof a) k T (Γ a).r L) := by
        unfold rEnd
        rw [if_pos (e4.mp h4), if_pos (el.mpr h56)]
      rw [e1] at Tx
      obtain ⟨ow', R2, oth, how⟩ := cr_draw R hK hk h0 hT6 h12 hL6 h10 h4 h56
      generalize erT (coL (Aof a) (rKeep h (Aof a) (Γ a).r)) (Aof a) k T (Γ a).r L = g at Tx R2 oth
      obtain ⟨m1, fin⟩ := I.step hK ha R2 oth how
      have T := s_draw (cx := cx) (h := g) (f := (Γ a).f) (c := C) m1.1 (I.a4 ha) (m1.ri ha) m1.2.2.2.1 (by omega) R.ok.dw
      have eD : fDraw (Γ a).f = (0, drawF (Γ a).f) := by unfold fDraw; rw [if_neg (nn h4), if_neg h56]
      rw [eD, if_pos rfl, ← m1.self ha, ← hr] at T
      dsimp only at T
      have eW : ∀ x, x < M ∨ M + 6 ≤ x → Eq1 g (keep g M C a (Γ a).f) x := fun x hx => ⟨rfl, fun _ => rfl, fun _ => (up2_a _ _ (by omega)).trans (up2_a _ _ (by omega)), fun _ => if_neg (by omega)⟩
      have eL : ∀ i, (keep g M C a (Γ a).f).l (M + 5) i = g.l (M + 5) i := fun _ => if_neg (by omega)
      have sW : (keep g M C a (Γ a).f).1 = g.1 := rfl
      have mi := m1.draw (f := drawF (Γ a).f) ha hK
      generalize keep g M C a (Γ a).f = y at T mi eW eL sW
      exact ⟨_, _, _, 8, 8, 62, 1150, by decide, by decide, by decide, by decide, Tx, T, m1.1.1, ⟨ow', n, C + 1, m, Aof, _, fin _ (C + 1) sW (fun x hx => (eW x hx).trans (mh_o (by omega))) (fun i => ((mh_o (by omega)).2.2.2 i).trans (eL i)) mi⟩⟩
    · have Tx := qs_draw (cx := cx) I.2.1 I.2.2.1 I.1.2.2.1 p R.1 (t_endN R.1 (fun z => by
        cases hl : bLeft h (Aof a + 5)
        · rfl
        · exact absurd ⟨e4.mpr z, el.mp hl⟩ hyes))
      have T := s_draw (cx := cx) (h := h) (f := (Γ a).f) (c := C) I.1.1 (I.a4 ha) (I.1.ri ha) I.1.2.2.2.1 (by omega) R.ok.dw
      have eD : (fDraw (Γ a).f).1 = if h.i (Aof a + 5) 1 = 1 then 8 else 2 := by
        unfold fDraw
        by_cases h4 : (Γ a).f 4 = 1
        · rw [if_neg (nn h4), if_pos (Classical.byContradiction fun z => hyes ⟨h4, z⟩), if_pos (e4.mp h4)]
        · rw [if_pos h4, if_neg (fun z => h4 (e4.mpr z))]
      have hne : ¬ (if h.i (Aof a + 5) 1 = 1 then (8 : Int32) else 2) = 0 := by split <;> decide
      rw [eD, if_neg hne, ← I.1.self ha, ← hr] at T
      exact ⟨_, _, _, 8, 8, 62, 1150, by decide, by decide, by decide, by decide, Tx, T, I.1.1.1, ⟨ow, n, C, m, Aof, Γ, I.mono hK⟩⟩
def CsR (M a : Nat) (h : Hp) (N : Nat) (y : Hp × Fl) (w : (Nat → Nat → Int64) × Fl) : Prop := y.1.1 = h.1 ∧ (∀ x k, y.1.i x k = h.i x k) ∧ (∀ x, x ≠ M + 4 → ∀ k, y.1.l x k = h.l x k) ∧ (∀ b i, i < 600 → ∀ k, k < 5 → y.1.l (M + 4) (sx b i k) = if b = a then w.1 i k else h.l (M + 4) (sx b i k)) ∧ y.2 = w.2
theorem cs_sim {f : Fl} {Z : Nat → Nat → Int64} (hZ : ∀ i, i < 600 → ∀ k, k < 5 → h.l (M + 4) (sx a i k) = Z i k) (N : Nat) (hN : N ≤ 600) : CsR M a h N (itr (csS M a) N (h, f)) (itr csP N (Z, f)) :=
  itr_sim (p := csS M a) (q := csP) (x := (h, f)) (y := (Z, f)) (R := CsR M a h) N ⟨rfl, fun _ _ => rfl, fun _ _ _ => rfl, fun b i hi k hk => by
    by_cases e : b = a
    · rw [if_pos e, e]; exact hZ i hi k hk
    · rw [if_neg e], rfl⟩ (fun n hn y w ⟨j1, j2, j3, j4, j5⟩ => by
    have e2 := j4 a n (by omega) 2 (by decide)
    rw [if_pos rfl] at e2
    refine ⟨j1, j2, fun x hx k => (up2_a _ _ hx).trans (j3 x hx k), fun b i hi k hk => ?_, ?_⟩
    · show up2 y.1.2.2 (M + 4) (sx a n 4) _ (M + 4) (sx b i k) = if b = a then (if i = n ∧ k = 4 then _ else w.1 i k) else _
      by_cases e : b = a
      · rw [if_pos e]
        by_cases e3 : i = n ∧ k = 4
        · rw [if_pos e3, e, e3.1, e3.2, up2_s, e2, j5]
          rfl
        · rw [if_neg e3, up2_k _ _ (by rw [e]; unfold sx; omega)]
          exact (j4 b i hi k hk).trans (if_pos e)
      · rw [if_neg e, up2_k _ _ (by unfold sx; omega)]
        exact (j4 b i hi k hk).trans (if_neg e)
    · show upF y.2 3 (y.2 3 + -(if y.1.l (M + 4) (sx a n 2) ≤ y.2 3 then y.1.l (M + 4) (sx a n 2) else y.2 3)) = upF w.2 3 (w.2 3 + -mn64 (w.1 n 2) (w.2 3))
      rw [e2, j5]
      rfl)
theorem ca_close (I : GI h ow X M n C m K Aof Γ) (hK : K < 512) : Cal cx mX4_close mX5_close h [.int r] X M K := by
  rcases I.ri r with ⟨p, q⟩ | ⟨a, ha, hr, p, q⟩
  · exact ⟨1, h, h, 1, 4, 0, 0, by decide, by decide, by decide, by decide, qn_close I.2.1 I.2.2.1 I.1.2.2.1 p, sb_close I.1.1 q, I.1.1.1, ⟨ow, n, C, m, Aof, Γ, I.mono hK⟩⟩
  · have R := I.cr ha
    obtain ⟨c, hc, e8, -, e7⟩ := R.c (by omega)
    have e4 : (Γ a).f 4 = 1 ↔ h.i (Aof a + 5) 1 = 1 := by rw [show (Γ a).f 4 = (h.i (Aof a + 5) 1).toInt64 from R.sm.k 4 (by decide)]; exact t64_e1
    have el := left_eq R.sm R.ok
    have e56 : (Γ a).f 5 < (Γ a).f 6 ↔ ¬ (Γ a).f 5 = (Γ a).f 6 := by
      obtain ⟨r', p', a1, a2, a3, a4⟩ := R.ok.1.2.2.2.2.2.1
      rw [a3, a4, pk_lLT (by omega) (by omega), pk_lEQ (by omega) (by omega)]
      omega
    have Tx := qs_close (cx := cx) I.2.1 I.2.2.1 I.1.2.2.1 p R.1 (t_finish R.1 e7 (by omega) (I.stk hK ha hc e8))
    have no : ∀ y, rFin h (Aof a) c = (y, h) → fClose h M a c (Γ a).f = (y, mh h M a (Γ a).f) → Cal cx mX4_close mX5_close h [.int r] X M K := fun y e1 e2 => by
      rw [e1] at Tx
      have T := s_close (cx := cx) (h := h) (f := (Γ a).f) I.1.1 (I.a4 ha) (I.1.ri ha) e8 (by omega)
      rw [e2, ← I.1.self ha, ← hr] at T
      exact ⟨_, _, _, 3, 4, 0, 0, by decide, by decide, by decide, by decide, Tx, T, I.1.1.1, ⟨ow, n, C, m, Aof, Γ, I.mono hK⟩⟩
    by_cases h4 : (Γ a).f 4 = 1
    · by_cases h56 : (Γ a).f 5 < (Γ a).f 6
      · exact no 8 (by unfold rFin; rw [if_pos (e4.mp h4), if_pos (el.mpr (e56.mp h56))]) (by unfold fClose; rw [if_neg (nn h4), if_pos h56])
      · have e1 : rFin h (Aof a) c = (0, rFin2 (itr (dbS (Aof a + 5)) 60 h) (Aof a) c) := by
          unfold rFin
          rw [if_pos (e4.mp h4), if_neg (fun z => h56 (e56.mpr (el.mp z)))]
        rw [e1] at Tx
        obtain ⟨R2, oth⟩ := cr_close R hK h4 hc e8
        generalize rFin2 (itr (dbS (Aof a + 5)) 60 h) (Aof a) c = g at Tx R2 oth
        obtain ⟨m1, fin⟩ := I.step hK ha R2 oth (fun _ _ => rfl)
        have T := s_close (cx := cx) (h := g) (f := (Γ a).f) m1.1 (I.a4 ha) (m1.ri ha) e8 (by omega)
        have e2 : fClose g M a c (Γ a).f = (0, mh (itr (csS M a) c (g, itr bcS 60 (Γ a).f)).1 M a (clEnd (itr (csS M a) c (g, itr bcS 60 (Γ a).f)).2)) := by unfold fClose; rw [if_neg (nn h4), if_neg h56]
        rw [e2, ← m1.self ha, ← hr] at T
        obtain ⟨j1, j2, j3, j4, j5⟩ := cs_sim (f := itr bcS 60 (Γ a).f) (m1.2.2.2.2.2.2.2.2.2.2.2 a ha) c (by omega)
        generalize itr (csS M a) c (g, itr bcS 60 (Γ a).f) = y at T j1 j2 j3 j4 j5
        generalize itr csP c ((Γ a).Z, itr bcS 60 (Γ a).f) = w at R2 fin j4 j5
        rw [j5] at T
        have mi := m1.setZ (g := y.1) (f := clEnd w.2) (Z' := w.1) ha hK j1 j2 j3 (fun b hb i hi k hk => j4 b i hi k hk)
        have eW : ∀ x, x ≠ M + 4 → Eq1 g y.1 x := fun x hx => ⟨by show y.1.1.2.1 x = _; rw [j1], fun k => by show y.1.1.2.2 x k = _; rw [j1], fun k => j2 x k, fun k => j3 x hx k⟩
        exact ⟨_, _, _, 3, 4, 0, 0, by decide, by decide, by decide, by decide, Tx, T, m1.1.1, ⟨ow, n, C, m, Aof, _, fin _ C j1 (fun x hx => (eW x (by omega)).trans (mh_o (by omega))) (fun i => ((mh_o (by omega)).2.2.2 i).trans ((eW (M + 5) (by omega)).2.2.2 i)) mi⟩⟩
    · exact no 2 (by unfold rFin; rw [if_neg (fun z => h4 (e4.mpr z))]) (by unfold fClose; rw [if_pos h4])
end

