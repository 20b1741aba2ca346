/-! the calls that look, the list, a stop -/
section
variable {cx : Cx} {h g : Hp} {ow : Nat → Nat} {X M n C m K a : Nat} {Aof : Nat → Nat} {Γ : Nat → Gh} {r : Int32}
theorem gup_gup {x y : Gh} : gup (gup Γ a x) a y = gup Γ a y := by
  funext b
  by_cases e : b = a
  · rw [e, gup_s, gup_s]
  · rw [gup_n e, gup_n e, gup_n e]
/-- only the lists told change -/
theorem GI.msg {m' : Nat} (I : GI h ow X M n C m K Aof Γ) (hK : K < 512) (hm' : m' ≤ 180) (hsh : g.1 = h.1) (hE : ∀ x, x ≠ X → x ≠ X + 2 → x ≠ M → x ≠ M + 5 → Eq1 h g x) (hX1 : g.i X 1 = h.i X 1) (hX3 : g.i X 3 = nI m') (hM1 : g.i M 1 = h.i M 1) (hM4 : g.i M 4 = h.i M 4) (hM7 : g.i M 7 = nI m') (hl : ∀ i, i < m' → g.l (X + 2) i = g.l (M + 5) i) : GI g ow X M n C m' (K + 1) Aof Γ := by
  obtain ⟨⟨j1, j2, j3, j4, j5, j6, j7, j8, j9, j10, j11, j12⟩, i2, i3, i4, i5, i6, i7, i8, i9, i10⟩ := I
  have gn : g.n = h.n := by show g.1.1 = _; rw [hsh]
  have gr : ∀ x k, g.r x k = h.r x k := fun x k => by show g.1.2.2 x k = _; rw [hsh]
  have hd : ∀ x, M ≤ x → x < M + 6 → x ≠ X ∧ x ≠ X + 2 := fun x h1 h2 => by
    have a1 := i8 x h1 h2
    refine ⟨fun e => ?_, fun e => ?_⟩
    · have a2 := i7 x (by omega) (by omega)
      omega
    · have a2 := i7 x (by omega) (by omega)
      omega
  have e1 : Eq1 h g (M + 1) := hE (M + 1) (hd _ (by omega) (by omega)).1 (hd _ (by omega) (by omega)).2 (by omega) (by omega)
  have e2 : Eq1 h g (M + 2) := hE (M + 2) (hd _ (by omega) (by omega)).1 (hd _ (by omega) (by omega)).2 (by omega) (by omega)
  have e3 : Eq1 h g (M + 3) := hE (M + 3) (hd _ (by omega) (by omega)).1 (hd _ (by omega) (by omega)).2 (by omega) (by omega)
  have e4 : Eq1 h g (M + 4) := hE (M + 4) (hd _ (by omega) (by omega)).1 (hd _ (by omega) (by omega)).2 (by omega) (by omega)
  have ec : ∀ r, isC g M r = isC h M r := fun r => by funext c; unfold isC; rw [e3.2.2.1]
  refine ⟨⟨by rw [hsh]; exact j1, hM1.trans j2, j3, hM4.trans j4, by omega, hM7, hm', fun a ha j hj => (e1.2.2.2 _).trans (j8 a ha j hj), fun c hc => ?_, fun a ha => by rw [ec]; exact j10 a ha, fun a ha c hc hca j hj => ?_, fun a ha i hi k hk => (e4.2.2.2 _).trans (j12 a ha i hi k hk)⟩, by rw [hsh]; exact i2, hX1.trans i3, hX3, by omega, by omega, i7, i8, fun b hb => ⟨(gr _ _).trans (i9 b hb).1, ?_⟩, hl⟩
  · obtain ⟨a, ha, e⟩ := j9 c hc
    exact ⟨a, ha, (e3.2.2.1 c).trans e⟩
  · rw [ec, e2.2.2.2]
    exact j11 a ha c hc ((e3.2.2.1 c).symm.trans hca) j hj
  · refine (i9 b hb).2.frame (by omega) (by omega) (Nat.le_succ _) (by omega) (fun _ _ => rfl) (fun x hx hl => hE x (fun e => ?_) (fun e => ?_) (fun e => ?_) (fun e => ?_))
    · have a2 := i7 x (by omega) (by omega)
      omega
    · have a2 := i7 x (by omega) (by omega)
      omega
    · have a2 := i8 x (by omega) (by omega)
      omega
    · have a2 := i8 x (by omega) (by omega)
      omega
/-- the programs' own cells lie apart -/
theorem GI.xm (I : GI h ow X M n C m K Aof Γ) : ∀ x y, X ≤ x → x < X + 3 → M ≤ y → y < M + 6 → x ≠ y := fun x y h1 h2 h3 h4 e => by
  have a1 := I.2.2.2.2.2.2.1 x h1 h2
  have a2 := I.2.2.2.2.2.2.2.1 y h3 h4
  rw [e] at a1
  omega
theorem GI.cop (I : GI h ow X M n C m K Aof Γ) (ha : a < n) : cnt (isC h M (nI a)) C = (Γ a).r - (Γ a).F := by
  have := I.1.2.2.2.2.2.2.2.2.2.1 a ha
  omega
theorem ca_count {w : Int32} (I : GI h ow X M n C m K Aof Γ) (hK : K < 512) : CalL cx mX4_count mX5_count h [.int r, .int w] X M K := by
  have hC := I.1.2.2.2.2.1
  by_cases h1 : r = -1
  · rw [h1]
    have T := s_count0 (cx := cx) (w := w) I.1.1
    have Tx := qx_count0 (cx := cx) (w := w) I.2.1
    have e : fCnt0 h M w = (if w = 0 then (h.i X 1).toInt64 else if w = 1 then (h.i X 3).toInt64 else -1) := by unfold fCnt0; rw [I.2.2.1, I.1.2.1, I.2.2.2.1, I.1.2.2.2.2.2.1]
    rw [← e] at Tx
    exact ⟨_, _, _, 5, 5, 0, 0, by decide, by decide, by decide, by decide, Tx, T, I.1.1.1, ⟨ow, n, C, m, Aof, Γ, I.mono hK⟩⟩
  · rcases I.ri r with ⟨p, q⟩ | ⟨a, ha, hr, p, q⟩
    · exact ⟨(-1), h, h, 5, 5, 0, 0, by decide, by decide, by decide, by decide, qn_count I.2.1 I.2.2.1 I.1.2.2.1 h1 p, sb_count I.1.1 h1 q, I.1.1.1, ⟨ow, n, C, m, Aof, Γ, I.mono hK⟩⟩
    · have R := I.cr ha
      have T : DL cx mX5_count 5 (mh h M a (Γ a).f) [.ref M, .int (nI a), .int w] (fCount (Γ a).f (lN (cnt (isC h M (nI a)) C)) w) (mh h M a (Γ a).f) := s_count I.1.1 (I.a4 ha) (I.1.ri ha) I.1.2.2.2.1 (by omega)
      rw [← I.1.self ha, I.cop ha, ← hr] at T
      have Tx : DL cx mX4_count 5 h [.ref X, .int r, .int w] _ h := qs_count I.2.1 I.2.2.1 I.1.2.2.1 h1 p R.1
      rw [so_count R.sm R.ok R.hr R.2.2.2.2.1.2.1 R.2.2.2.1 R.2.2.2.2.1.1] at Tx
      exact ⟨_, _, _, 5, 5, 0, 0, by decide, by decide, by decide, by decide, Tx, T, I.1.1.1, ⟨ow, n, C, m, Aof, Γ, I.mono hK⟩⟩
theorem ca_tell {x : Int64} (I : GI h ow X M n C m K Aof Γ) (hK : K < 512) : Cal cx mX4_tell mX5_tell h [.long x] X M K := by
  have hm := I.1.2.2.2.2.2.2.1
  have Tx := qx_tell (cx := cx) (x := x) I.2.1 I.2.2.2.1 hm
  have xm := I.xm
  unfold pTell at Tx
  by_cases h1 : m < 180
  · rw [if_pos h1] at Tx
    have T := s_tell (cx := cx) (h := (h.setL (X + 2) m x).setI X 3 (nI (m + 1))) (x := x) (M := M) I.1.1 ((up2_a _ _ (fun e => xm X M (by omega) (by omega) (by omega) (by omega) e.symm)).trans I.1.2.2.2.2.2.1) hm
    unfold fTell at T
    rw [if_neg (by omega)] at T
    refine ⟨_, _, _, 0, 0, 0, 0, by decide, by decide, by decide, by decide, Tx, T, I.1.1.1, ⟨ow, n, C, m + 1, Aof, Γ, I.msg hK (by omega) rfl (fun y y1 y2 y3 y4 => ?_) ?_ ?_ ?_ ?_ ?_ (fun i hi => ?_)⟩⟩
    · exact (((Eq1.setL y2).trans (Eq1.setI y1)).trans (Eq1.setL y4)).trans (Eq1.setI y3)
    · exact (up2_a _ _ (xm X M (by omega) (by omega) (by omega) (by omega))).trans (up2_k _ _ (by decide))
    · exact (up2_a _ _ (xm X M (by omega) (by omega) (by omega) (by omega))).trans (up2_s _ _ _ _)
    · exact (up2_k _ _ (by decide)).trans (up2_a _ _ (fun e => xm X M (by omega) (by omega) (by omega) (by omega) e.symm))
    · exact (up2_k _ _ (by decide)).trans (up2_a _ _ (fun e => xm X M (by omega) (by omega) (by omega) (by omega) e.symm))
    · exact up2_s _ _ _ _
    · show up2 (up2 h.2.2 (X + 2) m x) (M + 5) m x (X + 2) i = up2 (up2 h.2.2 (X + 2) m x) (M + 5) m x (M + 5) i
      rw [up2_a _ _ (xm (X + 2) (M + 5) (by omega) (by omega) (by omega) (by omega))]
      by_cases e : i = m
      · rw [e, up2_s, up2_s]
      · rw [up2_k _ _ e, up2_k _ _ e, up2_a _ _ (fun e => xm (X + 2) (M + 5) (by omega) (by omega) (by omega) (by omega) e.symm)]
        exact I.2.2.2.2.2.2.2.2.2 i (by omega)
  · rw [if_neg h1] at Tx
    have T := s_tell (cx := cx) (h := h) (x := x) (M := M) I.1.1 I.1.2.2.2.2.2.1 hm
    unfold fTell at T
    rw [if_pos (by omega)] at T
    exact ⟨_, _, _, 0, 0, 0, 0, by decide, by decide, by decide, by decide, Tx, T, I.1.1.1, ⟨ow, n, C, m, Aof, Γ, I.mono hK⟩⟩
theorem ca_check (I : GI h ow X M n C m K Aof Γ) (hK : K < 512) : Cal cx mX4_check mX5_check h [.int r] X M K := by
  have hm := I.1.2.2.2.2.2.2.1
  have xm := I.xm
  have fin : GX ((h.setI X 3 0).setI M 7 0) X M (K + 1) := by
    refine ⟨ow, n, C, 0, Aof, Γ, I.msg hK (by omega) rfl (fun y y1 y2 y3 y4 => ?_) ?_ ?_ ?_ ?_ ?_ (fun i hi => absurd hi (Nat.not_lt_zero _))⟩
    · exact (Eq1.setI y1).trans (Eq1.setI y3)
    · exact (up2_a _ _ (xm X M (by omega) (by omega) (by omega) (by omega))).trans (up2_k _ _ (by decide))
    · exact (up2_a _ _ (xm X M (by omega) (by omega) (by omega) (by omega))).trans (up2_s _ _ _ _)
    · exact (up2_k _ _ (by decide)).trans (up2_a _ _ (fun e => xm X M (by omega) (by omega) (by omega) (by omega) e.symm))
    · exact (up2_k _ _ (by decide)).trans (up2_a _ _ (fun e => xm X M (by omega) (by omega) (by omega) (by omega) e.symm))
    · exact up2_s _ _ _ _
  have eri : ∀ r, isRi (h.setI X 3 0) M r = isRi h M r := fun r => by
    unfold isRi
    rw [show (h.setI X 3 0).i M 1 = h.i M 1 from up2_a _ _ (fun e => xm X M (by omega) (by omega) (by omega) (by omega) e.symm)]
  have eri2 : ∀ r, isRi ((h.setI X 3 0).setI M 7 0) M r = isRi h M r := fun r => by
    rw [← eri]
    unfold isRi
    rw [show ((h.setI X 3 0).setI M 7 0).i M 1 = (h.setI X 3 0).i M 1 from up2_k _ _ (by decide)]
  rcases I.ri r with ⟨p, q⟩ | ⟨a, ha, hr, p, q⟩
  · exact ⟨(-2), _, _, 1, 1, 0, 0, by decide, by decide, by decide, by decide, qn_check I.2.1 I.2.2.1 I.1.2.2.1 p, sb_check (h := h.setI X 3 0) I.1.1 ((eri r).trans q) ((eri2 r).trans q), I.1.1.1, fin⟩
  · have R := I.cr ha
    have a4 := I.a4 ha
    have hAX : Aof a + 5 ≠ X := fun e => by
      have a1 := R.2.2.1 (Aof a + 5) (by omega) (by omega)
      have a2 := I.2.2.2.2.2.2.1 (Aof a + 5) (by omega) (by omega)
      omega
    have Tx : DI cx mX4_check 1 h [.ref X, .int r] _ _ := qs_check I.2.1 I.2.2.1 I.1.2.2.1 p R.1 I.2.2.2.1 hm hAX R.hr R.2.2.2.2.1.2.1
    rw [so_check R.sm R.hr R.2.2.2.2.1.2.1 I.2.2.2.2.2.2.2.2.2] at Tx
    have T := s_check (cx := cx) (h := h.setI X 3 0) (M := M) (a := a) (f := (Γ a).f) (n := m) (r := (Γ a).r) I.1.1 a4 ((eri _).trans (I.1.ri ha)) ((eri2 _).trans (I.1.ri ha)) ((up2_a _ _ (fun e => xm X M (by omega) (by omega) (by omega) (by omega) e.symm)).trans I.1.2.2.2.2.2.1) hm R.f5 R.2.2.2.2.1.2.1
    have s1 : mh (h.setI X 3 0) M a (Γ a).f = h.setI X 3 0 := mh_self (fun b hb => (I.1.2.2.2.2.2.2.2.1 a ha b hb).symm)
    have s2 : mh ((h.setI X 3 0).setI M 7 0) M a (Γ a).f = (h.setI X 3 0).setI M 7 0 := mh_self (fun b hb => (I.1.2.2.2.2.2.2.2.1 a ha b hb).symm)
    rw [s1, s2, ← hr] at T
    exact ⟨_, _, _, 1, 1, 0, 0, by decide, by decide, by decide, by decide, Tx, T, I.1.1.1, fin⟩
theorem GI.stk (I : GI h ow X M n C m K Aof Γ) (hK : K < 512) (ha : a < n) {c : Nat} (hc : c ≤ K) (h8 : (Γ a).f 8 = lN c) : StK h.1 (Aof a) c := by
  have R := I.cr ha
  intro i hi
  obtain ⟨q, hq, -⟩ := R.2.2.2.2.2.2.2.2.2 i (by rw [h8, lN_nat (by omega)]; exact hi)
  exact ⟨q, hq, (R.2.2.2.2.2.2.2.2.1 i q (by omega) hq).1⟩
theorem so_stops {c : Nat} {k w : Int32} (I : GI h ow X M n C m K Aof Γ) (hK : K < 512) (ha : a < n) (hc : c ≤ K) (h8 : (Γ a).f 8 = lN c) : rStopOf h (Aof a) c k w = fStops h M a (Γ a).f k w := by
  have R := I.cr ha
  unfold rStopOf fStops
  by_cases hk : k < 0
  · rw [if_pos hk, if_neg (fun z => z.1 hk)]
  · rw [if_neg hk]
    have e5 : (Γ a).f 8 ≤ k.toInt64 ↔ ¬ k < nI c := by rw [h8, ← nI_l (show c < 2 ^ 31 by omega), Int32.not_lt]; exact Int32.toInt64_le
    by_cases h1 : (Γ a).f 8 ≤ k.toInt64
    · rw [if_pos h1, if_neg (fun z => e5.mp h1 z.2)]
    · rw [if_neg h1]
      have hkr : k < nI c := Classical.byContradiction fun z => h1 (e5.mpr z)
      rw [if_pos ⟨hk, hkr⟩]
      obtain ⟨j, hj, hkj⟩ := nI_of hk
      rw [hkj] at hkr ⊢
      have hjr : j < c := (nI_ltI hj (by omega)).mp hkr
      rw [nI_clamp hj]
      obtain ⟨q, hq, ⟨s1, s2, s3, s4, s5⟩, s6, s7⟩ := R.2.2.2.2.2.2.2.2.2 j (by rw [h8, lN_nat (by omega)]; exact hjr)
      rw [hq]
      dsimp only
      unfold stV
      have zz := fun k hk => I.1.2.2.2.2.2.2.2.2.2.2.2 a ha j (by omega) k hk
      by_cases h2 : w < 0
      · rw [if_pos h2, if_neg (fun z => by rw [z] at h2; exact absurd h2 (by decide)), if_neg (fun z => by rw [z] at h2; exact absurd h2 (by decide)), if_neg (fun z => by rw [z] at h2; exact absurd h2 (by decide)), if_neg (fun z => by rw [z] at h2; exact absurd h2 (by decide)), if_neg (fun z => by rw [z] at h2; exact absurd h2 (by decide))]
      · rw [if_neg h2]
        by_cases h3 : 4 < w
        · rw [if_pos h3, if_neg (fun z => by rw [z] at h3; exact absurd h3 (by decide)), if_neg (fun z => by rw [z] at h3; exact absurd h3 (by decide)), if_neg (fun z => by rw [z] at h3; exact absurd h3 (by decide)), if_neg (fun z => by rw [z] at h3; exact absurd h3 (by decide)), if_neg (fun z => by rw [z] at h3; exact absurd h3 (by decide))]
        · rw [if_neg h3]
          obtain ⟨v, -, hv, rfl⟩ := nI_rng (a := 0) (b := 4) rfl rfl (by decide) (by decide) (show ¬ (w < 0 ∨ 4 < w) from fun z => z.elim h2 h3)
          rw [nI_clamp (by omega), zz v (by omega)]
          rcases (show v = 0 ∨ v = 1 ∨ v = 2 ∨ v = 3 ∨ v = 4 by omega) with e | e | e | e | e <;> rw [e]
          · rw [if_pos (by decide)]; exact s1
          · rw [if_neg (by decide), if_pos (by decide)]; exact s2
          · rw [if_neg (by decide), if_neg (by decide), if_pos (by decide)]; exact s3
          · rw [if_neg (by decide), if_neg (by decide), if_neg (by decide), if_pos (by decide)]; exact s4
          · rw [if_neg (by decide), if_neg (by decide), if_neg (by decide), if_neg (by decide), if_pos (by decide)]
            have e4 : (Γ a).f 4 = 2 ↔ h.i (Aof a + 5) 1 = 2 := by rw [show (Γ a).f 4 = (h.i (Aof a + 5) 1).toInt64 from R.sm.k 4 (by decide)]; exact t64_e2
            by_cases h4 : (Γ a).f 4 = 2
            · rw [if_pos (e4.mp h4)]; exact s6 h4
            · rw [if_neg (fun z => h4 (e4.mpr z))]; exact (s7 h4).symm
theorem ca_stops {k w : Int32} (I : GI h ow X M n C m K Aof Γ) (hK : K < 512) : CalL cx mX4_stops mX5_stops h [.int r, .int k, .int w] X M K := by
  rcases I.ri r with ⟨p, q⟩ | ⟨a, ha, hr, p, q⟩
  · exact ⟨(-1), h, h, 1, 1, 0, 0, by decide, by decide, by decide, by decide, qn_stops I.2.1 I.2.2.1 I.1.2.2.1 p, sb_stops I.1.1 q, I.1.1.1, ⟨ow, n, C, m, Aof, Γ, I.mono hK⟩⟩
  · have R := I.cr ha
    obtain ⟨c, hc, e8, -, e7⟩ := R.c (by omega)
    have T : DL cx mX5_stops 1 (mh h M a (Γ a).f) [.ref M, .int (nI a), .int k, .int w] (fStops h M a (Γ a).f k w) (mh h M a (Γ a).f) := s_stops I.1.1 (I.a4 ha) (I.1.ri ha) e8 (by omega)
    rw [← I.1.self ha, ← hr] at T
    have Tx : DL cx mX4_stops 1 h [.ref X, .int r, .int k, .int w] _ h := qs_stops I.2.1 I.2.2.1 I.1.2.2.1 p R.1 (t_stopOf R.1 e7 (by omega) (I.stk hK ha hc e8))
    rw [so_stops I hK ha hc e8] at Tx
    exact ⟨_, _, _, 1, 1, 0, 0, by decide, by decide, by decide, by decide, Tx, T, I.1.1.1, ⟨ow, n, C, m, Aof, Γ, I.mono hK⟩⟩
/-- the ring's own numbers and its stops change -/
theorem MI.setZ {f : Fl} {Z' : Nat → Nat → Int64} (I : MI h M n C m K Γ) (ha : a < n) (hK : K < 512) (hsh : g.1 = h.1) (hi : ∀ x k, g.i x k = h.i x k) (hl : ∀ x, x ≠ M + 4 → ∀ k, g.l x k = h.l x k) (hz : ∀ b, b < n → ∀ i, i < 600 → ∀ k, k < 5 → g.l (M + 4) (sx b i k) = if b = a then Z' i k else h.l (M + 4) (sx b i k)) : MI (mh g M a f) M n C m (K + 1) (gup Γ a ((Γ a).F, (Γ a).r, upG (Γ a).G (Γ a).r f, Z')) := by
  have J : MI g M n C m K (gup Γ a ((Γ a).F, (Γ a).r, (Γ a).G, Z')) := by
    obtain ⟨i1, i2, i3, i4, i5, i6, i7, i8, i9, i10, i11, i12⟩ := I
    have ec : ∀ r, isC g M r = isC h M r := fun r => by funext c; unfold isC; rw [hi]
    refine ⟨by rw [hsh]; exact i1, (hi _ _).trans i2, i3, (hi _ _).trans i4, i5, (hi _ _).trans i6, i7, fun b hb j hj => ?_, fun c hc => ?_, fun b hb => ?_, fun b hb c hc hcb j hj => ?_, fun b hb i hi k hk => ?_⟩
    · rw [hl _ (by omega), i8 b hb j hj]
      by_cases e : b = a
      · rw [e, gup_s]
      · rw [gup_n e]
    · obtain ⟨a, ha, e⟩ := i9 c hc
      exact ⟨a, ha, (hi _ _).trans e⟩
    · rw [ec]
      by_cases e : b = a
      · rw [e, gup_s]; exact i10 a ha
      · rw [gup_n e]; exact i10 b hb
    · rw [ec, hl _ (by omega), i11 b hb c hc ((hi _ _).symm.trans hcb) j hj]
      by_cases e : b = a
      · rw [e, gup_s]
      · rw [gup_n e]
    · rw [hz b hb i hi k hk]
      by_cases e : b = a
      · rw [e, gup_s, if_pos rfl]
      · rw [gup_n e, if_neg e]; exact i12 b hb i hi k hk
  have J2 := J.set (f := f) ha hK
  rw [gup_gup, gup_s] at J2
  exact J2
theorem stW_l {i s : Nat} {φ : Fl} {Z : Nat → Nat → Int64} {b j k : Nat} (hi : i < 600) (hj : j < 600) (hk : k < 5) (hZ : b = a → h.l (M + 4) (sx b j k) = Z j k) : (stW h M a i s φ).l (M + 4) (sx b j k) = if b = a then stZ Z i s φ j k else h.l (M + 4) (sx b j k) := by
  unfold stW
  show up2 (up2 (up2 (up2 (up2 h.2.2 _ _ _) _ _ _) _ _ _) _ _ _) _ _ _ _ _ = _
  unfold up2 stZ upZ
  by_cases hb : b = a
  · rw [if_pos hb]
    by_cases hij : j = i
    · subst hij
      subst hb
      have q : ∀ u v, (sx b j u = sx b j v) ↔ u = v := fun u v => by unfold sx; omega
      simp only [q]
      rw [show h.2.2 (M + 4) (sx b j k) = Z j k from hZ rfl]
    · have q : ∀ u, u < 5 → ¬ (M + 4 = M + 4 ∧ sx b j k = sx a i u) := fun u hu => by subst hb; unfold sx; omega
      have q2 : ∀ u, ¬ (j = i ∧ k = u) := fun u z => hij z.1
      rw [if_neg (q 4 (by decide)), if_neg (q 3 (by decide)), if_neg (q 2 (by decide)), if_neg (q 1 (by decide)), if_neg (q 0 (by decide)), if_neg (q2 4), if_neg (q2 3), if_neg (q2 2), if_neg (q2 1), if_neg (q2 0)]
      exact hZ hb
  · rw [if_neg hb]
    have q : ∀ u, u < 5 → ¬ (M + 4 = M + 4 ∧ sx b j k = sx a i u) := fun u hu => by unfold sx; omega
    rw [if_neg (q 4 (by decide)), if_neg (q 3 (by decide)), if_neg (q 2 (by decide)), if_neg (q 1 (by decide)), if_neg (q 0 (by decide))]
end

