/-! the calls: an earlier round seen, a round undone -/
theorem lst_no {p : Nat → Bool} : ∀ {n : Nat}, cnt p n = 0 → lst p n = none
  | 0, _ => rfl
  | n + 1, h => by
    have e : cnt p (n + 1) = cnt p n + (if p n then 1 else 0) := rfl
    have hp := cnt_zero (n + 1) h n (by omega)
    unfold lst
    rw [hp]
    rw [hp] at e
    exact lst_no (by
      have e2 : (if false = true then 1 else 0) = 0 := rfl
      omega)
theorem lst_yes {p : Nat → Bool} : ∀ {n : Nat}, 0 < cnt p n → ∃ q, lst p n = some q ∧ q < n ∧ p q = true ∧ (∀ k, q < k → k < n → p k = false) ∧ cnt p n = cnt p q + 1
  | 0, h => absurd h (Nat.lt_irrefl _)
  | n + 1, h => by
    have e : cnt p (n + 1) = cnt p n + (if p n then 1 else 0) := rfl
    unfold lst
    cases hp : p n with
    | true =>
      rw [hp, if_pos rfl] at e
      exact ⟨n, rfl, by omega, hp, fun k h1 h2 => by omega, e⟩
    | false =>
      rw [hp, if_neg (by decide)] at e
      obtain ⟨q, q1, q2, q3, q4, q5⟩ := lst_yes (p := p) (n := n) (by omega)
      refine ⟨q, q1, by omega, q3, fun k h1 h2 => ?_, by omega⟩
      by_cases ek : k = n
      · rw [ek]; exact hp
      · exact q4 k h1 (by omega)
theorem cnt_rm {p p' : Nat → Bool} {q N : Nat} (h1 : ∀ k, k < q → p' k = p k) (h2 : ∀ k, q ≤ k → k < N → p' k = p (k + 1)) : ∀ c, q ≤ c → c ≤ N → cnt p' c + (if p q then 1 else 0) = cnt p (c + 1)
  | 0, a, b => by
    have : q = 0 := by omega
    rw [this]
    rfl
  | c + 1, a, b => by
    have e : cnt p (c + 1 + 1) = cnt p (c + 1) + (if p (c + 1) then 1 else 0) := rfl
    have e' : cnt p' (c + 1) = cnt p' c + (if p' c then 1 else 0) := rfl
    by_cases hq : q = c + 1
    · rw [← hq]
      show _ = cnt p q + (if p q then 1 else 0)
      rw [cnt_cong h1]
    · have := cnt_rm h1 h2 c (by omega) (by omega)
      rw [h2 c (by omega) (by omega)] at e'
      omega
section
variable {cx : Cx} {h g : Hp} {ow : Nat → Nat} {X M n C m K a : Nat} {Aof : Nat → Nat} {Γ : Nat → Gh} {r : Int32}
theorem zS_l {Z : Nat → Nat → Int64} (hZ : ∀ i, i < 600 → ∀ k, k < 5 → h.l (M + 4) (sx a i k) = Z i k) : ∀ c, c ≤ 600 → (∀ x, x ≠ M + 4 → ∀ k, (itr (zS M a) c h).l x k = h.l x k) ∧ ∀ b i, i < 600 → ∀ k, k < 5 → (itr (zS M a) c h).l (M + 4) (sx b i k) = if b = a then unZ Z c i k else h.l (M + 4) (sx b i k)
  | 0, _ => ⟨fun _ _ _ => rfl, fun b i hi k hk => by
    by_cases e : b = a
    · rw [if_pos e, e]
      show h.l _ _ = if i < 0 ∧ k = 4 then 0 else Z i k
      rw [if_neg (by omega)]
      exact hZ i hi k hk
    · rw [if_neg e]; rfl⟩
  | c + 1, hc => by
    obtain ⟨j1, j2⟩ := zS_l hZ c (by omega)
    refine ⟨fun x hx k => (up2_a _ _ hx).trans (j1 x hx k), fun b i hi k hk => ?_⟩
    show up2 (itr (zS M a) c h).2.2 (M + 4) (sx a c 4) 0 (M + 4) (sx b i k) = _
    by_cases e : b = a
    · rw [if_pos e]
      by_cases e3 : i = c ∧ k = 4
      · rw [e, e3.1, e3.2, up2_s]
        exact (if_pos ⟨by omega, rfl⟩).symm
      · rw [up2_k _ _ (by rw [e]; unfold sx; omega)]
        refine (j2 b i hi k hk).trans ((if_pos e).trans ?_)
        unfold unZ
        by_cases e4 : i < c ∧ k = 4
        · rw [if_pos e4, if_pos ⟨by omega, e4.2⟩]
        · rw [if_neg e4, if_neg (by omega)]
    · rw [if_neg e, up2_k _ _ (by unfold sx; omega)]
      exact (j2 b i hi k hk).trans (if_neg e)
theorem MI.undo {q r c : Nat} (I : MI h M n C m K Γ) (ha : a < n) (hK : K < 512) (hr : (Γ a).r = r + 1) (hc : c ≤ 600) (hq : q < C) (hqa : isC h M (nI a) q = true) (hlast : ∀ k, q < k → k < C → isC h M (nI a) k = false) (hcq : cnt (isC h M (nI a)) C = cnt (isC h M (nI a)) q + 1) : MI (mh (unH h M a q C c) M a (cpy h M q)) M n (C - 1) m (K + 1) (gup Γ a ((Γ a).F, r, (Γ a).G, unZ (Γ a).Z c)) ∧ (unH h M a q C c).1 = h.1 ∧ (∀ x, (x < M ∨ M + 6 ≤ x) → Eq1 h (unH h M a q C c) x) ∧ ∀ i, (unH h M a q C c).l (M + 5) i = h.l (M + 5) i := by
  obtain ⟨i1, i2, i3, i4, i5, i6, i7, i8, i9, i10, i11, i12⟩ := I
  obtain ⟨z1, z2⟩ := zS_l (h := h) (M := M) (a := a) (i12 a ha) c hc
  have zi : (itr (zS M a) c h).2.1 = h.2.1 := zS_i h c
  have zsh : (itr (zS M a) c h).1 = h.1 := zS_sh h c
  have ys : (unH h M a q C c).1 = h.1 := zsh
  have yi : ∀ x k, x ≠ M → x ≠ M + 3 → (unH h M a q C c).i x k = h.i x k := fun x k hx hx3 => (if_neg (fun z => hx3 z.1)).trans ((up2_a _ _ hx).trans (by rw [zi]))
  have yM : ∀ k, k ≠ 4 → (unH h M a q C c).i M k = h.i M k := fun k hk => (if_neg (by omega)).trans ((up2_k _ _ hk).trans (by rw [zi]))
  have y04 : (unH h M a q C c).i M 4 = nI (C - 1) := (if_neg (by omega)).trans (up2_s _ _ _ _)
  have y3a : ∀ k, k < q → (unH h M a q C c).i (M + 3) k = h.i (M + 3) k := fun k hk => (if_neg (by omega)).trans ((up2_a _ _ (by omega)).trans (by rw [zi]))
  have y3b : ∀ k, q ≤ k → k < C - 1 → (unH h M a q C c).i (M + 3) k = h.i (M + 3) (k + 1) := fun k hk hk2 => (if_pos ⟨rfl, hk, hk2⟩).trans ((up2_a _ _ (by omega)).trans (by rw [zi]))
  have y2a : ∀ k, k < q → ∀ j, j < 1393 → (unH h M a q C c).l (M + 2) (1393 * k + j) = h.l (M + 2) (1393 * k + j) := fun k hk j hj => (if_neg (by omega)).trans (z1 (M + 2) (by omega) _)
  have y2b : ∀ k, q ≤ k → k < C - 1 → ∀ j, j < 1393 → (unH h M a q C c).l (M + 2) (1393 * k + j) = h.l (M + 2) (1393 * (k + 1) + j) := fun k hk hk2 j hj => (if_pos ⟨rfl, by omega, by omega⟩).trans ((z1 (M + 2) (by omega) _).trans (by rw [show 1393 * k + j + 1393 = 1393 * (k + 1) + j by omega]))
  have yl : ∀ x, x ≠ M + 2 → x ≠ M + 4 → ∀ k, (unH h M a q C c).l x k = h.l x k := fun x hx hx4 k => (if_neg (fun z => hx z.1)).trans (z1 x hx4 k)
  have y4 : ∀ b i, i < 600 → ∀ k, k < 5 → (unH h M a q C c).l (M + 4) (sx b i k) = if b = a then unZ (Γ a).Z c i k else h.l (M + 4) (sx b i k) := fun b i hi k hk => (if_neg (by omega)).trans (z2 b i hi k hk)
  generalize unH h M a q C c = y at ys yi yM y04 y3a y3b y2a y2b yl y4 ⊢
  refine ⟨?_, ys, fun x hx => ⟨by show y.1.2.1 x = _; rw [ys], fun k => by show y.1.2.2 x k = _; rw [ys], fun k => yi x k (by omega) (by omega), fun k => yl x (by omega) (by omega) k⟩, fun i => yl _ (by omega) (by omega) i⟩
  have eG : ∀ j, j < 1393 → cpy h M q j = (Γ a).G r j := fun j hj => by
    have := i11 a ha q hq (of_decide_eq_true hqa) j hj
    have h10 := i10 a ha
    rw [show (Γ a).F + cnt (isC h M (nI a)) q = r by omega] at this
    exact this
  have cA : ∀ b c', c' ≤ q → cnt (isC y M (nI b)) c' = cnt (isC h M (nI b)) c' := fun b c' hc' => cnt_cong (fun k hk => by unfold isC; rw [y3a k (by omega)])
  have cB : ∀ b c', q ≤ c' → c' ≤ C - 1 → cnt (isC y M (nI b)) c' + (if isC h M (nI b) q then 1 else 0) = cnt (isC h M (nI b)) (c' + 1) := fun b c' h1 h2 => cnt_rm (p := isC h M (nI b)) (p' := isC y M (nI b)) (N := C - 1) (fun k hk => by unfold isC; rw [y3a k hk]) (fun k h1 h2 => by unfold isC; rw [y3b k h1 h2]) c' h1 h2
  have qb : ∀ b, b < n → b ≠ a → isC h M (nI b) q = false := fun b hb hne => by
    unfold isC
    rw [of_decide_eq_true hqa]
    exact decide_eq_false (fun z => hne ((nI_eq (by omega) (by omega)).mp z).symm)
  generalize cpy h M q = f at eG
  have em : ∀ b, isC (mh y M a f) M (nI b) = isC y M (nI b) := fun b => rfl
  refine ⟨by rw [show (mh y M a f).1 = y.1 from rfl, ys]; exact i1, (yM 1 (by decide)).trans i2, i3, y04, by omega, (yM 7 (by decide)).trans i6, i7, fun b hb j hj => ?_, fun c' hc' => ?_, fun b hb => ?_, fun b hb c' hc' hcb j hj => ?_, fun b hb i hi k hk => ?_⟩
  · by_cases e : b = a
    · rw [e, gup_s, mh_get hj]
      exact eG j hj
    · rw [gup_n e, mh_oa e hj, yl _ (by omega) (by omega)]
      exact i8 b hb j hj
  · rcases Nat.lt_or_ge c' q with z | z
    · obtain ⟨a', ha', e'⟩ := i9 c' (by omega)
      exact ⟨a', ha', (y3a c' z).trans e'⟩
    · obtain ⟨a', ha', e'⟩ := i9 (c' + 1) (by omega)
      exact ⟨a', ha', (y3b c' z hc').trans e'⟩
  · rw [em]
    have h1 := cB b (C - 1) (by omega) (Nat.le_refl _)
    rw [show C - 1 + 1 = C by omega] at h1
    have h2 := i10 b hb
    by_cases e : b = a
    · rw [e] at h1 h2 ⊢
      rw [gup_s]
      rw [hqa, if_pos rfl] at h1
      show r = (Γ a).F + _
      omega
    · rw [gup_n e]
      rw [qb b hb e, if_neg (by decide)] at h1
      omega
  · rw [em, (mh_o (h := y) (M := M) (a := a) (f := f) (x := M + 2) (by omega)).2.2.2]
    have hcb : y.i (M + 3) c' = nI b := hcb
    rcases Nat.lt_or_ge c' q with z | z
    · rw [cA b c' (by omega), y2a c' z j hj]
      rw [y3a c' z] at hcb
      rw [i11 b hb c' (by omega) hcb j hj]
      by_cases e : b = a
      · rw [e, gup_s]
      · rw [gup_n e]
    · rw [y3b c' z hc'] at hcb
      by_cases e : b = a
      · have := hlast (c' + 1) (by omega) (by omega)
        rw [e] at hcb
        unfold isC at this
        rw [hcb, decide_eq_true rfl] at this
        cases this
      · have h1 := cB b c' z (by omega)
        rw [qb b hb e, if_neg (by decide), Nat.add_zero] at h1
        rw [h1, gup_n e, y2b c' z hc' j hj]
        exact i11 b hb (c' + 1) (by omega) hcb j hj
  · rw [(mh_o (h := y) (M := M) (a := a) (f := f) (x := M + 4) (by omega)).2.2.2, y4 b i hi k hk]
    by_cases e : b = a
    · rw [if_pos e, e, gup_s]
    · rw [if_neg e, gup_n e]
      exact i12 b hb i hi k hk
theorem ca_undo (I : GI h ow X M n C m K Aof Γ) (hK : K < 512) : Cal cx mX4_undo mX5_undo h [.int r] X M K := by
  rcases I.ri r with ⟨p, q⟩ | ⟨a, ha, hr, p, q⟩
  · exact ⟨(-1), h, h, 1, 1, 0, 0, by decide, by decide, by decide, by decide, qn_undo I.2.1 I.2.2.1 I.1.2.2.1 p, sb_undo I.1.1 q, I.1.1.1, ⟨ow, n, C, m, Aof, Γ, I.mono hK⟩⟩
  · have R := I.cr ha
    have hC := I.1.2.2.2.2.1
    have hr6 := R.2.2.2.2.1.2.1
    have hF := R.2.2.2.2.1.1
    have h10 := I.1.2.2.2.2.2.2.2.2.2.1 a ha
    have hFi := R.2.2.2.1
    by_cases hz : cnt (isC h M (nI a)) C = 0
    · have e0 : rAh h (Aof a) (Γ a).r (nI (Γ a).r - 1) = none := by
        unfold rAh
        refine if_neg (fun z => ?_)
        cases hr0 : (Γ a).r with
        | zero => rw [hr0] at z; exact z.2.1 (by decide)
        | succ r' =>
          rw [hr0, nI_pred, hFi] at z
          exact absurd z.1 (Int32.not_le.mpr (nI_lt (by omega) (by omega)))
      have Tx := qs_undo (cx := cx) I.2.1 I.2.2.1 I.1.2.2.1 p R.1 (t_undoRound R.1 R.hr hr6 (fun b hb => by rw [e0] at hb; cases hb))
      have e1 : rUndo h (Aof a) (Γ a).r = (-1, h) := by unfold rUndo; rw [e0]
      rw [e1] at Tx
      have T := s_undoN (cx := cx) (h := h) (f := (Γ a).f) (c := C) I.1.1 (I.a4 ha) (I.1.ri ha) I.1.2.2.2.1 (by omega) (lst_no hz)
      rw [← I.1.self ha, ← hr] at T
      exact ⟨_, _, _, 3, 1, 0, 0, by decide, by decide, by decide, by decide, Tx, T, I.1.1.1, ⟨ow, n, C, m, Aof, Γ, I.mono hK⟩⟩
    · obtain ⟨q, q1, q2, q3, q4, q5⟩ := lst_yes (p := isC h M (nI a)) (n := C) (by omega)
      obtain ⟨r', hr'⟩ : ∃ r', (Γ a).r = r' + 1 := ⟨(Γ a).r - 1, by omega⟩
      obtain ⟨b, hb, Sb⟩ := R.2.2.2.2.2.2.2.1 r' (by omega) (by omega)
      obtain ⟨Ok', h5'⟩ := R.2.2.2.2.1.2.2.1 r' (by omega) (by omega)
      obtain ⟨c, hc, e8⟩ := Ok'.1.2.2.2.2.2.2.2.2.1
      have e0 : rAh h (Aof a) (Γ a).r (nI (Γ a).r - 1) = some b := by
        unfold rAh
        rw [hr', nI_pred, hFi, if_pos ⟨Int32.not_lt.mp (fun z => absurd ((nI_ltI (by omega) (by omega)).mp z) (by omega)), nI_pos (by omega), nI_lt (by omega) (by omega)⟩, nI_clamp (by omega)]
        exact hb
      have Tx := qs_undo (cx := cx) I.2.1 I.2.2.1 I.1.2.2.1 p R.1 (t_undoRound R.1 R.hr hr6 (fun b' hb' => by
        rw [e0] at hb'
        cases hb'
        have := R.ap (k := r') (by omega) hb
        exact ⟨(R.2.2.2.2.2.2.1 r' b (by omega) hb).1, by omega, fun i hi => Sb.plB Ok' hi⟩))
      obtain ⟨R2, oth, eR⟩ := cr_undo R hK hr' (by omega) hb e8 hc
      have e1 : rUndo h (Aof a) (Γ a).r = (nI r', cpBk (Aof a + 5) b h) := by unfold rUndo; rw [e0]; dsimp only; rw [eR]
      rw [e1] at Tx
      generalize cpBk (Aof a + 5) b h = g at Tx R2 oth
      obtain ⟨m1, fin⟩ := I.step hK ha R2 oth (fun _ _ => rfl)
      have eM : ∀ x, M ≤ x → x < M + 6 → Eq1 h g x := fun x h1 h2 => oth.2 x (by have := I.2.2.2.2.2.1; omega) (by rw [I.2.2.2.2.2.2.2.1 x h1 h2]; have := I.a4 ha; omega)
      have ec : ∀ r, isC g M r = isC h M r := fun r => by funext c; unfold isC; rw [(eM (M + 3) (by omega) (by omega)).2.2.1]
      rw [← ec] at q1 q3 q4 q5 h10
      have eG : ∀ j, j < 1393 → cpy g M q j = (Γ a).G r' j := fun j hj => by
        have := m1.2.2.2.2.2.2.2.2.2.2.1 a ha q q2 (of_decide_eq_true q3) j hj
        rw [show (Γ a).F + cnt (isC g M (nI a)) q = r' by omega] at this
        exact this
      have T := s_undo (cx := cx) (h := g) (f := (Γ a).f) (c := C) (q := q) (st := c) m1.1 (I.a4 ha) (m1.ri ha) m1.2.2.2.1 (by omega) q2 q1 ((eG 8 (by decide)).trans e8) (by omega)
      rw [eG 5 (by decide), h5', ← nI_l (show r' < 2 ^ 31 by omega), Int32.toInt32_toInt64, ← m1.self ha, ← hr] at T
      obtain ⟨mi, sW, eW, eL⟩ := m1.undo (c := c) ha hK hr' (by omega) q2 q3 q4 q5
      generalize unH g M a q C c = y at T mi sW eW eL
      exact ⟨_, _, _, 3, 1, 0, 0, by decide, by decide, by decide, by decide, Tx, T, m1.1.1, ⟨ow, n, C - 1, m, Aof, _, fin _ (C - 1) sW (fun x hx => (eW x hx).trans (mh_o (by omega))) (fun i => ((mh_o (by omega)).2.2.2 i).trans (eL i)) mi⟩⟩
theorem ca_as {k s w : Int32} (I : GI h ow X M n C m K Aof Γ) (hK : K < 512) : CalL cx mX4_as mX5_as h [.int r, .int k, .int s, .int w] X M K := by
  rcases I.ri r with ⟨p, q⟩ | ⟨a, ha, hr, p, q⟩
  · exact ⟨(-1), h, h, 1, 1, 0, 0, by decide, by decide, by decide, by decide, qn_as I.2.1 I.2.2.1 I.1.2.2.1 p, sb_as I.1.1 q, I.1.1.1, ⟨ow, n, C, m, Aof, Γ, I.mono hK⟩⟩
  · have R := I.cr ha
    have hC := I.1.2.2.2.2.1
    have hr6 := R.2.2.2.2.1.2.1
    have h10 := I.1.2.2.2.2.2.2.2.2.2.1 a ha
    have hFi := R.2.2.2.1
    have h11 := I.1.2.2.2.2.2.2.2.2.2.2.1 a ha
    have hbk : ∀ b, rAh h (Aof a) (Γ a).r k = some b → ∃ j, k = nI j ∧ (Γ a).F ≤ j ∧ j < (Γ a).r ∧ h.r (Aof a + 67) j = some b := fun b hb => by
      unfold rAh at hb
      split at hb
      · rename_i z
        obtain ⟨j, hj, e⟩ := nI_of z.2.1
        rw [e, nI_clamp hj] at hb
        rw [e, hFi] at z
        refine ⟨j, e, ?_, (nI_ltI hj (by omega)).mp z.2.2, hb⟩
        rcases Nat.lt_or_ge j (Γ a).F with y | y
        · exact absurd z.1 (Int32.not_le.mpr (nI_lt y (by omega)))
        · exact y
      · cases hb
    have T := s_as (cx := cx) (h := h) (r := nI a) (k := k) (seat := s) (w := w) (cp := C) I.1.1 (I.1.ri ha) I.1.2.2.2.1 (by omega)
    have Tx := qs_as (cx := cx) (k := k) (s := s) (w := w) I.2.1 I.2.2.1 I.1.2.2.1 p R.1 R.hr hr6 (fun b hb => by
      obtain ⟨j, -, h1, h2, h3⟩ := hbk b hb
      exact (R.2.2.2.2.2.2.1 j b (by omega) h3).1)
    have e : pAs h (Aof a) (Γ a).r k s w = fAs h M C (nI a) k (sN s) w := by
      unfold pAs
      cases hf : fnd (asP h M (nI a) k) C with
      | none =>
        have e0 : rAh h (Aof a) (Γ a).r k = none := by
          cases hb : rAh h (Aof a) (Γ a).r k with
          | none => rfl
          | some b =>
            exfalso
            obtain ⟨j, e, h1, h2, h3⟩ := hbk b hb
            obtain ⟨c, c1, c2, c3⟩ := cnt_kth (p := isC h M (nI a)) (k := j - (Γ a).F) (n := C) (by omega)
            have z := fnd_none.mp hf c c1
            have e5 := h11 c c1 (of_decide_eq_true c2) 5 (by decide)
            rw [c3, show (Γ a).F + (j - (Γ a).F) = j by omega, (R.2.2.2.2.1.2.2.1 j h1 (by omega)).2] at e5
            unfold asP at z
            rw [c2, Bool.true_and] at z
            refine of_decide_eq_false z ?_
            rw [e, nI_l (by omega)]
            exact e5
        rw [e0]
        unfold fAs
        rw [hf]
        cases sN s with
        | none => rfl
        | some v =>
          dsimp only
          split <;> rfl
      | some c =>
        obtain ⟨c1, c2, -⟩ := fnd_some hf
        unfold asP at c2
        rw [Bool.and_eq_true] at c2
        obtain ⟨ca, c5⟩ := c2
        have c5 := of_decide_eq_true c5
        have hlt := cnt_lt2 ca C c1
        obtain ⟨j, hj⟩ : ∃ j, j = (Γ a).F + cnt (isC h M (nI a)) c := ⟨_, rfl⟩
        have hG := h11 c c1 (of_decide_eq_true ca)
        rw [← hj] at hG
        obtain ⟨Oj, h5⟩ := R.2.2.2.2.1.2.2.1 j (by omega) (by omega)
        have hkj : k = nI j := (t64_n (by omega)).mp (c5.symm.trans ((hG 5 (by decide)).trans h5))
        obtain ⟨b, hb, Sb⟩ := R.2.2.2.2.2.2.2.1 j (by omega) (by omega)
        have h4 := R.2.2.2.2.1.2.2.2.2 j (by omega) (by omega)
        have e0 : rAh h (Aof a) (Γ a).r k = some b := by
          unfold rAh
          rw [hkj, hFi, if_pos ⟨Int32.not_lt.mp (fun z => absurd ((nI_ltI (by omega) (by omega)).mp z) (by omega)), nI_pos (by omega), nI_lt (by omega) (by omega)⟩, nI_clamp (by omega)]
          exact hb
        rw [e0]
        dsimp only
        rw [so_look Sb Oj]
        unfold fLook fAs
        rw [hf]
        rcases sN_cases s with ⟨hso, hsn⟩ | ⟨v, hv, hse, hso⟩ <;> rw [hso]
        dsimp only
        by_cases hw : w < 0 ∨ 11 < w
        · rw [if_pos hw, if_pos hw]
        · rw [if_neg hw, if_neg hw]
          have hfl : fldI w.toNatClampNeg < 17 := by
            obtain ⟨u, -, hu, rfl⟩ := nI_rng (a := 0) (b := 11) rfl rfl (by decide) (by decide) hw
            rw [nI_clamp (by omega)]
            rcases (show u = 0 ∨ u = 1 ∨ u = 2 ∨ u = 3 ∨ u = 4 ∨ u = 5 ∨ u = 6 ∨ u = 7 ∨ u = 8 ∨ u = 9 ∨ u = 10 ∨ u = 11 by omega) with e | e | e | e | e | e | e | e | e | e | e | e <;> rw [e] <;> decide
          have ei : ∀ u, u < 17 → cpy h M c (ix v u) = (Γ a).G j (ix v u) := fun u hu => hG _ (by unfold ix; omega)
          rw [ei 0 (by decide), ei _ hfl]
          have ep : isPl ((Γ a).G j) v = false ↔ (Γ a).G j (ix v 0) < 2 := by
            rw [isPl_1 h4]
            unfold isMem
            rw [decide_eq_false_iff_not, Int64.not_le]
          simp only [ep]
    rw [e] at Tx
    rw [← hr] at T
    rw [← hr] at Tx
    exact ⟨_, _, _, 4, 1, 0, 0, by decide, by decide, by decide, by decide, Tx, T, I.1.1.1, ⟨ow, n, C, m, Aof, Γ, I.mono hK⟩⟩
end

