/-! the class: what comes in, the book kept, the round kept -/
def pf0 (h : Hp) (p : Nat) : Hp := h.setI p 5 0
def pf1 (h : Hp) (q : Nat) (x : Int64) : Hp := h.setL q 8 (h.l q 8 - x)
def pf2 (h : Hp) (p : Nat) (x : Int64) : Hp := h.setL p 7 (h.l p 7 + x)
def pf3 (h : Hp) (p : Nat) (x : Int64) : Hp := h.setL p 6 (h.l p 6 + x)
def pfE (h : Hp) (p : Nat) (l x : Int64) : Int64 × Hp := (x, pf3 (pf2 h p x) p (l - x))
def rPif (h : Hp) (A p : Nat) (l : Int64) : Int64 × Hp := if 0 < l then (match sN ((pf0 h p).i p 2) with | none => pfE (pf0 h p) p l 0 | some q => if (pf0 h p).i (A + 5 + 2 + q) 4 = 0 then pfE (pf1 (pf0 h p) (A + 5 + 2 + q) (mn64 l ((pf0 h p).l (A + 5 + 2 + q) 8))) p l (mn64 l ((pf0 h p).l (A + 5 + 2 + q) 8)) else pfE (pf0 h p) p l 0) else (0, h)
def coS (A i : Nat) (x : Hp × Int64) : Hp × Int64 := if pGo x.1 (A + 5 + 2 + i) = true then ((rPif x.1 A (A + 5 + 2 + i) (x.1.l A 1 - (x.1.i (A + 5 + 2 + i) 13).toInt64)).2, x.2 + ((x.1.i (A + 5 + 2 + i) 13).toInt64 + (rPif x.1 A (A + 5 + 2 + i) (x.1.l A 1 - (x.1.i (A + 5 + 2 + i) 13).toInt64)).1)) else x
def coL (A : Nat) (h : Hp) : Hp × Int64 := itr (coS A) 60 (h, 0)
theorem rPif_sh {h : Hp} {A p : Nat} {l : Int64} : (rPif h A p l).2.1 = h.1 := by
  unfold rPif
  split
  · split
    · rfl
    · split <;> rfl
  · rfl
theorem coS_sh {A i : Nat} {x : Hp × Int64} : (coS A i x).1.1 = x.1.1 := by
  unfold coS
  split
  · exact rPif_sh
  · rfl
theorem coK {A : Nat} {x : Hp × Int64} (N : Nat) : (itr (coS A) N x).1.1 = x.1.1 := itr_keep (step := coS A) (fun y : Hp × Int64 => y.1.1) (fun _ _ => coS_sh) x N
theorem coL_sh {A : Nat} {h : Hp} : (coL A h).1.1 = h.1 := by
  unfold coL
  rw [coK]
section
variable {cx : Cx} {h : Hp} {A : Nat}
theorem t_putInFor {p : Nat} {l : Int64} (hA : RSh h.1 A) (hp : h.kd p = kObj 1) : DL cx mX2_putInFor 1 h [.ref A, .ref p, .long l] (rPif h A p l).1 (rPif h A p l).2 := by
  have hB := hA.2.2.2.2.2.1.2
  have S := t_seatAt (cx := cx) (h := pf0 h p) (B := A + 5) (s := (pf0 h p).i p 2) hB
  unfold bSeat at S
  unfold rPif
  rcases sN_cases ((pf0 h p).i p 2) with ⟨hso, hsn⟩ | ⟨q, hq, hqe, hso⟩ <;> rw [hso] at S ⊢ <;> dsimp only
  · refine Sp.of 3 (by decide) (Nat.le_of_ble_eq_true rfl) rfl ?_
    refine j_lload2 (pc := 0) dX2_putInFor_0 ?_
    refine j_lconst (pc := 1) (v := 0) dX2_putInFor_1 (by decide) ?_
    refine j_lcmp_gt (pc := 2) (tgt := 8) dX2_putInFor_2 dX2_putInFor_3 (by decide) (fun c2 => ?_) (fun c2 => ?_)
    · refine j_aload1 (pc := 8) dX2_putInFor_8 ?_
      refine j_iconst (pc := 9) (v := 0) dX2_putInFor_9 (by decide) ?_
      refine p_X2_134' (pc := 10) rfl hp (by decide) dX2_putInFor_10 ?_
      show J cx mX2_putInFor _ (pf0 h p) _ _ _ _ _ _
      refine j_lconst (pc := 13) (v := 0) dX2_putInFor_13 (by decide) ?_
      refine j_lstore4 (pc := 14) dX2_putInFor_14 (by decide) trivial ?_
      refine j_aload0 (pc := 16) dX2_putInFor_16 ?_
      refine g_X2_42 (pc := 17) rfl hA.1 hA.2.2.2.2.2.1.1 dX2_putInFor_17 ?_
      refine j_aload1 (pc := 20) dX2_putInFor_20 ?_
      refine g_X2_109 (pc := 21) rfl hp dX2_putInFor_21 ?_
      refine cd_X2_88 (pc := 24) rfl (S) hA.2.2.2.2.2.1.2.1 dX2_putInFor_24 rfl rfl ?_
      refine j_rn ?_
      refine j_nstore6 (pc := 27) dX2_putInFor_27 (by decide) trivial ?_
      refine j_nload6 (pc := 29) dX2_putInFor_29 ?_
      refine j_ifnullN (pc := 31) (tgt := 65) dX2_putInFor_31 (by decide) ?_
      refine j_aload1 (pc := 65) dX2_putInFor_65 ?_
      refine j_dup (pc := 66) dX2_putInFor_66 ?_
      refine g_X2_246 (pc := 67) rfl hp dX2_putInFor_67 ?_
      refine j_lload4 (pc := 70) dX2_putInFor_70 ?_
      refine j_ladd (pc := 72) dX2_putInFor_72 ?_
      refine p_X2_246 (pc := 73) rfl hp dX2_putInFor_73 ?_
      show J cx mX2_putInFor _ (pf2 (pf0 h p) p 0) _ _ _ _ _ _
      refine j_aload1 (pc := 76) dX2_putInFor_76 ?_
      refine j_dup (pc := 77) dX2_putInFor_77 ?_
      refine g_X2_185 (pc := 78) rfl hp dX2_putInFor_78 ?_
      refine j_lload2 (pc := 81) dX2_putInFor_81 ?_
      refine j_lload4 (pc := 82) dX2_putInFor_82 ?_
      refine j_lsub (pc := 84) dX2_putInFor_84 ?_
      refine j_ladd (pc := 85) dX2_putInFor_85 ?_
      refine p_X2_185 (pc := 86) rfl hp dX2_putInFor_86 ?_
      show J cx mX2_putInFor _ (pf3 (pf2 (pf0 h p) p 0) p (l - 0)) _ _ _ _ _ _
      refine j_lload4 (pc := 89) dX2_putInFor_89 ?_
      refine j_lret (pc := 91) dX2_putInFor_91 rfl ?_
      exact ⟨_, rfl, by rw [if_pos c2]; rfl, by rw [if_pos c2]; rfl⟩
    · refine j_lconst (pc := 6) (v := 0) dX2_putInFor_6 (by decide) ?_
      refine j_lret (pc := 7) dX2_putInFor_7 rfl ?_
      exact ⟨_, rfl, by rw [if_neg c2], by rw [if_neg c2]⟩
  · have hq1 := (hB.2.2.2 q hq).2
    have hp0 : (pf0 h p).kd p = kObj 1 := hp
    have hq0 : (pf0 h p).kd (A + 5 + 2 + q) = kObj 1 := hq1
    have hA0 : RSh (pf0 h p).1 A := hA
    have S2 : DL cx mJ9_min_f86c9 0 (pf0 h p) [.long l, .long ((pf0 h p).l (A + 5 + 2 + q) 8)] (mn64 l ((pf0 h p).l (A + 5 + 2 + q) 8)) (pf0 h p) := s_min _ _
    refine Sp.ofQ 3 (by decide) (Nat.le_of_ble_eq_true rfl) rfl (fun Q hQ => ?_)
    have L : 0 < l → J cx mX2_putInFor (Rm 1 0 0) (pf0 h p) 13 [some (.ref A), some (.ref p), some (.long l), none, none, none, none] [] 0 0 Q := by
      intro h0
      rw [if_pos h0] at hQ
      generalize pf0 h p = g at S S2 hp0 hq0 hA0 hQ ⊢
      have hA := hA0
      have hp := hp0
      generalize mn64 l (g.l (A + 5 + 2 + q) 8) = x at S2 hQ
      refine j_lconst (pc := 13) (v := 0) dX2_putInFor_13 (by decide) ?_
      refine j_lstore4 (pc := 14) dX2_putInFor_14 (by decide) trivial ?_
      refine j_aload0 (pc := 16) dX2_putInFor_16 ?_
      refine g_X2_42 (pc := 17) rfl hA.1 hA.2.2.2.2.2.1.1 dX2_putInFor_17 ?_
      refine j_aload1 (pc := 20) dX2_putInFor_20 ?_
      refine g_X2_109 (pc := 21) rfl hp dX2_putInFor_21 ?_
      refine cd_X2_88 (pc := 24) rfl (S) hA.2.2.2.2.2.1.2.1 dX2_putInFor_24 rfl rfl ?_
      refine j_rs ?_
      refine j_astore6 (pc := 27) dX2_putInFor_27 (by decide) trivial ?_
      refine j_aload6 (pc := 29) dX2_putInFor_29 ?_
      refine j_ifnull (pc := 31) dX2_putInFor_31 ?_
      refine j_aload6 (pc := 34) dX2_putInFor_34 ?_
      refine g_X2_141 (pc := 36) rfl hq0 dX2_putInFor_36 ?_
      refine j_if_ne (pc := 39) (tgt := 65) dX2_putInFor_39 (by decide) (fun c39 => ?_) (fun c39 => ?_)
      · first | rw [if_neg c39] at hQ | (rw [if_pos c39] at hQ; show J cx mX2_putInFor _ (pf1 g (A + 5 + 2 + q) x) _ _ _ _ _ _)
        refine j_aload1 (pc := 65) dX2_putInFor_65 ?_
        refine j_dup (pc := 66) dX2_putInFor_66 ?_
        refine g_X2_246 (pc := 67) rfl hp dX2_putInFor_67 ?_
        refine j_lload4 (pc := 70) dX2_putInFor_70 ?_
        refine j_ladd (pc := 72) dX2_putInFor_72 ?_
        refine p_X2_246 (pc := 73) rfl hp dX2_putInFor_73 ?_
        refine j_aload1 (pc := 76) dX2_putInFor_76 ?_
        refine j_dup (pc := 77) dX2_putInFor_77 ?_
        refine g_X2_185 (pc := 78) rfl hp dX2_putInFor_78 ?_
        refine j_lload2 (pc := 81) dX2_putInFor_81 ?_
        refine j_lload4 (pc := 82) dX2_putInFor_82 ?_
        refine j_lsub (pc := 84) dX2_putInFor_84 ?_
        refine j_ladd (pc := 85) dX2_putInFor_85 ?_
        refine p_X2_185 (pc := 86) rfl hp dX2_putInFor_86 ?_
        refine j_lload4 (pc := 89) dX2_putInFor_89 ?_
        refine j_lret (pc := 91) dX2_putInFor_91 rfl ?_
        exact hQ _ _ ⟨_, rfl, rfl, rfl⟩
      · refine j_lload2 (pc := 42) dX2_putInFor_42 ?_
        refine j_aload6 (pc := 43) dX2_putInFor_43 ?_
        refine g_X2_145 (pc := 45) rfl hq0 dX2_putInFor_45 ?_
        refine cd_X2_220 (pc := 48) rfl (S2) dX2_putInFor_48 rfl rfl ?_
        refine j_lstore4 (pc := 51) dX2_putInFor_51 (by decide) trivial ?_
        refine j_aload6 (pc := 53) dX2_putInFor_53 ?_
        refine j_dup (pc := 55) dX2_putInFor_55 ?_
        refine g_X2_145 (pc := 56) rfl hq0 dX2_putInFor_56 ?_
        refine j_lload4 (pc := 59) dX2_putInFor_59 ?_
        refine j_lsub (pc := 61) dX2_putInFor_61 ?_
        refine p_X2_145 (pc := 62) rfl hq0 dX2_putInFor_62 ?_
        first | rw [if_neg c39] at hQ | (rw [if_pos c39] at hQ; show J cx mX2_putInFor _ (pf1 g (A + 5 + 2 + q) x) _ _ _ _ _ _)
        refine j_aload1 (pc := 65) dX2_putInFor_65 ?_
        refine j_dup (pc := 66) dX2_putInFor_66 ?_
        refine g_X2_246 (pc := 67) rfl hp dX2_putInFor_67 ?_
        refine j_lload4 (pc := 70) dX2_putInFor_70 ?_
        refine j_ladd (pc := 72) dX2_putInFor_72 ?_
        refine p_X2_246 (pc := 73) rfl hp dX2_putInFor_73 ?_
        refine j_aload1 (pc := 76) dX2_putInFor_76 ?_
        refine j_dup (pc := 77) dX2_putInFor_77 ?_
        refine g_X2_185 (pc := 78) rfl hp dX2_putInFor_78 ?_
        refine j_lload2 (pc := 81) dX2_putInFor_81 ?_
        refine j_lload4 (pc := 82) dX2_putInFor_82 ?_
        refine j_lsub (pc := 84) dX2_putInFor_84 ?_
        refine j_ladd (pc := 85) dX2_putInFor_85 ?_
        refine p_X2_185 (pc := 86) rfl hp dX2_putInFor_86 ?_
        refine j_lload4 (pc := 89) dX2_putInFor_89 ?_
        refine j_lret (pc := 91) dX2_putInFor_91 rfl ?_
        exact hQ _ _ ⟨_, rfl, rfl, rfl⟩
    refine j_lload2 (pc := 0) dX2_putInFor_0 ?_
    refine j_lconst (pc := 1) (v := 0) dX2_putInFor_1 (by decide) ?_
    refine j_lcmp_gt (pc := 2) (tgt := 8) dX2_putInFor_2 dX2_putInFor_3 (by decide) (fun c2 => ?_) (fun c2 => ?_)
    · refine j_aload1 (pc := 8) dX2_putInFor_8 ?_
      refine j_iconst (pc := 9) (v := 0) dX2_putInFor_9 (by decide) ?_
      refine p_X2_134' (pc := 10) rfl hp (by decide) dX2_putInFor_10 ?_
      exact L c2
    · refine j_lconst (pc := 6) (v := 0) dX2_putInFor_6 (by decide) ?_
      refine j_lret (pc := 7) dX2_putInFor_7 rfl ?_
      exact hQ _ _ ⟨_, rfl, by rw [if_neg c2], by rw [if_neg c2]⟩
theorem t_collect (hA : RSh h.1 A) : DL cx mX2_collect 2 h [.ref A] (coL A h).2 (coL A h).1 := by
  refine Sp.ofQ 6 (by decide) (Nat.le_of_ble_eq_true rfl) rfl (fun Q hQ => ?_)
  unfold coL at hQ
  have L : ∀ N, N = 60 → J cx mX2_collect (Rm 2 0 0) h 17 [some (.ref A), some (.long 0), none, some (.ref (A + 5 + 1)), some (.int (nI N)), some (.int (nI 0)), none] [] 0 0 Q := by
    intro N hN
    rw [← hN] at hQ
    refine dn (P := fun n => J cx mX2_collect (Rm 2 0 0) (itr (coS A) n (h, 0)).1 17 [some (.ref A), some (.long (itr (coS A) n (h, 0)).2), none, some (.ref (A + 5 + 1)), some (.int (nI N)), some (.int (nI n)), none] [] 0 0 Q) N ?_ ?_
    · refine j_iload5 (pc := 17) dX2_collect_17 ?_
      refine j_iload4 (pc := 19) dX2_collect_19 ?_
      refine j_icmpN_ge (pc := 21) (tgt := 71) (by first | decide | omega) (by first | decide | omega) dX2_collect_21 (by decide) (fun c21 => ?_) (fun c21 => by omega)
      refine j_lload1 (pc := 71) dX2_collect_71 ?_
      refine j_lret (pc := 72) dX2_collect_72 rfl ?_
      exact hQ _ _ ⟨_, rfl, rfl, rfl⟩
    · intro n hn ih
      have hn6 : n < 60 := by omega
      have hA : RSh (itr (coS A) n (h, 0)).1.1 A := by rw [coK]; exact hA
      have ih : J cx mX2_collect (Rm 2 0 0) (coS A n (itr (coS A) n (h, 0))).1 17 [some (.ref A), some (.long (coS A n (itr (coS A) n (h, 0))).2), none, some (.ref (A + 5 + 1)), some (.int (nI N)), some (.int (nI (n + 1))), none] [] 0 0 Q := ih
      generalize itr (coS A) n (h, 0) = w at hA ih
      obtain ⟨w1, w2⟩ := w
      dsimp only at hA ih ⊢
      have hB := hA.2.2.2.2.2.1.2
      have hp := (hB.2.2.2 n hn6).2
      have S := t_putInFor (cx := cx) (h := w1) (A := A) (p := A + 5 + 2 + n) (l := w1.l A 1 - (w1.i (A + 5 + 2 + n) 13).toInt64) hA hp
      have e0 : pGo w1 (A + 5 + 2 + n) = false → coS A n (w1, w2) = (w1, w2) := fun a => by unfold coS; rw [if_neg (by rw [a]; decide)]
      have e1 : pGo w1 (A + 5 + 2 + n) = true → coS A n (w1, w2) = ((rPif w1 A (A + 5 + 2 + n) (w1.l A 1 - (w1.i (A + 5 + 2 + n) 13).toInt64)).2, w2 + ((w1.i (A + 5 + 2 + n) 13).toInt64 + (rPif w1 A (A + 5 + 2 + n) (w1.l A 1 - (w1.i (A + 5 + 2 + n) 13).toInt64)).1)) := fun a => by unfold coS; rw [if_pos a]
      refine j_iload5 (pc := 17) dX2_collect_17 ?_
      refine j_iload4 (pc := 19) dX2_collect_19 ?_
      refine j_icmpN_ge (pc := 21) (tgt := 71) (by first | decide | omega) (by first | decide | omega) dX2_collect_21 (by decide) (fun c21 => by omega) (fun c21 => ?_)
      refine j_aload3 (pc := 24) dX2_collect_24 ?_
      refine j_iload5 (pc := 25) dX2_collect_25 ?_
      refine j_aald (pc := 27) (by decide) hA.2.2.2.2.2.1.2.2.2.1 (pk_in n 60 hn6 rfl) (hB.r hn6) dX2_collect_27 ?_
      refine j_astore6 (pc := 28) dX2_collect_28 (by decide) trivial ?_
      refine j_aload6 (pc := 30) dX2_collect_30 ?_
      refine cd_X2_239 (pc := 32) rfl (t_isGoing hp) hp dX2_collect_32 rfl rfl ?_
      refine j_bif_eq (pc := 35) (tgt := 65) dX2_collect_35 (by decide) (fun c35 => ?_) (fun c35 => ?_)
      · refine j_iincN5 (pc := 65) dX2_collect_65 (by decide) trivial ?_
        refine j_goto (pc := 68) (tgt := 17) dX2_collect_68 (by decide) ?_
        first | (rw [e0 c35] at ih; exact J.wk ih (by simp [lcw])) | (rw [e1 c35] at ih; exact J.wk ih (by simp [lcw]))
      · refine j_lload1 (pc := 38) dX2_collect_38 ?_
        refine j_aload6 (pc := 39) dX2_collect_39 ?_
        refine g_X2_179 (pc := 41) rfl hp dX2_collect_41 ?_
        refine j_i2l (pc := 44) dX2_collect_44 ?_
        refine j_aload0 (pc := 45) dX2_collect_45 ?_
        refine j_aload6 (pc := 46) dX2_collect_46 ?_
        refine j_aload0 (pc := 48) dX2_collect_48 ?_
        refine g_X2_15 (pc := 49) rfl hA.1 dX2_collect_49 ?_
        refine j_aload6 (pc := 52) dX2_collect_52 ?_
        refine g_X2_179 (pc := 54) rfl hp dX2_collect_54 ?_
        refine j_i2l (pc := 57) dX2_collect_57 ?_
        refine j_lsub (pc := 58) dX2_collect_58 ?_
        refine cd_X2_242 (pc := 59) rfl (S) hA.1 dX2_collect_59 rfl rfl ?_
        refine j_ladd (pc := 62) dX2_collect_62 ?_
        refine j_ladd (pc := 63) dX2_collect_63 ?_
        refine j_lstore1 (pc := 64) dX2_collect_64 (by decide) trivial ?_
        refine j_iincN5 (pc := 65) dX2_collect_65 (by decide) trivial ?_
        refine j_goto (pc := 68) (tgt := 17) dX2_collect_68 (by decide) ?_
        first | (rw [e0 c35] at ih; exact J.wk ih (by simp [lcw])) | (rw [e1 c35] at ih; exact J.wk ih (by simp [lcw]))
  refine j_lconst (pc := 0) (v := 0) dX2_collect_0 (by decide) ?_
  refine j_lstore1 (pc := 1) dX2_collect_1 (by decide) trivial ?_
  refine j_aload0 (pc := 2) dX2_collect_2 ?_
  refine g_X2_42 (pc := 3) rfl hA.1 hA.2.2.2.2.2.1.1 dX2_collect_3 ?_
  refine g_X2_126 (pc := 6) rfl hA.2.2.2.2.2.1.2.1 hA.2.2.2.2.2.1.2.2.1 dX2_collect_6 ?_
  refine j_astore3 (pc := 9) dX2_collect_9 (by decide) trivial ?_
  refine j_aload3 (pc := 10) dX2_collect_10 ?_
  refine j_alenR (pc := 11) (by decide) hA.2.2.2.2.2.1.2.2.2.1 dX2_collect_11 ?_
  show J cx mX2_collect (Rm 2 0 0) h 12 [some (.ref A), some (.long 0), none, some (.ref (A + 5 + 1)), none, none, none] [.int (nI 60)] 0 0 Q
  refine j_istore4 (pc := 12) dX2_collect_12 (by decide) trivial ?_
  refine j_iconst (pc := 14) (v := nI 0) dX2_collect_14 (by decide) ?_
  refine j_istore5 (pc := 15) dX2_collect_15 (by decide) trivial ?_
  exact L 60 rfl
def kbN (h : Hp) (A r : Nat) : Hp := (bkN (h.new (10 + 0) 0) h.n).setR (A + 67) r (some h.n)
def rKeep (h : Hp) (A r : Nat) : Hp := match h.r (A + 67) r with | none => cpBk h.n (A + 5) (kbN h A r) | some b => cpBk b (A + 5) h
def rKR (h : Hp) (A r : Nat) (s : Int32) (x y z : Int64) : Hp := (((h.setL (A + 3) (r * 4) s.toInt64).setL (A + 3) (r * 4 + 1) x).setL (A + 3) (r * 4 + 2) y).setL (A + 3) (r * 4 + 3) z
theorem t_keepRound {r : Nat} {s : Int32} {x y z : Int64} (hA : RSh h.1 A) (hR : h.i (A + 5) 2 = nI r) (hr : r < 60) : DV cx mX2_keepRound 0 h [.ref A, .int s, .long x, .long y, .long z] (rKR h A r s x y z) := by
  refine Sp.of 1 (by decide) (Nat.le_of_ble_eq_true rfl) rfl ?_
  have hin : ∀ k, k < 4 → vp_in (nI (r * 4 + k)) 240 := fun k hk => pk_in (r * 4 + k) 240 (by omega) rfl
  have hcl : ∀ k, k < 4 → (nI (r * 4 + k)).toNatClampNeg = r * 4 + k := fun k hk => nI_clamp (by omega)
  refine j_aload0 (pc := 0) dX2_keepRound_0 ?_
  refine g_X2_42 (pc := 1) rfl hA.1 hA.2.2.2.2.2.1.1 dX2_keepRound_1 ?_
  refine g_X2_76 (pc := 4) rfl hA.2.2.2.2.2.1.2.1 dX2_keepRound_4 ?_
  rw [hR]
  refine j_iconst (pc := 7) (v := nI 4) dX2_keepRound_7 (by decide) ?_
  refine j_imulN (pc := 8) dX2_keepRound_8 ?_
  refine j_istore8 (pc := 9) dX2_keepRound_9 (by decide) trivial ?_
  refine j_iload8 (pc := 11) dX2_keepRound_11 ?_
  refine j_if_lt (pc := 13) (tgt := 28) dX2_keepRound_13 (by decide) (fun c13 => by exact absurd c13 (nI_pos (by omega))) (fun c13 => ?_)
  refine j_iload8 (pc := 16) dX2_keepRound_16 ?_
  refine j_iconst (pc := 18) (v := nI 4) dX2_keepRound_18 (by decide) ?_
  refine j_iaddN (pc := 19) dX2_keepRound_19 ?_
  refine j_aload0 (pc := 20) dX2_keepRound_20 ?_
  refine g_X2_29 (pc := 21) rfl hA.1 hA.2.2.2.1.1 dX2_keepRound_21 ?_
  refine j_alenL (pc := 24) hA.2.2.2.1.2 dX2_keepRound_24 ?_
  show J cx mX2_keepRound (Rm 0 0 0) h 25 _ [.int (nI 240), .int (nI (r * 4 + 4))] 0 0 _
  refine j_icmpN_le (pc := 25) (tgt := 29) (by first | decide | omega) (by first | decide | omega) dX2_keepRound_25 (by decide) (fun c25 => ?_) (fun c25 => by omega)
  refine j_aload0 (pc := 29) dX2_keepRound_29 ?_
  refine g_X2_29 (pc := 30) rfl hA.1 hA.2.2.2.1.1 dX2_keepRound_30 ?_
  refine j_iload8 (pc := 33) dX2_keepRound_33 ?_
  refine j_iload1 (pc := 35) dX2_keepRound_35 ?_
  refine j_i2l (pc := 36) dX2_keepRound_36 ?_
  refine j_last (pc := 37) hA.2.2.2.1.2 (hin 0 (by omega)) dX2_keepRound_37 ?_
  rw [show (nI (r * 4)).toNatClampNeg = r * 4 from hcl 0 (by omega)]
  refine j_aload0 (pc := 38) dX2_keepRound_38 ?_
  refine g_X2_29 (pc := 39) rfl hA.1 hA.2.2.2.1.1 dX2_keepRound_39 ?_
  refine j_iload8 (pc := 42) dX2_keepRound_42 ?_
  refine j_iconst (pc := 44) (v := nI 1) dX2_keepRound_44 (by decide) ?_
  refine j_iaddN (pc := 45) dX2_keepRound_45 ?_
  refine j_lload2 (pc := 46) dX2_keepRound_46 ?_
  refine j_last (pc := 47) hA.2.2.2.1.2 (hin 1 (by omega)) dX2_keepRound_47 ?_
  rw [hcl 1 (by omega)]
  refine j_aload0 (pc := 48) dX2_keepRound_48 ?_
  refine g_X2_29 (pc := 49) rfl hA.1 hA.2.2.2.1.1 dX2_keepRound_49 ?_
  refine j_iload8 (pc := 52) dX2_keepRound_52 ?_
  refine j_iconst (pc := 54) (v := nI 2) dX2_keepRound_54 (by decide) ?_
  refine j_iaddN (pc := 55) dX2_keepRound_55 ?_
  refine j_lload4 (pc := 56) dX2_keepRound_56 ?_
  refine j_last (pc := 58) hA.2.2.2.1.2 (hin 2 (by omega)) dX2_keepRound_58 ?_
  rw [hcl 2 (by omega)]
  refine j_aload0 (pc := 59) dX2_keepRound_59 ?_
  refine g_X2_29 (pc := 60) rfl hA.1 hA.2.2.2.1.1 dX2_keepRound_60 ?_
  refine j_iload8 (pc := 63) dX2_keepRound_63 ?_
  refine j_iconst (pc := 65) (v := nI 3) dX2_keepRound_65 (by decide) ?_
  refine j_iaddN (pc := 66) dX2_keepRound_66 ?_
  refine j_lload6 (pc := 67) dX2_keepRound_67 ?_
  refine j_last (pc := 69) hA.2.2.2.1.2 (hin 3 (by omega)) dX2_keepRound_69 ?_
  rw [hcl 3 (by omega)]
  refine j_vret (pc := 70) dX2_keepRound_70 rfl ?_
  exact ⟨rfl, rfl⟩
end

