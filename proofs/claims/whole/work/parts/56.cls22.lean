/-! the class: the bid shared, the claim repaid, the round handed out -/
def ssC (A : Nat) (s : Int32) (ne : Bool) (i : Nat) (x : Hp × Int64) : Hp × Int64 := if 0 < x.2 then (if otP x.1 A s i = true ∧ pNe x.1 (A + 5 + 2 + i) = ne then (x.1.setL (A + 5 + 2 + i) 11 (x.1.l (A + 5 + 2 + i) 11 + 1), x.2 - 1) else x) else x
def sbC (A : Nat) (s : Int32) (part : Int64) (i : Nat) (h : Hp) : Hp := if otP h A s i = true then h.setL (A + 5 + 2 + i) 11 (h.l (A + 5 + 2 + i) 11 + part) else h
def ssL (A : Nat) (s : Int32) (ne : Bool) (x : Hp × Int64) : Hp × Int64 := itr (ssC A s ne) 60 x
def sbL (A : Nat) (s : Int32) (part : Int64) (h : Hp) : Hp := itr (sbC A s part) 60 h
def rShare (h : Hp) (A : Nat) (s oth : Int32) (bid : Int64) : Hp := if 0 < oth then (ssL A s false (ssL A s true (sbL A s (bid / oth.toInt64) h, bid - bid / oth.toInt64 * oth.toInt64))).1 else h
def mn64 (x y : Int64) : Int64 := if x ≤ y then x else y
def rpH (h : Hp) (A p q : Nat) (x : Int64) : Hp := h.setL (A + 5 + 2 + q) 8 (h.l (A + 5 + 2 + q) 8 + x)
def rpG (h : Hp) (p : Nat) (x : Int64) : Hp := h.setL p 7 (h.l p 7 - x)
def rRepay (h : Hp) (A p : Nat) (c : Int64) : Int64 × Hp := match sN (h.i p 2) with | none => (0, h) | some q => (mn64 (h.l p 7) c, rpG (rpH h A p q (mn64 (h.l p 7) c)) p (mn64 (h.l p 7) c))
def hBid (h : Hp) (p : Nat) (oth : Int32) (given : Int64) : Int64 := if oth = 0 then 0 else mn64 (h.l p 16) given
def rHand2 (g : Hp) (A p : Nat) (left : Int64) : Hp := ((rRepay g A p left).2.setL p 10 (left - (rRepay g A p left).1)).setI p 3 1
def rHand (h : Hp) (A : Nat) (s : Int32) (given : Int64) : Int64 × Hp := match sN s with | none => (0, h.setL (A + 5) 8 (h.l (A + 5) 8 + given)) | some n => (hBid h (A + 5 + 2 + n) (nI (cnt (otP h A s) 60)) given, rHand2 (rShare h A s (nI (cnt (otP h A s) 60)) (hBid h (A + 5 + 2 + n) (nI (cnt (otP h A s) 60)) given)) A (A + 5 + 2 + n) (given - hBid h (A + 5 + 2 + n) (nI (cnt (otP h A s) 60)) given))
theorem itr_stop {σ : Type} {step : Nat → σ → σ} {x : σ} {n : Nat} (hf : ∀ k, step k (itr step n x) = itr step n x) : ∀ d, itr step (n + d) x = itr step n x := by
  intro d
  induction d with
  | zero => rfl
  | succ d ih =>
    show step (n + d) (itr step (n + d) x) = _
    rw [ih]
    exact hf _
theorem ssC_sh {A : Nat} {s : Int32} {ne : Bool} {i : Nat} {x : Hp × Int64} : (ssC A s ne i x).1.1 = x.1.1 := by
  unfold ssC
  split
  · split <;> rfl
  · rfl
theorem sbC_sh {A : Nat} {s : Int32} {part : Int64} {i : Nat} {h : Hp} : (sbC A s part i h).1 = h.1 := by
  unfold sbC
  split <;> rfl
theorem b2i_eq {a b : Bool} : b2i a = b2i b ↔ a = b := by cases a <;> cases b <;> decide
theorem ssK {A : Nat} {s : Int32} {ne : Bool} {x : Hp × Int64} (N : Nat) : (itr (ssC A s ne) N x).1.1 = x.1.1 := itr_keep (step := ssC A s ne) (fun y : Hp × Int64 => y.1.1) (fun _ _ => ssC_sh) x N
theorem ssL_sh {A : Nat} {s : Int32} {ne : Bool} {x : Hp × Int64} : (ssL A s ne x).1.1 = x.1.1 := by
  unfold ssL
  rw [ssK]
theorem sbL_sh {A : Nat} {s : Int32} {part : Int64} {h : Hp} : (sbL A s part h).1 = h.1 := itr_keep (step := sbC A s part) (fun y : Hp => y.1) (fun _ _ => sbC_sh) h 60
theorem ssC_0 {A : Nat} {s : Int32} {ne : Bool} {i : Nat} {x : Hp × Int64} (hx : ¬ 0 < x.2) : ssC A s ne i x = x := if_neg hx
theorem rShare_sh {h : Hp} {A : Nat} {s oth : Int32} {bid : Int64} : (rShare h A s oth bid).1 = h.1 := by
  unfold rShare
  split
  · rw [ssL_sh, ssL_sh, sbL_sh]
  · rfl
theorem rRepay_sh {h : Hp} {A p : Nat} {c : Int64} : (rRepay h A p c).2.1 = h.1 := by
  unfold rRepay
  split <;> rfl
section
variable {cx : Cx} {h : Hp} {A : Nat}
theorem t_shareSingly {s : Int32} {c : Int64} {ne : Bool} (hA : RSh h.1 A) : DL cx mX2_shareSingly 3 h [.ref A, .int s, .long c, .int (b2i ne)] (ssL A s ne (h, c)).2 (ssL A s ne (h, c)).1 := by
  unfold ssL
  refine Sp.ofQ 4 (by decide) (Nat.le_of_ble_eq_true rfl) rfl (fun Q hQ => ?_)
  have L : ∀ N, N = 60 → J cx mX2_shareSingly (Rm 3 0 0) h 6 [some (.ref A), some (.int s), some (.long c), none, some (.int (b2i ne)), some (.long c), none, some (.int (nI 0)), none] [] 0 0 Q := by
    intro N hN
    rw [← hN] at hQ
    refine dn (P := fun n => J cx mX2_shareSingly (Rm 3 0 0) (itr (ssC A s ne) n (h, c)).1 6 [some (.ref A), some (.int s), some (.long c), none, some (.int (b2i ne)), some (.long (itr (ssC A s ne) n (h, c)).2), none, some (.int (nI n)), none] [] 0 0 Q) N ?_ ?_
    · refine j_iload7 (pc := 6) dX2_shareSingly_6 ?_
      refine j_bipush (pc := 8) (v := nI 60) dX2_shareSingly_8 (by decide) ?_
      refine j_icmpN_ge (pc := 10) (tgt := 79) (by first | decide | omega) (by first | decide | omega) dX2_shareSingly_10 (by decide) (fun c10 => ?_) (fun c10 => by omega)
      refine j_lload5 (pc := 79) dX2_shareSingly_79 ?_
      refine j_lret (pc := 81) dX2_shareSingly_81 rfl ?_
      exact hQ _ _ ⟨_, rfl, rfl, rfl⟩
    · intro n hn ih
      have hn6 : n < 60 := by omega
      have hst : ¬ 0 < (itr (ssC A s ne) n (h, c)).2 → itr (ssC A s ne) N (h, c) = itr (ssC A s ne) n (h, c) := fun z => by
        have q := itr_stop (step := ssC A s ne) (x := (h, c)) (n := n) (fun k => ssC_0 z) (N - n)
        rwa [show n + (N - n) = N by omega] at q
      have hA : RSh (itr (ssC A s ne) n (h, c)).1.1 A := by rw [itr_keep (step := ssC A s ne) (fun y : Hp × Int64 => y.1.1) (fun _ _ => ssC_sh)]; exact hA
      have ih : J cx mX2_shareSingly (Rm 3 0 0) (ssC A s ne n (itr (ssC A s ne) n (h, c))).1 6 [some (.ref A), some (.int s), some (.long c), none, some (.int (b2i ne)), some (.long (ssC A s ne n (itr (ssC A s ne) n (h, c))).2), none, some (.int (nI (n + 1))), none] [] 0 0 Q := ih
      have hQ2 : ¬ 0 < (itr (ssC A s ne) n (h, c)).2 → Q (some (.long (itr (ssC A s ne) n (h, c)).2)) (itr (ssC A s ne) n (h, c)).1 := fun z => hQ _ _ ⟨_, rfl, by rw [hst z], by rw [hst z]⟩
      generalize itr (ssC A s ne) n (h, c) = w at hA ih hQ2
      obtain ⟨w1, w2⟩ := w
      dsimp only at hA ih hQ2 ⊢
      have hB := hA.2.2.2.2.2.1.2
      have hp := (hB.2.2.2 n hn6).2
      have e0 : ¬ w2 ≤ 0 → ¬ nI n = s → pGo w1 (A + 5 + 2 + n) = true → b2i (pNe w1 (A + 5 + 2 + n)) = b2i ne → ssC A s ne n (w1, w2) = (w1.setL (A + 5 + 2 + n) 11 (w1.l (A + 5 + 2 + n) 11 + 1), w2 - 1) := fun z a b c => by
        unfold ssC
        rw [if_pos (Int64.not_le.mp z), if_pos ⟨by unfold otP; rw [decide_eq_false a, b]; rfl, b2i_eq.mp c⟩]
      have e1 : nI n = s → ssC A s ne n (w1, w2) = (w1, w2) := fun a => by
        unfold ssC
        rw [if_neg (c := otP w1 A s n = true ∧ _) (fun z => by have := z.1; unfold otP at this; rw [decide_eq_true a] at this; cases this)]
        split <;> rfl
      have e2 : pGo w1 (A + 5 + 2 + n) = false → ssC A s ne n (w1, w2) = (w1, w2) := fun a => by
        unfold ssC
        rw [if_neg (c := otP w1 A s n = true ∧ _) (fun z => by have := z.1; unfold otP at this; rw [a, Bool.and_false] at this; cases this)]
        split <;> rfl
      have e3 : ¬ b2i (pNe w1 (A + 5 + 2 + n)) = b2i ne → ssC A s ne n (w1, w2) = (w1, w2) := fun a => by
        unfold ssC
        rw [if_neg (c := otP w1 A s n = true ∧ _) (fun z => a (by rw [z.2]))]
        split <;> rfl
      refine j_iload7 (pc := 6) dX2_shareSingly_6 ?_
      refine j_bipush (pc := 8) (v := nI 60) dX2_shareSingly_8 (by decide) ?_
      refine j_icmpN_ge (pc := 10) (tgt := 79) (by first | decide | omega) (by first | decide | omega) dX2_shareSingly_10 (by decide) (fun c10 => by omega) (fun c10 => ?_)
      refine j_lload5 (pc := 13) dX2_shareSingly_13 ?_
      refine j_lconst (pc := 15) (v := 0) dX2_shareSingly_15 (by decide) ?_
      refine j_lcmp_le (pc := 16) (tgt := 79) dX2_shareSingly_16 dX2_shareSingly_17 (by decide) (fun c16 => ?_) (fun c16 => ?_)
      · refine j_lload5 (pc := 79) dX2_shareSingly_79 ?_
        refine j_lret (pc := 81) dX2_shareSingly_81 rfl ?_
        exact hQ2 (Int64.not_lt.mpr c16)
      · refine j_aload0 (pc := 20) dX2_shareSingly_20 ?_
        refine g_X2_42 (pc := 21) rfl hA.1 hA.2.2.2.2.2.1.1 dX2_shareSingly_21 ?_
        refine g_X2_126 (pc := 24) rfl hA.2.2.2.2.2.1.2.1 hA.2.2.2.2.2.1.2.2.1 dX2_shareSingly_24 ?_
        refine j_iload7 (pc := 27) dX2_shareSingly_27 ?_
        refine j_aald (pc := 29) (by decide) hA.2.2.2.2.2.1.2.2.2.1 (pk_in n 60 hn6 rfl) (hB.r hn6) dX2_shareSingly_29 ?_
        refine j_astore8 (pc := 30) dX2_shareSingly_30 (by decide) trivial ?_
        refine j_iload7 (pc := 32) dX2_shareSingly_32 ?_
        refine j_iload1 (pc := 34) dX2_shareSingly_34 ?_
        refine j_icmp_eq (pc := 35) (tgt := 73) dX2_shareSingly_35 (by decide) (fun c35 => ?_) (fun c35 => ?_)
        · refine j_iincN7 (pc := 73) dX2_shareSingly_73 (by decide) trivial ?_
          refine j_goto (pc := 76) (tgt := 6) dX2_shareSingly_76 (by decide) ?_
          first | (rw [e0 c16 c35 c43 c53] at ih; exact J.wk ih (by simp [lcw])) | (rw [e1 c35] at ih; exact J.wk ih (by simp [lcw])) | (rw [e2 c43] at ih; exact J.wk ih (by simp [lcw])) | (rw [e3 c53] at ih; exact J.wk ih (by simp [lcw]))
        · refine j_aload8 (pc := 38) dX2_shareSingly_38 ?_
          refine cd_X2_239 (pc := 40) rfl (t_isGoing hp) hp dX2_shareSingly_40 rfl rfl ?_
          refine j_bif_eq (pc := 43) (tgt := 73) dX2_shareSingly_43 (by decide) (fun c43 => ?_) (fun c43 => ?_)
          · refine j_iincN7 (pc := 73) dX2_shareSingly_73 (by decide) trivial ?_
            refine j_goto (pc := 76) (tgt := 6) dX2_shareSingly_76 (by decide) ?_
            first | (rw [e0 c16 c35 c43 c53] at ih; exact J.wk ih (by simp [lcw])) | (rw [e1 c35] at ih; exact J.wk ih (by simp [lcw])) | (rw [e2 c43] at ih; exact J.wk ih (by simp [lcw])) | (rw [e3 c53] at ih; exact J.wk ih (by simp [lcw]))
          · refine j_aload8 (pc := 46) dX2_shareSingly_46 ?_
            refine cd_X2_300 (pc := 48) rfl (t_isNeither hp) hp dX2_shareSingly_48 rfl rfl ?_
            refine j_iload4 (pc := 51) dX2_shareSingly_51 ?_
            refine j_icmp_ne (pc := 53) (tgt := 73) dX2_shareSingly_53 (by decide) (fun c53 => ?_) (fun c53 => ?_)
            · refine j_iincN7 (pc := 73) dX2_shareSingly_73 (by decide) trivial ?_
              refine j_goto (pc := 76) (tgt := 6) dX2_shareSingly_76 (by decide) ?_
              first | (rw [e0 c16 c35 c43 c53] at ih; exact J.wk ih (by simp [lcw])) | (rw [e1 c35] at ih; exact J.wk ih (by simp [lcw])) | (rw [e2 c43] at ih; exact J.wk ih (by simp [lcw])) | (rw [e3 c53] at ih; exact J.wk ih (by simp [lcw]))
            · refine j_aload8 (pc := 56) dX2_shareSingly_56 ?_
              refine j_dup (pc := 58) dX2_shareSingly_58 ?_
              refine g_X2_293 (pc := 59) rfl hp dX2_shareSingly_59 ?_
              refine j_lconst (pc := 62) (v := 1) dX2_shareSingly_62 (by decide) ?_
              refine j_ladd (pc := 63) dX2_shareSingly_63 ?_
              refine p_X2_293 (pc := 64) rfl hp dX2_shareSingly_64 ?_
              refine j_lload5 (pc := 67) dX2_shareSingly_67 ?_
              refine j_lconst (pc := 69) (v := 1) dX2_shareSingly_69 (by decide) ?_
              refine j_lsub (pc := 70) dX2_shareSingly_70 ?_
              refine j_lstore5 (pc := 71) dX2_shareSingly_71 (by decide) trivial ?_
              refine j_iincN7 (pc := 73) dX2_shareSingly_73 (by decide) trivial ?_
              refine j_goto (pc := 76) (tgt := 6) dX2_shareSingly_76 (by decide) ?_
              first | (rw [e0 c16 c35 c43 c53] at ih; exact J.wk ih (by simp [lcw])) | (rw [e1 c35] at ih; exact J.wk ih (by simp [lcw])) | (rw [e2 c43] at ih; exact J.wk ih (by simp [lcw])) | (rw [e3 c53] at ih; exact J.wk ih (by simp [lcw]))
  refine j_lload2 (pc := 0) dX2_shareSingly_0 ?_
  refine j_lstore5 (pc := 1) dX2_shareSingly_1 (by decide) trivial ?_
  refine j_iconst (pc := 3) (v := nI 0) dX2_shareSingly_3 (by decide) ?_
  refine j_istore7 (pc := 4) dX2_shareSingly_4 (by decide) trivial ?_
  exact L 60 rfl
theorem t_shareBid {s oth : Int32} {bid : Int64} (hA : RSh h.1 A) : DV cx mX2_shareBid 4 h [.ref A, .int s, .int oth, .long bid] (rShare h A s oth bid) := by
  refine Sp.ofQ 4 (by decide) (Nat.le_of_ble_eq_true rfl) rfl (fun Q hQ => ?_)
  unfold rShare at hQ
  have L : 0 < oth → ∀ part, part = bid / oth.toInt64 → ∀ N, N = 60 → J cx mX2_shareBid (Rm 4 0 0) h 14 [some (.ref A), some (.int s), some (.int oth), some (.long bid), none, some (.long part), none, some (.int (nI 0)), none] [] 0 0 Q := by
    intro h0 part hpart N hN
    rw [if_pos h0, ← hpart] at hQ
    unfold sbL at hQ
    rw [← hN] at hQ
    have hAn : ∀ n, RSh (itr (sbC A s part) n h).1 A := fun n => by rw [itr_keep (step := sbC A s part) (fun y : Hp => y.1) (fun _ _ => sbC_sh) h n]; exact hA
    refine dn (P := fun n => J cx mX2_shareBid (Rm 4 0 0) (itr (sbC A s part) n h) 14 [some (.ref A), some (.int s), some (.int oth), some (.long bid), none, some (.long part), none, some (.int (nI n)), none] [] 0 0 Q) N ?_ ?_
    · have hA := hAn N
      generalize itr (sbC A s part) N h = g at hA hQ
      have S1 := t_shareSingly (cx := cx) (h := g) (A := A) (s := s) (c := bid - part * oth.toInt64) (ne := true) hA
      have hA2 : RSh (ssL A s true (g, bid - part * oth.toInt64)).1.1 A := by rw [ssL_sh]; exact hA
      generalize ssL A s true (g, bid - part * oth.toInt64) = w at S1 hA2 hQ
      have S2 := t_shareSingly (cx := cx) (h := w.1) (A := A) (s := s) (c := w.2) (ne := false) hA2
      refine j_iload7 (pc := 14) dX2_shareBid_14 ?_
      refine j_bipush (pc := 16) (v := nI 60) dX2_shareBid_16 (by decide) ?_
      refine j_icmpN_ge (pc := 18) (tgt := 65) (by first | decide | omega) (by first | decide | omega) dX2_shareBid_18 (by decide) (fun c18 => ?_) (fun c18 => by omega)
      refine j_aload0 (pc := 65) dX2_shareBid_65 ?_
      refine j_iload1 (pc := 66) dX2_shareBid_66 ?_
      refine j_lload3 (pc := 67) dX2_shareBid_67 ?_
      refine j_lload5 (pc := 68) dX2_shareBid_68 ?_
      refine j_iload2 (pc := 70) dX2_shareBid_70 ?_
      refine j_i2l (pc := 71) dX2_shareBid_71 ?_
      refine j_lmul (pc := 72) dX2_shareBid_72 ?_
      refine j_lsub (pc := 73) dX2_shareBid_73 ?_
      refine j_iconst (pc := 74) (v := 1) dX2_shareBid_74 (by decide) ?_
      refine cd_X2_296 (pc := 75) rfl (S1) hA.1 dX2_shareBid_75 rfl rfl ?_
      refine j_lstore7 (pc := 78) dX2_shareBid_78 (by decide) trivial ?_
      refine j_aload0 (pc := 80) dX2_shareBid_80 ?_
      refine j_iload1 (pc := 81) dX2_shareBid_81 ?_
      refine j_lload7 (pc := 82) dX2_shareBid_82 ?_
      refine j_iconst (pc := 84) (v := 0) dX2_shareBid_84 (by decide) ?_
      refine cd_X2_296 (pc := 85) rfl (S2) hA2.1 dX2_shareBid_85 rfl rfl ?_
      refine j_pop2l (pc := 88) dX2_shareBid_88 ?_
      refine j_vret (pc := 89) dX2_shareBid_89 rfl ?_
      exact hQ _ _ ⟨rfl, rfl⟩
    · intro n hn ih
      have hn6 : n < 60 := by omega
      have hA := hAn n
      have ih : J cx mX2_shareBid (Rm 4 0 0) (sbC A s part n (itr (sbC A s part) n h)) 14 [some (.ref A), some (.int s), some (.int oth), some (.long bid), none, some (.long part), none, some (.int (nI (n + 1))), none] [] 0 0 Q := ih
      generalize itr (sbC A s part) n h = g at hA ih
      have hB := hA.2.2.2.2.2.1.2
      have hp := (hB.2.2.2 n hn6).2
      have e0 : ¬ nI n = s → pGo g (A + 5 + 2 + n) = true → sbC A s part n g = g.setL (A + 5 + 2 + n) 11 (g.l (A + 5 + 2 + n) 11 + part) := fun a b => by
        unfold sbC
        rw [if_pos (by unfold otP; rw [decide_eq_false a, b]; rfl)]
      have e1 : nI n = s → sbC A s part n g = g := fun a => by
        unfold sbC
        rw [if_neg (fun z => by unfold otP at z; rw [decide_eq_true a] at z; cases z)]
      have e2 : pGo g (A + 5 + 2 + n) = false → sbC A s part n g = g := fun a => by
        unfold sbC
        rw [if_neg (fun z => by unfold otP at z; rw [a, Bool.and_false] at z; cases z)]
      refine j_iload7 (pc := 14) dX2_shareBid_14 ?_
      refine j_bipush (pc := 16) (v := nI 60) dX2_shareBid_16 (by decide) ?_
      refine j_icmpN_ge (pc := 18) (tgt := 65) (by first | decide | omega) (by first | decide | omega) dX2_shareBid_18 (by decide) (fun c18 => by omega) (fun c18 => ?_)
      refine j_aload0 (pc := 21) dX2_shareBid_21 ?_
      refine g_X2_42 (pc := 22) rfl hA.1 hA.2.2.2.2.2.1.1 dX2_shareBid_22 ?_
      refine g_X2_126 (pc := 25) rfl hA.2.2.2.2.2.1.2.1 hA.2.2.2.2.2.1.2.2.1 dX2_shareBid_25 ?_
      refine j_iload7 (pc := 28) dX2_shareBid_28 ?_
      refine j_aald (pc := 30) (by decide) hA.2.2.2.2.2.1.2.2.2.1 (pk_in n 60 hn6 rfl) (hB.r hn6) dX2_shareBid_30 ?_
      refine j_astore8 (pc := 31) dX2_shareBid_31 (by decide) trivial ?_
      refine j_iload7 (pc := 33) dX2_shareBid_33 ?_
      refine j_iload1 (pc := 35) dX2_shareBid_35 ?_
      refine j_icmp_eq (pc := 36) (tgt := 59) dX2_shareBid_36 (by decide) (fun c36 => ?_) (fun c36 => ?_)
      · refine j_iincN7 (pc := 59) dX2_shareBid_59 (by decide) trivial ?_
        refine j_goto (pc := 62) (tgt := 14) dX2_shareBid_62 (by decide) ?_
        first | (rw [e0 c36 c44] at ih; exact J.wk ih (by simp [lcw])) | (rw [e1 c36] at ih; exact J.wk ih (by simp [lcw])) | (rw [e2 c44] at ih; exact J.wk ih (by simp [lcw]))
      · refine j_aload8 (pc := 39) dX2_shareBid_39 ?_
        refine cd_X2_239 (pc := 41) rfl (t_isGoing hp) hp dX2_shareBid_41 rfl rfl ?_
        refine j_bif_eq (pc := 44) (tgt := 59) dX2_shareBid_44 (by decide) (fun c44 => ?_) (fun c44 => ?_)
        · refine j_iincN7 (pc := 59) dX2_shareBid_59 (by decide) trivial ?_
          refine j_goto (pc := 62) (tgt := 14) dX2_shareBid_62 (by decide) ?_
          first | (rw [e0 c36 c44] at ih; exact J.wk ih (by simp [lcw])) | (rw [e1 c36] at ih; exact J.wk ih (by simp [lcw])) | (rw [e2 c44] at ih; exact J.wk ih (by simp [lcw]))
        · refine j_aload8 (pc := 47) dX2_shareBid_47 ?_
          refine j_dup (pc := 49) dX2_shareBid_49 ?_
          refine g_X2_293 (pc := 50) rfl hp dX2_shareBid_50 ?_
          refine j_lload5 (pc := 53) dX2_shareBid_53 ?_
          refine j_ladd (pc := 55) dX2_shareBid_55 ?_
          refine p_X2_293 (pc := 56) rfl hp dX2_shareBid_56 ?_
          refine j_iincN7 (pc := 59) dX2_shareBid_59 (by decide) trivial ?_
          refine j_goto (pc := 62) (tgt := 14) dX2_shareBid_62 (by decide) ?_
          first | (rw [e0 c36 c44] at ih; exact J.wk ih (by simp [lcw])) | (rw [e1 c36] at ih; exact J.wk ih (by simp [lcw])) | (rw [e2 c44] at ih; exact J.wk ih (by simp [lcw]))
  refine j_iload2 (pc := 0) dX2_shareBid_0 ?_
  refine j_if_gt (pc := 1) (tgt := 5) dX2_shareBid_1 (by decide) (fun c1 => ?_) (fun c1 => ?_)
  · refine j_lload3 (pc := 5) dX2_shareBid_5 ?_
    refine j_iload2 (pc := 6) dX2_shareBid_6 ?_
    refine j_i2l (pc := 7) dX2_shareBid_7 ?_
    refine j_ldiv (pc := 8) dX2_shareBid_8 ((fun z => by have e := congrArg Int64.toInt z; rw [Int32.toInt_toInt64] at e; have := Int32.lt_iff_toInt_lt.mp c1; rw [show (0 : Int32).toInt = 0 from rfl] at this; rw [show (0 : Int64).toInt = 0 from rfl] at e; omega)) ?_
    refine j_lstore5 (pc := 9) dX2_shareBid_9 (by decide) trivial ?_
    refine j_iconst (pc := 11) (v := nI 0) dX2_shareBid_11 (by decide) ?_
    refine j_istore7 (pc := 12) dX2_shareBid_12 (by decide) trivial ?_
    exact L c1 _ rfl 60 rfl
  · refine j_vret (pc := 4) dX2_shareBid_4 rfl ?_
    exact hQ _ _ ⟨rfl, by rw [if_neg c1]⟩
theorem t_repayClaim {p : Nat} {c : Int64} (hA : RSh h.1 A) (hp : h.kd p = kObj 1) : DL cx mX2_repayClaim 1 h [.ref A, .ref p, .long c] (rRepay h A p c).1 (rRepay h A p c).2 := by
  have hB := hA.2.2.2.2.2.1.2
  have S := t_seatAt (cx := cx) (h := h) (B := A + 5) (s := h.i p 2) hB
  unfold bSeat at S
  unfold rRepay
  rcases sN_cases (h.i p 2) with ⟨hso, hsn⟩ | ⟨q, hq, hqe, hso⟩ <;> rw [hso] at S ⊢ <;> dsimp only
  · refine Sp.of 3 (by decide) (Nat.le_of_ble_eq_true rfl) rfl ?_
    refine j_aload0 (pc := 0) dX2_repayClaim_0 ?_
    refine g_X2_42 (pc := 1) rfl hA.1 hA.2.2.2.2.2.1.1 dX2_repayClaim_1 ?_
    refine j_aload1 (pc := 4) dX2_repayClaim_4 ?_
    refine g_X2_109 (pc := 5) rfl hp dX2_repayClaim_5 ?_
    refine cd_X2_88 (pc := 8) rfl (S) hA.2.2.2.2.2.1.2.1 dX2_repayClaim_8 rfl rfl ?_
    refine j_rn ?_
    refine j_nstore4 (pc := 11) dX2_repayClaim_11 (by decide) trivial ?_
    refine j_nload4 (pc := 13) dX2_repayClaim_13 ?_
    refine j_ifnonnullN (pc := 15) dX2_repayClaim_15 ?_
    refine j_lconst (pc := 18) (v := 0) dX2_repayClaim_18 (by decide) ?_
    refine j_lret (pc := 19) dX2_repayClaim_19 rfl ?_
    exact ⟨_, rfl, rfl, rfl⟩
  · have hq1 := (hB.2.2.2 q hq).2
    have S2 : DL cx mJ9_min_f86c9 0 h [.long (h.l p 7), .long c] (mn64 (h.l p 7) c) h := s_min _ _
    generalize mn64 (h.l p 7) c = x at S2 ⊢
    refine Sp.of 3 (by decide) (Nat.le_of_ble_eq_true rfl) rfl ?_
    refine j_aload0 (pc := 0) dX2_repayClaim_0 ?_
    refine g_X2_42 (pc := 1) rfl hA.1 hA.2.2.2.2.2.1.1 dX2_repayClaim_1 ?_
    refine j_aload1 (pc := 4) dX2_repayClaim_4 ?_
    refine g_X2_109 (pc := 5) rfl hp dX2_repayClaim_5 ?_
    refine cd_X2_88 (pc := 8) rfl (S) hA.2.2.2.2.2.1.2.1 dX2_repayClaim_8 rfl rfl ?_
    refine j_rs ?_
    refine j_astore4 (pc := 11) dX2_repayClaim_11 (by decide) trivial ?_
    refine j_aload4 (pc := 13) dX2_repayClaim_13 ?_
    refine j_ifnonnull (pc := 15) (tgt := 20) dX2_repayClaim_15 (by decide) ?_
    refine j_aload1 (pc := 20) dX2_repayClaim_20 ?_
    refine g_X2_246 (pc := 21) rfl hp dX2_repayClaim_21 ?_
    refine j_lload2 (pc := 24) dX2_repayClaim_24 ?_
    refine cd_X2_220 (pc := 25) rfl (S2) dX2_repayClaim_25 rfl rfl ?_
    refine j_lstore5 (pc := 28) dX2_repayClaim_28 (by decide) trivial ?_
    refine j_aload4 (pc := 30) dX2_repayClaim_30 ?_
    refine j_dup (pc := 32) dX2_repayClaim_32 ?_
    refine g_X2_145 (pc := 33) rfl hq1 dX2_repayClaim_33 ?_
    refine j_lload5 (pc := 36) dX2_repayClaim_36 ?_
    refine j_ladd (pc := 38) dX2_repayClaim_38 ?_
    refine p_X2_145 (pc := 39) rfl hq1 dX2_repayClaim_39 ?_
    show J cx mX2_repayClaim _ (rpH h A p q x) _ _ _ _ _ _
    refine j_aload1 (pc := 42) dX2_repayClaim_42 ?_
    refine j_dup (pc := 43) dX2_repayClaim_43 ?_
    refine g_X2_246 (pc := 44) rfl hp dX2_repayClaim_44 ?_
    refine j_lload5 (pc := 47) dX2_repayClaim_47 ?_
    refine j_lsub (pc := 49) dX2_repayClaim_49 ?_
    refine p_X2_246 (pc := 50) rfl hp dX2_repayClaim_50 ?_
    show J cx mX2_repayClaim _ (rpG (rpH h A p q x) p x) _ _ _ _ _ _
    refine j_lload5 (pc := 53) dX2_repayClaim_53 ?_
    refine j_lret (pc := 55) dX2_repayClaim_55 rfl ?_
    exact ⟨_, rfl, rfl, rfl⟩
theorem t_handOut {s : Int32} {c : Int64} (hA : RSh h.1 A) : DL cx mX2_handOut 5 h [.ref A, .int s, .long c] (rHand h A s c).1 (rHand h A s c).2 := by
  have hB := hA.2.2.2.2.2.1.2
  have S := t_seatAt (cx := cx) (h := h) (B := A + 5) (s := s) hB
  have S0 := t_countOthers (cx := cx) (h := h) (A := A) (s := s) hA
  unfold bSeat at S
  unfold rHand
  rcases sN_cases s with ⟨hso, hsn⟩ | ⟨n, hn, hse, hso⟩ <;> rw [hso] at S ⊢ <;> dsimp only
  · refine Sp.of 6 (by decide) (Nat.le_of_ble_eq_true rfl) rfl ?_
    refine j_aload0 (pc := 0) dX2_handOut_0 ?_
    refine g_X2_42 (pc := 1) rfl hA.1 hA.2.2.2.2.2.1.1 dX2_handOut_1 ?_
    refine j_iload1 (pc := 4) dX2_handOut_4 ?_
    refine cd_X2_88 (pc := 5) rfl (S) hA.2.2.2.2.2.1.2.1 dX2_handOut_5 rfl rfl ?_
    refine j_rn ?_
    refine j_nstore4 (pc := 8) dX2_handOut_8 (by decide) trivial ?_
    refine j_nload4 (pc := 10) dX2_handOut_10 ?_
    refine j_ifnonnullN (pc := 12) dX2_handOut_12 ?_
    refine j_aload0 (pc := 15) dX2_handOut_15 ?_
    refine g_X2_42 (pc := 16) rfl hA.1 hA.2.2.2.2.2.1.1 dX2_handOut_16 ?_
    refine j_dup (pc := 19) dX2_handOut_19 ?_
    refine g_X2_46 (pc := 20) rfl hA.2.2.2.2.2.1.2.1 dX2_handOut_20 ?_
    refine j_lload2 (pc := 23) dX2_handOut_23 ?_
    refine j_ladd (pc := 24) dX2_handOut_24 ?_
    refine p_X2_46 (pc := 25) rfl hA.2.2.2.2.2.1.2.1 dX2_handOut_25 ?_
    refine j_lconst (pc := 28) (v := 0) dX2_handOut_28 (by decide) ?_
    refine j_lret (pc := 29) dX2_handOut_29 rfl ?_
    exact ⟨_, rfl, rfl, rfl⟩
  · have hp := (hB.2.2.2 n hn).2
    have S2 : DL cx mJ9_min_f86c9 0 h [.long (h.l (A + 5 + 2 + n) 16), .long c] (mn64 (h.l (A + 5 + 2 + n) 16) c) h := s_min _ _
    generalize nI (cnt (otP h A s) 60) = oth at S0 ⊢
    refine Sp.ofQ 6 (by decide) (Nat.le_of_ble_eq_true rfl) rfl (fun Q hQ => ?_)
    have L : J cx mX2_handOut (Rm 5 0 0) h 55 [some (.ref A), some (.int s), some (.long c), none, some (.ref (A + 5 + 2 + n)), some (.int oth), none, none, none, none] [.long (hBid h (A + 5 + 2 + n) oth c)] 0 0 Q := by
      generalize hBid h (A + 5 + 2 + n) oth c = bid at hQ ⊢
      have S3 := t_shareBid (cx := cx) (h := h) (A := A) (s := s) (oth := oth) (bid := bid) hA
      have hA1 : RSh (rShare h A s oth bid).1 A := by rw [rShare_sh]; exact hA
      have hp1 : (rShare h A s oth bid).kd (A + 5 + 2 + n) = kObj 1 := by show (rShare h A s oth bid).1.2.1 _ = _; rw [rShare_sh]; exact hp
      generalize rShare h A s oth bid = g at S3 hA1 hp1 hQ
      have S4 := t_repayClaim (cx := cx) (c := c - bid) hA1 hp1
      have hp2 : (rRepay g A (A + 5 + 2 + n) (c - bid)).2.kd (A + 5 + 2 + n) = kObj 1 := by show (rRepay g A (A + 5 + 2 + n) (c - bid)).2.1.2.1 _ = _; rw [rRepay_sh]; exact hp1
      unfold rHand2 at hQ
      generalize rRepay g A (A + 5 + 2 + n) (c - bid) = w at S4 hp2 hQ
      refine j_lstore6 (pc := 55) dX2_handOut_55 (by decide) trivial ?_
      refine j_aload0 (pc := 57) dX2_handOut_57 ?_
      refine j_iload1 (pc := 58) dX2_handOut_58 ?_
      refine j_iload5 (pc := 59) dX2_handOut_59 ?_
      refine j_lload6 (pc := 61) dX2_handOut_61 ?_
      refine cd_X2_283 (pc := 63) rfl (S3) hA.1 dX2_handOut_63 rfl rfl ?_
      have hA := hA1
      have hp := hp1
      refine j_lload2 (pc := 66) dX2_handOut_66 ?_
      refine j_lload6 (pc := 67) dX2_handOut_67 ?_
      refine j_lsub (pc := 69) dX2_handOut_69 ?_
      refine j_lstore8 (pc := 70) dX2_handOut_70 (by decide) trivial ?_
      refine j_aload4 (pc := 72) dX2_handOut_72 ?_
      refine j_lload8 (pc := 74) dX2_handOut_74 ?_
      refine j_aload0 (pc := 76) dX2_handOut_76 ?_
      refine j_aload4 (pc := 77) dX2_handOut_77 ?_
      refine j_lload8 (pc := 79) dX2_handOut_79 ?_
      refine cd_X2_287 (pc := 81) rfl (S4) hA.1 dX2_handOut_81 rfl rfl ?_
      refine j_lsub (pc := 84) dX2_handOut_84 ?_
      refine p_X2_290 (pc := 85) rfl hp2 dX2_handOut_85 ?_
      refine j_aload4 (pc := 88) dX2_handOut_88 ?_
      refine j_iconst (pc := 90) (v := 1) dX2_handOut_90 (by decide) ?_
      refine p_X2_208' (pc := 91) rfl hp2 (by decide) dX2_handOut_91 ?_
      refine j_lload6 (pc := 94) dX2_handOut_94 ?_
      refine j_lret (pc := 96) dX2_handOut_96 rfl ?_
      exact hQ _ _ ⟨_, rfl, rfl, rfl⟩
    refine j_aload0 (pc := 0) dX2_handOut_0 ?_
    refine g_X2_42 (pc := 1) rfl hA.1 hA.2.2.2.2.2.1.1 dX2_handOut_1 ?_
    refine j_iload1 (pc := 4) dX2_handOut_4 ?_
    refine cd_X2_88 (pc := 5) rfl (S) hA.2.2.2.2.2.1.2.1 dX2_handOut_5 rfl rfl ?_
    refine j_rs ?_
    refine j_astore4 (pc := 8) dX2_handOut_8 (by decide) trivial ?_
    refine j_aload4 (pc := 10) dX2_handOut_10 ?_
    refine j_ifnonnull (pc := 12) (tgt := 30) dX2_handOut_12 (by decide) ?_
    refine j_aload0 (pc := 30) dX2_handOut_30 ?_
    refine j_iload1 (pc := 31) dX2_handOut_31 ?_
    refine cd_X2_279 (pc := 32) rfl (S0) hA.1 dX2_handOut_32 rfl rfl ?_
    refine j_istore5 (pc := 35) dX2_handOut_35 (by decide) trivial ?_
    refine j_iload5 (pc := 37) dX2_handOut_37 ?_
    refine j_if_ne (pc := 39) (tgt := 46) dX2_handOut_39 (by decide) (fun c39 => ?_) (fun c39 => ?_)
    · refine j_aload4 (pc := 46) dX2_handOut_46 ?_
      refine g_X2_199 (pc := 48) rfl hp dX2_handOut_48 ?_
      refine j_lload2 (pc := 51) dX2_handOut_51 ?_
      refine cd_X2_220 (pc := 52) rfl (S2) dX2_handOut_52 rfl rfl ?_
      first | (have e : hBid h (A + 5 + 2 + n) oth c = 0 := if_pos c39; rw [e] at L; exact L) | (have e : hBid h (A + 5 + 2 + n) oth c = mn64 (h.l (A + 5 + 2 + n) 16) c := if_neg c39; rw [e] at L; exact L)
    · refine j_lconst (pc := 42) (v := 0) dX2_handOut_42 (by decide) ?_
      refine j_goto (pc := 43) (tgt := 55) dX2_handOut_43 (by decide) ?_
      first | (have e : hBid h (A + 5 + 2 + n) oth c = 0 := if_pos c39; rw [e] at L; exact L) | (have e : hBid h (A + 5 + 2 + n) oth c = mn64 (h.l (A + 5 + 2 + n) 16) c := if_neg c39; rw [e] at L; exact L)
end

