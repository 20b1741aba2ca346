/-! the reference: sharing a bid, the one that draws -/
theorem s1_no {by_ s : Nat} {ne : Bool} {k : Fl} {p : Int64} (h : isOt k by_ s = false ∨ (isNe k s == ne) = false) : s1S by_ ne s (k, p) = (k, p) := by
  unfold s1S
  split
  · rw [if_neg]
    rcases h with h | h
    · dsimp only
      rw [h]
      simp
    · dsimp only
      rw [h]
      simp
  · rfl
theorem s1_yes {by_ s : Nat} {ne : Bool} {k : Fl} {p : Int64} (h0 : 0 < p) (h1 : isOt k by_ s = true) (h2 : (isNe k s == ne) = true) : s1S by_ ne s (k, p) = (upF k (ix s 10) (k (ix s 10) + 1), p - 1) := by
  unfold s1S
  dsimp only
  rw [if_pos h0, if_pos (by rw [h1, h2]; rfl)]
theorem shS_y {by_ s : Nat} {part : Int64} {k : Fl} (h : isOt k by_ s = true) : shS by_ part s k = upF k (ix s 10) (k (ix s 10) + part) := if_pos h
theorem shS_n {by_ s : Nat} {part : Int64} {k : Fl} (h : isOt k by_ s = false) : shS by_ part s k = k := if_neg (by rw [h]; decide)
section
variable {cx : Cx} {h : Hp} {M a : Nat} {f : Fl}
theorem s_shares {b : Nat} {bid oth : Int64} (hM : MSh h.1 M) (ha : a < 40) (hb : b < 60) (ho : ¬ oth = 0) : DV cx mX5_shares 4 (mh h M a f) [.ref M, .int (nI a), .int (nI b), .long bid, .long oth] (mh h M a (shares f b bid oth)) := by
  refine Sp.ofQ 4 (by decide) (Nat.le_of_ble_eq_true rfl) rfl (fun Q hQ => ?_)
  have L3 : ∀ (tn : Nat) (ne : Bool), (tn = 0 ∧ ne = true) ∨ (tn = 1 ∧ ne = false) → ∀ (x0 : Fl × Int64), (∀ e10 : Option Value, J cx mX5_shares (Rm 4 0 0) (mh h M a (itr (s1S b ne) 60 x0).1) 134 [some (.ref M), some (.int (nI a)), some (.int (nI b)), some (.long bid), none, some (.long oth), none, some (.long (itr (s1S b ne) 60 x0).2), none, some (.int (nI tn)), e10] [] 0 0 Q) → J cx mX5_shares (Rm 4 0 0) (mh h M a x0.1) 61 [some (.ref M), some (.int (nI a)), some (.int (nI b)), some (.long bid), none, some (.long oth), none, some (.long x0.2), none, some (.int (nI tn)), some (.int (nI 0))] [] 0 0 Q := by
    intro tn ne htn x0 K
    refine dn (P := fun n => J cx mX5_shares (Rm 4 0 0) (mh h M a (itr (s1S b ne) n x0).1) 61 [some (.ref M), some (.int (nI a)), some (.int (nI b)), some (.long bid), none, some (.long oth), none, some (.long (itr (s1S b ne) n x0).2), none, some (.int (nI tn)), some (.int (nI n))] [] 0 0 Q) 60 ?_ ?_
    · refine j_iload10 dX5_shares_61 ?_
      refine j_bipush (v := nI 60) dX5_shares_63 (by decide) ?_
      refine j_icmpN_ge (tgt := 134) (by first | decide | omega) (by first | decide | omega) dX5_shares_65 (by decide) (fun c65 => ?_) (fun c65 => by omega)
      exact K _
    · intro s hs ih
      have hst : ¬ 0 < (itr (s1S b ne) s x0).2 → itr (s1S b ne) 60 x0 = itr (s1S b ne) s x0 := fun z => by
        have e := s1_stop z (60 - s)
        rwa [show s + (60 - s) = 60 by omega] at e
      have ih : J cx mX5_shares (Rm 4 0 0) (mh h M a (s1S b ne s (itr (s1S b ne) s x0)).1) 61 [some (.ref M), some (.int (nI a)), some (.int (nI b)), some (.long bid), none, some (.long oth), none, some (.long (s1S b ne s (itr (s1S b ne) s x0)).2), none, some (.int (nI tn)), some (.int (nI (s + 1)))] [] 0 0 Q := ih
      generalize itr (s1S b ne) s x0 = x at hst ih
      obtain ⟨k, p⟩ := x
      have hst : ¬ 0 < p → itr (s1S b ne) 60 x0 = (k, p) := hst
      have hw : ∀ {x : Fl × Int64}, s1S b ne s (k, p) = x → J cx mX5_shares (Rm 4 0 0) (mh h M a x.1) 61 [some (.ref M), some (.int (nI a)), some (.int (nI b)), some (.long bid), none, some (.long oth), none, some (.long x.2), none, some (.int (nI tn)), some (.int (nI (s + 1)))] [] 0 0 Q := fun e => by
        rw [e] at ih
        exact ih
      rcases htn with ⟨rfl, rfl⟩ | ⟨rfl, rfl⟩
      · refine j_iload10 dX5_shares_61 ?_
        refine j_bipush (v := nI 60) dX5_shares_63 (by decide) ?_
        refine j_icmpN_ge (tgt := 134) (by first | decide | omega) (by first | decide | omega) dX5_shares_65 (by decide) (fun c65 => by omega) (fun c65 => ?_)
        refine j_lload7 dX5_shares_68 ?_
        refine j_lconst (v := 0) dX5_shares_70 (by decide) ?_
        refine j_lcmp_le (tgt := 134) dX5_shares_71 dX5_shares_72 (by decide) (fun c71 => ?_) (fun c71 => ?_)
        · have K2 := K (some (.int (nI s))); rw [hst (Int64.not_lt.mpr c71)] at K2; exact K2
        · refine j_aload0 dX5_shares_75 ?_
          refine j_iload1 dX5_shares_76 ?_
          refine j_iload10 dX5_shares_77 ?_
          refine j_iload2 dX5_shares_79 ?_
          refine cd_X5_139 rfl (s_isOther hM ha hs hb) hM.1 dX5_shares_80 rfl rfl ?_
          refine j_bif_eq (tgt := 128) dX5_shares_83 (by decide) (fun c83 => ?_) (fun c83 => ?_)
          · refine j_iincN10 dX5_shares_128 (by decide) trivial ?_
            refine j_goto (tgt := 61) dX5_shares_131 (by decide) ?_
            first | exact hw (s1_no (Or.inl c83)) | exact hw (s1_yes (Int64.not_le.mp c71) c83 (by rw [b1_1.mp c103]; rfl)) | exact hw (s1_no (Or.inr (by cases z : isNe k s; rfl; exact absurd (b1_1.mpr z) c103)))
          · refine j_aload0 dX5_shares_86 ?_
            refine j_iload1 dX5_shares_87 ?_
            refine j_iload10 dX5_shares_88 ?_
            refine cd_X5_57 rfl (s_isNeither hM ha hs) hM.1 dX5_shares_90 rfl rfl ?_
            refine j_iload9 dX5_shares_93 ?_
            refine j_if_ne (tgt := 102) dX5_shares_95 (by decide) (fun c95 => by exact absurd rfl c95) (fun c95 => ?_)
            refine j_iconst (v := 1) dX5_shares_98 (by decide) ?_
            refine j_goto (tgt := 103) dX5_shares_99 (by decide) ?_
            refine j_icmp_eq (tgt := 109) dX5_shares_103 (by decide) (fun c103 => ?_) (fun c103 => ?_)
            · refine j_aload0 dX5_shares_109 ?_
              refine j_iload1 dX5_shares_110 ?_
              refine j_iload10 dX5_shares_111 ?_
              refine j_bipush (v := nI 10) dX5_shares_113 (by decide) ?_
              refine cd_X5_37 rfl (s_at) dX5_shares_115 rfl rfl ?_
              refine j_lconst (v := 1) dX5_shares_118 (by decide) ?_
              refine cd_X5_76 rfl (s_more hM ha (by first | decide | exact ix_lt hs (by decide) | omega)) hM.1 dX5_shares_119 rfl rfl ?_
              refine j_lload7 dX5_shares_122 ?_
              refine j_lconst (v := 1) dX5_shares_124 (by decide) ?_
              refine j_lsub dX5_shares_125 ?_
              refine j_lstore7 dX5_shares_126 (by decide) trivial ?_
              refine j_iincN10 dX5_shares_128 (by decide) trivial ?_
              refine j_goto (tgt := 61) dX5_shares_131 (by decide) ?_
              first | exact hw (s1_no (Or.inl c83)) | exact hw (s1_yes (Int64.not_le.mp c71) c83 (by rw [b1_1.mp c103]; rfl)) | exact hw (s1_no (Or.inr (by cases z : isNe k s; rfl; exact absurd (b1_1.mpr z) c103)))
            · refine j_goto (tgt := 128) dX5_shares_106 (by decide) ?_
              refine j_iincN10 dX5_shares_128 (by decide) trivial ?_
              refine j_goto (tgt := 61) dX5_shares_131 (by decide) ?_
              first | exact hw (s1_no (Or.inl c83)) | exact hw (s1_yes (Int64.not_le.mp c71) c83 (by rw [b1_1.mp c103]; rfl)) | exact hw (s1_no (Or.inr (by cases z : isNe k s; rfl; exact absurd (b1_1.mpr z) c103)))
      · refine j_iload10 dX5_shares_61 ?_
        refine j_bipush (v := nI 60) dX5_shares_63 (by decide) ?_
        refine j_icmpN_ge (tgt := 134) (by first | decide | omega) (by first | decide | omega) dX5_shares_65 (by decide) (fun c65 => by omega) (fun c65 => ?_)
        refine j_lload7 dX5_shares_68 ?_
        refine j_lconst (v := 0) dX5_shares_70 (by decide) ?_
        refine j_lcmp_le (tgt := 134) dX5_shares_71 dX5_shares_72 (by decide) (fun c71 => ?_) (fun c71 => ?_)
        · have K2 := K (some (.int (nI s))); rw [hst (Int64.not_lt.mpr c71)] at K2; exact K2
        · refine j_aload0 dX5_shares_75 ?_
          refine j_iload1 dX5_shares_76 ?_
          refine j_iload10 dX5_shares_77 ?_
          refine j_iload2 dX5_shares_79 ?_
          refine cd_X5_139 rfl (s_isOther hM ha hs hb) hM.1 dX5_shares_80 rfl rfl ?_
          refine j_bif_eq (tgt := 128) dX5_shares_83 (by decide) (fun c83 => ?_) (fun c83 => ?_)
          · refine j_iincN10 dX5_shares_128 (by decide) trivial ?_
            refine j_goto (tgt := 61) dX5_shares_131 (by decide) ?_
            first | exact hw (s1_no (Or.inl c83)) | exact hw (s1_yes (Int64.not_le.mp c71) c83 (by rw [b2i_0.mp c103]; rfl)) | exact hw (s1_no (Or.inr (by cases z : isNe k s; exact absurd (b2i_0.mpr z) c103; rfl)))
          · refine j_aload0 dX5_shares_86 ?_
            refine j_iload1 dX5_shares_87 ?_
            refine j_iload10 dX5_shares_88 ?_
            refine cd_X5_57 rfl (s_isNeither hM ha hs) hM.1 dX5_shares_90 rfl rfl ?_
            refine j_iload9 dX5_shares_93 ?_
            refine j_if_ne (tgt := 102) dX5_shares_95 (by decide) (fun c95 => ?_) (fun c95 => by exact absurd c95 (by decide))
            refine j_iconst (v := 0) dX5_shares_102 (by decide) ?_
            refine j_icmp_eq (tgt := 109) dX5_shares_103 (by decide) (fun c103 => ?_) (fun c103 => ?_)
            · refine j_aload0 dX5_shares_109 ?_
              refine j_iload1 dX5_shares_110 ?_
              refine j_iload10 dX5_shares_111 ?_
              refine j_bipush (v := nI 10) dX5_shares_113 (by decide) ?_
              refine cd_X5_37 rfl (s_at) dX5_shares_115 rfl rfl ?_
              refine j_lconst (v := 1) dX5_shares_118 (by decide) ?_
              refine cd_X5_76 rfl (s_more hM ha (by first | decide | exact ix_lt hs (by decide) | omega)) hM.1 dX5_shares_119 rfl rfl ?_
              refine j_lload7 dX5_shares_122 ?_
              refine j_lconst (v := 1) dX5_shares_124 (by decide) ?_
              refine j_lsub dX5_shares_125 ?_
              refine j_lstore7 dX5_shares_126 (by decide) trivial ?_
              refine j_iincN10 dX5_shares_128 (by decide) trivial ?_
              refine j_goto (tgt := 61) dX5_shares_131 (by decide) ?_
              first | exact hw (s1_no (Or.inl c83)) | exact hw (s1_yes (Int64.not_le.mp c71) c83 (by rw [b2i_0.mp c103]; rfl)) | exact hw (s1_no (Or.inr (by cases z : isNe k s; exact absurd (b2i_0.mpr z) c103; rfl)))
            · refine j_goto (tgt := 128) dX5_shares_106 (by decide) ?_
              refine j_iincN10 dX5_shares_128 (by decide) trivial ?_
              refine j_goto (tgt := 61) dX5_shares_131 (by decide) ?_
              first | exact hw (s1_no (Or.inl c83)) | exact hw (s1_yes (Int64.not_le.mp c71) c83 (by rw [b2i_0.mp c103]; rfl)) | exact hw (s1_no (Or.inr (by cases z : isNe k s; exact absurd (b2i_0.mpr z) c103; rfl)))
  have L1 : J cx mX5_shares (Rm 4 0 0) (mh h M a f) 3 [some (.ref M), some (.int (nI a)), some (.int (nI b)), some (.long bid), none, some (.long oth), none, some (.int (nI 0)), none, none, none] [] 0 0 Q := by
    refine dn (P := fun n => J cx mX5_shares (Rm 4 0 0) (mh h M a (itr (shS b (bid / oth)) n f)) 3 [some (.ref M), some (.int (nI a)), some (.int (nI b)), some (.long bid), none, some (.long oth), none, some (.int (nI n)), none, none, none] [] 0 0 Q) 60 ?_ ?_
    · refine j_iload7 dX5_shares_3 ?_
      refine j_bipush (v := nI 60) dX5_shares_5 (by decide) ?_
      refine j_icmpN_ge (tgt := 43) (by first | decide | omega) (by first | decide | omega) dX5_shares_7 (by decide) (fun c7 => ?_) (fun c7 => by omega)
      refine j_lload3 dX5_shares_43 ?_
      refine j_lload5 dX5_shares_44 ?_
      refine j_lrem dX5_shares_46 (ho) ?_
      refine j_lstore7 dX5_shares_47 (by decide) trivial ?_
      refine j_iconst (v := nI 0) dX5_shares_49 (by decide) ?_
      refine j_istore9 dX5_shares_50 (by decide) trivial ?_
      refine j_iload9 dX5_shares_52 ?_
      refine j_iconst (v := nI 2) dX5_shares_54 (by decide) ?_
      refine j_icmpN_ge (tgt := 140) (by first | decide | omega) (by first | decide | omega) dX5_shares_55 (by decide) (fun c55 => by omega) (fun c55 => ?_)
      refine j_iconst (v := nI 0) dX5_shares_58 (by decide) ?_
      refine j_istore10 dX5_shares_59 (by decide) trivial ?_
      refine L3 0 true (Or.inl ⟨rfl, rfl⟩) (itr (shS b (bid / oth)) 60 f, bid - bid / oth * oth) (fun e10 => ?_)
      refine j_iincN9 dX5_shares_134 (by decide) trivial ?_
      refine j_goto (tgt := 52) dX5_shares_137 (by decide) ?_
      refine j_iload9 dX5_shares_52 ?_
      refine j_iconst (v := nI 2) dX5_shares_54 (by decide) ?_
      refine j_icmpN_ge (tgt := 140) (by decide) (by decide) dX5_shares_55 (by decide) (fun c => by omega) (fun c => ?_)
      refine j_iconst (v := nI 0) dX5_shares_58 (by decide) ?_
      refine j_istore10 dX5_shares_59 (by decide) trivial ?_
      refine L3 1 false (Or.inr ⟨rfl, rfl⟩) (itr (s1S b true) 60 (itr (shS b (bid / oth)) 60 f, bid - bid / oth * oth)) (fun e11 => ?_)
      refine j_iincN9 dX5_shares_134 (by decide) trivial ?_
      refine j_goto (tgt := 52) dX5_shares_137 (by decide) ?_
      refine j_iload9 dX5_shares_52 ?_
      refine j_iconst (v := nI 2) dX5_shares_54 (by decide) ?_
      refine j_icmpN_ge (tgt := 140) (by decide) (by decide) dX5_shares_55 (by decide) (fun c => ?_) (fun c => by omega)
      refine j_vret dX5_shares_140 rfl ?_
      exact hQ _ _ ⟨rfl, rfl⟩
    · intro s hs ih
      have ih : J cx mX5_shares (Rm 4 0 0) (mh h M a (shS b (bid / oth) s (itr (shS b (bid / oth)) s f))) 3 [some (.ref M), some (.int (nI a)), some (.int (nI b)), some (.long bid), none, some (.long oth), none, some (.int (nI (s + 1))), none, none, none] [] 0 0 Q := ih
      generalize itr (shS b (bid / oth)) s f = k at ih
      refine j_iload7 dX5_shares_3 ?_
      refine j_bipush (v := nI 60) dX5_shares_5 (by decide) ?_
      refine j_icmpN_ge (tgt := 43) (by first | decide | omega) (by first | decide | omega) dX5_shares_7 (by decide) (fun c7 => by omega) (fun c7 => ?_)
      refine j_aload0 dX5_shares_10 ?_
      refine j_iload1 dX5_shares_11 ?_
      refine j_iload7 dX5_shares_12 ?_
      refine j_iload2 dX5_shares_14 ?_
      refine cd_X5_139 rfl (s_isOther hM ha hs hb) hM.1 dX5_shares_15 rfl rfl ?_
      refine j_bif_eq (tgt := 37) dX5_shares_18 (by decide) (fun c18 => ?_) (fun c18 => ?_)
      · refine j_iincN7 dX5_shares_37 (by decide) trivial ?_
        refine j_goto (tgt := 3) dX5_shares_40 (by decide) ?_
        first | (rw [shS_n c18] at ih; exact ih) | (rw [shS_y c18] at ih; exact ih)
      · refine j_aload0 dX5_shares_21 ?_
        refine j_iload1 dX5_shares_22 ?_
        refine j_iload7 dX5_shares_23 ?_
        refine j_bipush (v := nI 10) dX5_shares_25 (by decide) ?_
        refine cd_X5_37 rfl (s_at) dX5_shares_27 rfl rfl ?_
        refine j_lload3 dX5_shares_30 ?_
        refine j_lload5 dX5_shares_31 ?_
        refine j_ldiv dX5_shares_33 (ho) ?_
        refine cd_X5_76 rfl (s_more hM ha (by first | decide | exact ix_lt hs (by decide) | omega)) hM.1 dX5_shares_34 rfl rfl ?_
        refine j_iincN7 dX5_shares_37 (by decide) trivial ?_
        refine j_goto (tgt := 3) dX5_shares_40 (by decide) ?_
        first | (rw [shS_n c18] at ih; exact ih) | (rw [shS_y c18] at ih; exact ih)
  refine j_iconst (v := nI 0) dX5_shares_0 (by decide) ?_
  refine j_istore7 dX5_shares_1 (by decide) trivial ?_
  exact L1
end

