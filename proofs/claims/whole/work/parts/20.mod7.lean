/-! the reference: a round's end, its pieces -/
theorem s1_stop {by_ : Nat} {ne : Bool} {x : Fl × Int64} {n : Nat} (h : ¬ 0 < (itr (s1S by_ ne) n x).2) : ∀ d, itr (s1S by_ ne) (n + d) x = itr (s1S by_ ne) n x
  | 0 => rfl
  | d + 1 => by
    show s1S by_ ne (n + d) (itr (s1S by_ ne) (n + d) x) = _
    rw [s1_stop h d]
    exact if_neg h
theorem lkS_1 {s : Nat} {k : Fl} {p : Int64} (h1 : isPl k s = false) : lkS s (k, p) = (k, p) := if_pos h1
theorem lkS_2 {s : Nat} {k : Fl} {p : Int64} (h1 : isPl k s = true) (h2 : isSt k s = true) : lkS s (k, p) = (k, p) := (if_neg (by rw [h1]; decide)).trans (if_pos h2)
theorem lkS_3 {s : Nat} {k : Fl} {p : Int64} (h1 : isPl k s = true) (h2 : isSt k s = false) (h3 : k 1 - k (ix s 13) = 0) : lkS s (k, p) = (k, p) := (if_neg (by rw [h1]; decide)).trans ((if_neg (by rw [h2]; decide)).trans (if_pos h3))
theorem lkS_a {s : Nat} {k : Fl} {p put : Int64} (h1 : isPl k s = true) (h2 : isSt k s = false) (h3 : ¬ k 1 - k (ix s 13) = 0) (hp : lkPut (upF k (ix s 12) 0) s = put) (h0 : ¬ 0 < put) :
    lkS s (k, p) = (upF (upF (upF k (ix s 12) 0) (ix s 6) (upF k (ix s 12) 0 (ix s 6) + put)) (ix s 5) (upF (upF k (ix s 12) 0) (ix s 6) (upF k (ix s 12) 0 (ix s 6) + put) (ix s 5) + (k 1 - k (ix s 13) - put)), p + put) := by
  subst hp
  refine (if_neg (by rw [h1]; decide)).trans ((if_neg (by rw [h2]; decide)).trans ((if_neg h3).trans ?_))
  dsimp only
  rw [if_neg h0]
theorem lkS_b {s q : Nat} {k : Fl} {p put : Int64} (h1 : isPl k s = true) (h2 : isSt k s = false) (h3 : ¬ k 1 - k (ix s 13) = 0) (hp : lkPut (upF k (ix s 12) 0) s = put) (h0 : 0 < put) (hq : (upF k (ix s 12) 0 (ix s 2)).toInt.toNat = q) :
    lkS s (k, p) = (upF (upF (upF (upF k (ix s 12) 0) (ix q 7) (upF k (ix s 12) 0 (ix q 7) + -put)) (ix s 6) (upF (upF k (ix s 12) 0) (ix q 7) (upF k (ix s 12) 0 (ix q 7) + -put) (ix s 6) + put)) (ix s 5) (upF (upF (upF k (ix s 12) 0) (ix q 7) (upF k (ix s 12) 0 (ix q 7) + -put)) (ix s 6) (upF (upF k (ix s 12) 0) (ix q 7) (upF k (ix s 12) 0 (ix q 7) + -put) (ix s 6) + put) (ix s 5) + (k 1 - k (ix s 13) - put)), p + put) := by
  subst hp
  subst hq
  refine (if_neg (by rw [h1]; decide)).trans ((if_neg (by rw [h2]; decide)).trans ((if_neg h3).trans ?_))
  dsimp only
  rw [if_pos h0]
theorem lkP_n {g : Fl} {s : Nat} (h : g (ix s 2) = -1) : lkPut g s = 0 := if_pos (by rw [h]; exact m1_i)
theorem lkP_s {g : Fl} {s q : Nat} (hq : q < 60) (h : g (ix s 2) = lN q) (h2 : isSt g q = true) : lkPut g s = 0 := by
  unfold lkPut
  rw [h, lN_i, lN_nat (by omega), if_neg (nI_ne hq), if_pos h2]
theorem lkP_m {g : Fl} {s q : Nat} (hq : q < 60) (h : g (ix s 2) = lN q) (h2 : isSt g q = false) : lkPut g s = if g 1 - g (ix s 13) ≤ g (ix q 7) then g 1 - g (ix s 13) else g (ix q 7) := by
  unfold lkPut
  rw [h, lN_i, lN_nat (by omega), if_neg (nI_ne hq), if_neg (by rw [h2]; decide)]
theorem b1_1 {b : Bool} : b2i b = 1 ↔ b = true := by cases b <;> simp [b2i]
section
variable {cx : Cx} {h : Hp} {M a : Nat} {f : Fl}
theorem s_lacks (hM : MSh h.1 M) (ha : a < 40) (hsu : suOK f) : Sp cx mX5_lacks 3 0 0 (mh h M a f) [.ref M, .int (nI a)] (Rl fun y g => y = (lacks f 60).2 ∧ g = mh h M a (lacks f 60).1) := by
  refine Sp.ofQ 8 (by decide) (Nat.le_of_ble_eq_true rfl) rfl (fun Q hQ => ?_)
  have L1 : J cx mX5_lacks (Rm 3 0 0) (mh h M a f) 5 [some (.ref M), some (.int (nI a)), some (.long 0), none, some (.int (nI 0)), none, none, none, none, none] [] 0 0 Q := by
    refine dn (P := fun n => J cx mX5_lacks (Rm 3 0 0) (mh h M a (lacks f n).1) 5 [some (.ref M), some (.int (nI a)), some (.long (lacks f n).2), none, some (.int (nI n)), none, none, none, none, none] [] 0 0 Q) 60 ?_ ?_
    · refine j_iload4 dX5_lacks_5 ?_
      refine j_bipush (v := nI 60) dX5_lacks_7 (by decide) ?_
      refine j_icmpN_ge (tgt := 195) (by first | decide | omega) (by first | decide | omega) dX5_lacks_9 (by decide) (fun c9 => ?_) (fun c9 => by omega)
      refine j_lload2 dX5_lacks_195 ?_
      refine j_lret dX5_lacks_196 rfl ?_
      exact hQ _ _ ⟨_, rfl, rfl, rfl⟩
    · intro s hs ih
      have hu : (lacks f s).1 (ix s 2) = f (ix s 2) := lacks_u f s s
      have ih : J cx mX5_lacks (Rm 3 0 0) (mh h M a (lkS s (lacks f s)).1) 5 [some (.ref M), some (.int (nI a)), some (.long (lkS s (lacks f s)).2), none, some (.int (nI (s + 1))), none, none, none, none, none] [] 0 0 Q := ih
      generalize lacks f s = x at hu ih
      obtain ⟨k, p⟩ := x
      have hu : k (ix s 2) = f (ix s 2) := hu
      have hn2 : upF k (ix s 12) 0 (ix s 2) = k (ix s 2) := upF_n _ _ (by unfold ix; omega)
      have hw : ∀ {x : Fl × Int64} {e5 e6 e7 e8 e9 : Option Value}, lkS s (k, p) = x → J cx mX5_lacks (Rm 3 0 0) (mh h M a x.1) 5 [some (.ref M), some (.int (nI a)), some (.long x.2), none, some (.int (nI (s + 1))), e5, e6, e7, e8, e9] [] 0 0 Q := fun e => by
        rw [e] at ih
        exact J.wk ih (by simp [lcw])
      have hg1 : upF k (ix s 12) 0 1 = k 1 := upF_n _ _ (by unfold ix; omega)
      have hg3 : upF k (ix s 12) 0 (ix s 13) = k (ix s 13) := upF_n _ _ (by unfold ix; omega)
      rcases hsu s hs with hm | ⟨q, hq, hqe⟩
      · rw [hm] at hu
        rw [hu] at hn2
        refine j_iload4 dX5_lacks_5 ?_
        refine j_bipush (v := nI 60) dX5_lacks_7 (by decide) ?_
        refine j_icmpN_ge (tgt := 195) (by first | decide | omega) (by first | decide | omega) dX5_lacks_9 (by decide) (fun c9 => by omega) (fun c9 => ?_)
        refine j_aload0 dX5_lacks_12 ?_
        refine j_iload1 dX5_lacks_13 ?_
        refine j_iload4 dX5_lacks_14 ?_
        refine cd_X5_51 rfl (s_isPlace hM ha hs) hM.1 dX5_lacks_16 rfl rfl ?_
        refine j_bif_eq (tgt := 189) dX5_lacks_19 (by decide) (fun c19 => ?_) (fun c19 => ?_)
        · refine j_iincN4 dX5_lacks_189 (by decide) trivial ?_
          refine j_goto (tgt := 5) dX5_lacks_192 (by decide) ?_
          first | exact hw (lkS_1 c19) | exact hw (lkS_2 c19 c29) | exact hw (lkS_3 c19 c29 c59) | exact hw (lkS_a c19 c29 c59 (lkP_n hn2) (by decide))
        · refine j_aload0 dX5_lacks_22 ?_
          refine j_iload1 dX5_lacks_23 ?_
          refine j_iload4 dX5_lacks_24 ?_
          refine cd_X5_54 rfl (s_isStopped hM ha hs) hM.1 dX5_lacks_26 rfl rfl ?_
          refine j_bif_eq (tgt := 35) dX5_lacks_29 (by decide) (fun c29 => ?_) (fun c29 => ?_)
          · refine j_aload0 dX5_lacks_35 ?_
            refine j_iload1 dX5_lacks_36 ?_
            refine j_iconst (v := nI 1) dX5_lacks_37 (by decide) ?_
            refine cd_X5_41 rfl (s_get hM ha (by first | decide | exact ix_lt hs (by decide) | omega)) hM.1 dX5_lacks_38 rfl rfl ?_
            refine j_aload0 dX5_lacks_41 ?_
            refine j_iload1 dX5_lacks_42 ?_
            refine j_iload4 dX5_lacks_43 ?_
            refine j_bipush (v := nI 13) dX5_lacks_45 (by decide) ?_
            refine cd_X5_37 rfl (s_at) dX5_lacks_47 rfl rfl ?_
            refine cd_X5_41 rfl (s_get hM ha (by first | decide | exact ix_lt hs (by decide) | omega)) hM.1 dX5_lacks_50 rfl rfl ?_
            refine j_lsub dX5_lacks_53 ?_
            refine j_lstore5 dX5_lacks_54 (by decide) trivial ?_
            refine j_lload5 dX5_lacks_56 ?_
            refine j_lconst (v := 0) dX5_lacks_58 (by decide) ?_
            refine j_lcmp_ne (tgt := 66) dX5_lacks_59 dX5_lacks_60 (by decide) (fun c59 => ?_) (fun c59 => ?_)
            · refine j_aload0 dX5_lacks_66 ?_
              refine j_iload1 dX5_lacks_67 ?_
              refine j_iload4 dX5_lacks_68 ?_
              refine j_bipush (v := nI 12) dX5_lacks_70 (by decide) ?_
              refine cd_X5_37 rfl (s_at) dX5_lacks_72 rfl rfl ?_
              refine j_lconst (v := 0) dX5_lacks_75 (by decide) ?_
              refine cd_X5_62 rfl (s_set hM ha (by first | decide | exact ix_lt hs (by decide) | omega)) hM.1 dX5_lacks_76 rfl rfl ?_
              refine j_aload0 dX5_lacks_79 ?_
              refine j_iload1 dX5_lacks_80 ?_
              refine j_iload4 dX5_lacks_81 ?_
              refine j_iconst (v := nI 2) dX5_lacks_83 (by decide) ?_
              refine cd_X5_37 rfl (s_at) dX5_lacks_84 rfl rfl ?_
              refine cd_X5_41 rfl (s_get hM ha (by first | decide | exact ix_lt hs (by decide) | omega)) hM.1 dX5_lacks_87 rfl rfl ?_
              rw [hn2]
              refine j_l2i dX5_lacks_90 ?_
              refine j_istore7 dX5_lacks_91 (by decide) trivial ?_
              rw [m1_i]
              refine j_iload7 dX5_lacks_93 ?_
              refine j_iconst (v := (-1)) dX5_lacks_95 (by decide) ?_
              refine j_icmp_eq (tgt := 109) dX5_lacks_96 (by decide) (fun c96 => ?_) (fun c96 => by exact absurd rfl c96)
              refine j_lconst (v := 0) dX5_lacks_109 (by decide) ?_
              refine j_goto (tgt := 130) dX5_lacks_110 (by decide) ?_
              refine j_lstore8 dX5_lacks_130 (by decide) trivial ?_
              refine j_lload8 dX5_lacks_132 ?_
              refine j_lconst (v := 0) dX5_lacks_134 (by decide) ?_
              refine j_lcmp_le (tgt := 154) dX5_lacks_135 dX5_lacks_136 (by decide) (fun c135 => ?_) (fun c135 => by exact absurd (Int64.le_refl 0) c135)
              refine j_aload0 dX5_lacks_154 ?_
              refine j_iload1 dX5_lacks_155 ?_
              refine j_iload4 dX5_lacks_156 ?_
              refine j_bipush (v := nI 6) dX5_lacks_158 (by decide) ?_
              refine cd_X5_37 rfl (s_at) dX5_lacks_160 rfl rfl ?_
              refine j_lload8 dX5_lacks_163 ?_
              refine cd_X5_76 rfl (s_more hM ha (by first | decide | exact ix_lt hs (by decide) | omega)) hM.1 dX5_lacks_165 rfl rfl ?_
              refine j_aload0 dX5_lacks_168 ?_
              refine j_iload1 dX5_lacks_169 ?_
              refine j_iload4 dX5_lacks_170 ?_
              refine j_iconst (v := nI 5) dX5_lacks_172 (by decide) ?_
              refine cd_X5_37 rfl (s_at) dX5_lacks_173 rfl rfl ?_
              refine j_lload5 dX5_lacks_176 ?_
              refine j_lload8 dX5_lacks_178 ?_
              refine j_lsub dX5_lacks_180 ?_
              refine cd_X5_76 rfl (s_more hM ha (by first | decide | exact ix_lt hs (by decide) | omega)) hM.1 dX5_lacks_181 rfl rfl ?_
              refine j_lload2 dX5_lacks_184 ?_
              refine j_lload8 dX5_lacks_185 ?_
              refine j_ladd dX5_lacks_187 ?_
              refine j_lstore2 dX5_lacks_188 (by decide) trivial ?_
              refine j_iincN4 dX5_lacks_189 (by decide) trivial ?_
              refine j_goto (tgt := 5) dX5_lacks_192 (by decide) ?_
              first | exact hw (lkS_1 c19) | exact hw (lkS_2 c19 c29) | exact hw (lkS_3 c19 c29 c59) | exact hw (lkS_a c19 c29 c59 (lkP_n hn2) (by decide))
            · refine j_goto (tgt := 189) dX5_lacks_63 (by decide) ?_
              refine j_iincN4 dX5_lacks_189 (by decide) trivial ?_
              refine j_goto (tgt := 5) dX5_lacks_192 (by decide) ?_
              first | exact hw (lkS_1 c19) | exact hw (lkS_2 c19 c29) | exact hw (lkS_3 c19 c29 c59) | exact hw (lkS_a c19 c29 c59 (lkP_n hn2) (by decide))
          · refine j_goto (tgt := 189) dX5_lacks_32 (by decide) ?_
            refine j_iincN4 dX5_lacks_189 (by decide) trivial ?_
            refine j_goto (tgt := 5) dX5_lacks_192 (by decide) ?_
            first | exact hw (lkS_1 c19) | exact hw (lkS_2 c19 c29) | exact hw (lkS_3 c19 c29 c59) | exact hw (lkS_a c19 c29 c59 (lkP_n hn2) (by decide))
      · rw [hqe] at hu
        rw [hu] at hn2
        have hqn : (upF k (ix s 12) 0 (ix s 2)).toInt.toNat = q := by rw [hn2, lN_nat (by omega)]
        have hpm : isSt (upF k (ix s 12) 0) q = false → lkPut (upF k (ix s 12) 0) s = if k 1 - k (ix s 13) ≤ upF k (ix s 12) 0 (ix q 7) then k 1 - k (ix s 13) else upF k (ix s 12) 0 (ix q 7) := fun h2 => by rw [lkP_m hq hn2 h2, hg1, hg3]
        refine j_iload4 dX5_lacks_5 ?_
        refine j_bipush (v := nI 60) dX5_lacks_7 (by decide) ?_
        refine j_icmpN_ge (tgt := 195) (by first | decide | omega) (by first | decide | omega) dX5_lacks_9 (by decide) (fun c9 => by omega) (fun c9 => ?_)
        refine j_aload0 dX5_lacks_12 ?_
        refine j_iload1 dX5_lacks_13 ?_
        refine j_iload4 dX5_lacks_14 ?_
        refine cd_X5_51 rfl (s_isPlace hM ha hs) hM.1 dX5_lacks_16 rfl rfl ?_
        refine j_bif_eq (tgt := 189) dX5_lacks_19 (by decide) (fun c19 => ?_) (fun c19 => ?_)
        · refine j_iincN4 dX5_lacks_189 (by decide) trivial ?_
          refine j_goto (tgt := 5) dX5_lacks_192 (by decide) ?_
          first | exact hw (lkS_1 c19) | exact hw (lkS_2 c19 c29) | exact hw (lkS_3 c19 c29 c59) | exact hw (lkS_a c19 c29 c59 (lkP_s hq hn2 c106) (by decide)) | exact absurd (Int64.le_refl 0) c135 | exact hw (lkS_a c19 c29 c59 (hpm c106) (Int64.not_lt.mpr c135)) | exact hw (lkS_b c19 c29 c59 (hpm c106) (Int64.not_le.mp c135) hqn)
        · refine j_aload0 dX5_lacks_22 ?_
          refine j_iload1 dX5_lacks_23 ?_
          refine j_iload4 dX5_lacks_24 ?_
          refine cd_X5_54 rfl (s_isStopped hM ha hs) hM.1 dX5_lacks_26 rfl rfl ?_
          refine j_bif_eq (tgt := 35) dX5_lacks_29 (by decide) (fun c29 => ?_) (fun c29 => ?_)
          · refine j_aload0 dX5_lacks_35 ?_
            refine j_iload1 dX5_lacks_36 ?_
            refine j_iconst (v := nI 1) dX5_lacks_37 (by decide) ?_
            refine cd_X5_41 rfl (s_get hM ha (by first | decide | exact ix_lt hs (by decide) | omega)) hM.1 dX5_lacks_38 rfl rfl ?_
            refine j_aload0 dX5_lacks_41 ?_
            refine j_iload1 dX5_lacks_42 ?_
            refine j_iload4 dX5_lacks_43 ?_
            refine j_bipush (v := nI 13) dX5_lacks_45 (by decide) ?_
            refine cd_X5_37 rfl (s_at) dX5_lacks_47 rfl rfl ?_
            refine cd_X5_41 rfl (s_get hM ha (by first | decide | exact ix_lt hs (by decide) | omega)) hM.1 dX5_lacks_50 rfl rfl ?_
            refine j_lsub dX5_lacks_53 ?_
            refine j_lstore5 dX5_lacks_54 (by decide) trivial ?_
            refine j_lload5 dX5_lacks_56 ?_
            refine j_lconst (v := 0) dX5_lacks_58 (by decide) ?_
            refine j_lcmp_ne (tgt := 66) dX5_lacks_59 dX5_lacks_60 (by decide) (fun c59 => ?_) (fun c59 => ?_)
            · refine j_aload0 dX5_lacks_66 ?_
              refine j_iload1 dX5_lacks_67 ?_
              refine j_iload4 dX5_lacks_68 ?_
              refine j_bipush (v := nI 12) dX5_lacks_70 (by decide) ?_
              refine cd_X5_37 rfl (s_at) dX5_lacks_72 rfl rfl ?_
              refine j_lconst (v := 0) dX5_lacks_75 (by decide) ?_
              refine cd_X5_62 rfl (s_set hM ha (by first | decide | exact ix_lt hs (by decide) | omega)) hM.1 dX5_lacks_76 rfl rfl ?_
              refine j_aload0 dX5_lacks_79 ?_
              refine j_iload1 dX5_lacks_80 ?_
              refine j_iload4 dX5_lacks_81 ?_
              refine j_iconst (v := nI 2) dX5_lacks_83 (by decide) ?_
              refine cd_X5_37 rfl (s_at) dX5_lacks_84 rfl rfl ?_
              refine cd_X5_41 rfl (s_get hM ha (by first | decide | exact ix_lt hs (by decide) | omega)) hM.1 dX5_lacks_87 rfl rfl ?_
              rw [hn2]
              refine j_l2iN dX5_lacks_90 ?_
              refine j_istore7 dX5_lacks_91 (by decide) trivial ?_
              refine j_iload7 dX5_lacks_93 ?_
              refine j_iconst (v := (-1)) dX5_lacks_95 (by decide) ?_
              refine j_icmp_eq (tgt := 109) dX5_lacks_96 (by decide) (fun c96 => by exact absurd c96 (nI_ne hq)) (fun c96 => ?_)
              refine j_aload0 dX5_lacks_99 ?_
              refine j_iload1 dX5_lacks_100 ?_
              refine j_iload7 dX5_lacks_101 ?_
              refine cd_X5_54 rfl (s_isStopped hM ha hq) hM.1 dX5_lacks_103 rfl rfl ?_
              refine j_bif_eq (tgt := 113) dX5_lacks_106 (by decide) (fun c106 => ?_) (fun c106 => ?_)
              · refine j_lload5 dX5_lacks_113 ?_
                refine j_aload0 dX5_lacks_115 ?_
                refine j_iload1 dX5_lacks_116 ?_
                refine j_iload7 dX5_lacks_117 ?_
                refine j_bipush (v := nI 7) dX5_lacks_119 (by decide) ?_
                refine cd_X5_37 rfl (s_at) dX5_lacks_121 rfl rfl ?_
                refine cd_X5_41 rfl (s_get hM ha (ix_lt hq (by decide))) hM.1 dX5_lacks_124 rfl rfl ?_
                refine cd_X5_108 rfl (s_min _ _) dX5_lacks_127 rfl rfl ?_
                refine j_lstore8 dX5_lacks_130 (by decide) trivial ?_
                refine j_lload8 dX5_lacks_132 ?_
                refine j_lconst (v := 0) dX5_lacks_134 (by decide) ?_
                refine j_lcmp_le (tgt := 154) dX5_lacks_135 dX5_lacks_136 (by decide) (fun c135 => ?_) (fun c135 => ?_)
                · refine j_aload0 dX5_lacks_154 ?_
                  refine j_iload1 dX5_lacks_155 ?_
                  refine j_iload4 dX5_lacks_156 ?_
                  refine j_bipush (v := nI 6) dX5_lacks_158 (by decide) ?_
                  refine cd_X5_37 rfl (s_at) dX5_lacks_160 rfl rfl ?_
                  refine j_lload8 dX5_lacks_163 ?_
                  refine cd_X5_76 rfl (s_more hM ha (by first | decide | exact ix_lt hs (by decide) | omega)) hM.1 dX5_lacks_165 rfl rfl ?_
                  refine j_aload0 dX5_lacks_168 ?_
                  refine j_iload1 dX5_lacks_169 ?_
                  refine j_iload4 dX5_lacks_170 ?_
                  refine j_iconst (v := nI 5) dX5_lacks_172 (by decide) ?_
                  refine cd_X5_37 rfl (s_at) dX5_lacks_173 rfl rfl ?_
                  refine j_lload5 dX5_lacks_176 ?_
                  refine j_lload8 dX5_lacks_178 ?_
                  refine j_lsub dX5_lacks_180 ?_
                  refine cd_X5_76 rfl (s_more hM ha (by first | decide | exact ix_lt hs (by decide) | omega)) hM.1 dX5_lacks_181 rfl rfl ?_
                  refine j_lload2 dX5_lacks_184 ?_
                  refine j_lload8 dX5_lacks_185 ?_
                  refine j_ladd dX5_lacks_187 ?_
                  refine j_lstore2 dX5_lacks_188 (by decide) trivial ?_
                  refine j_iincN4 dX5_lacks_189 (by decide) trivial ?_
                  refine j_goto (tgt := 5) dX5_lacks_192 (by decide) ?_
                  first | exact hw (lkS_1 c19) | exact hw (lkS_2 c19 c29) | exact hw (lkS_3 c19 c29 c59) | exact hw (lkS_a c19 c29 c59 (lkP_s hq hn2 c106) (by decide)) | exact absurd (Int64.le_refl 0) c135 | exact hw (lkS_a c19 c29 c59 (hpm c106) (Int64.not_lt.mpr c135)) | exact hw (lkS_b c19 c29 c59 (hpm c106) (Int64.not_le.mp c135) hqn)
                · refine j_aload0 dX5_lacks_139 ?_
                  refine j_iload1 dX5_lacks_140 ?_
                  refine j_iload7 dX5_lacks_141 ?_
                  refine j_bipush (v := nI 7) dX5_lacks_143 (by decide) ?_
                  refine cd_X5_37 rfl (s_at) dX5_lacks_145 rfl rfl ?_
                  refine j_lload8 dX5_lacks_148 ?_
                  refine j_lneg dX5_lacks_150 ?_
                  refine cd_X5_76 rfl (s_more hM ha (ix_lt hq (by decide))) hM.1 dX5_lacks_151 rfl rfl ?_
                  refine j_aload0 dX5_lacks_154 ?_
                  refine j_iload1 dX5_lacks_155 ?_
                  refine j_iload4 dX5_lacks_156 ?_
                  refine j_bipush (v := nI 6) dX5_lacks_158 (by decide) ?_
                  refine cd_X5_37 rfl (s_at) dX5_lacks_160 rfl rfl ?_
                  refine j_lload8 dX5_lacks_163 ?_
                  refine cd_X5_76 rfl (s_more hM ha (by first | decide | exact ix_lt hs (by decide) | omega)) hM.1 dX5_lacks_165 rfl rfl ?_
                  refine j_aload0 dX5_lacks_168 ?_
                  refine j_iload1 dX5_lacks_169 ?_
                  refine j_iload4 dX5_lacks_170 ?_
                  refine j_iconst (v := nI 5) dX5_lacks_172 (by decide) ?_
                  refine cd_X5_37 rfl (s_at) dX5_lacks_173 rfl rfl ?_
                  refine j_lload5 dX5_lacks_176 ?_
                  refine j_lload8 dX5_lacks_178 ?_
                  refine j_lsub dX5_lacks_180 ?_
                  refine cd_X5_76 rfl (s_more hM ha (by first | decide | exact ix_lt hs (by decide) | omega)) hM.1 dX5_lacks_181 rfl rfl ?_
                  refine j_lload2 dX5_lacks_184 ?_
                  refine j_lload8 dX5_lacks_185 ?_
                  refine j_ladd dX5_lacks_187 ?_
                  refine j_lstore2 dX5_lacks_188 (by decide) trivial ?_
                  refine j_iincN4 dX5_lacks_189 (by decide) trivial ?_
                  refine j_goto (tgt := 5) dX5_lacks_192 (by decide) ?_
                  first | exact hw (lkS_1 c19) | exact hw (lkS_2 c19 c29) | exact hw (lkS_3 c19 c29 c59) | exact hw (lkS_a c19 c29 c59 (lkP_s hq hn2 c106) (by decide)) | exact absurd (Int64.le_refl 0) c135 | exact hw (lkS_a c19 c29 c59 (hpm c106) (Int64.not_lt.mpr c135)) | exact hw (lkS_b c19 c29 c59 (hpm c106) (Int64.not_le.mp c135) hqn)
              · refine j_lconst (v := 0) dX5_lacks_109 (by decide) ?_
                refine j_goto (tgt := 130) dX5_lacks_110 (by decide) ?_
                refine j_lstore8 dX5_lacks_130 (by decide) trivial ?_
                refine j_lload8 dX5_lacks_132 ?_
                refine j_lconst (v := 0) dX5_lacks_134 (by decide) ?_
                refine j_lcmp_le (tgt := 154) dX5_lacks_135 dX5_lacks_136 (by decide) (fun c135 => ?_) (fun c135 => ?_)
                · refine j_aload0 dX5_lacks_154 ?_
                  refine j_iload1 dX5_lacks_155 ?_
                  refine j_iload4 dX5_lacks_156 ?_
                  refine j_bipush (v := nI 6) dX5_lacks_158 (by decide) ?_
                  refine cd_X5_37 rfl (s_at) dX5_lacks_160 rfl rfl ?_
                  refine j_lload8 dX5_lacks_163 ?_
                  refine cd_X5_76 rfl (s_more hM ha (by first | decide | exact ix_lt hs (by decide) | omega)) hM.1 dX5_lacks_165 rfl rfl ?_
                  refine j_aload0 dX5_lacks_168 ?_
                  refine j_iload1 dX5_lacks_169 ?_
                  refine j_iload4 dX5_lacks_170 ?_
                  refine j_iconst (v := nI 5) dX5_lacks_172 (by decide) ?_
                  refine cd_X5_37 rfl (s_at) dX5_lacks_173 rfl rfl ?_
                  refine j_lload5 dX5_lacks_176 ?_
                  refine j_lload8 dX5_lacks_178 ?_
                  refine j_lsub dX5_lacks_180 ?_
                  refine cd_X5_76 rfl (s_more hM ha (by first | decide | exact ix_lt hs (by decide) | omega)) hM.1 dX5_lacks_181 rfl rfl ?_
                  refine j_lload2 dX5_lacks_184 ?_
                  refine j_lload8 dX5_lacks_185 ?_
                  refine j_ladd dX5_lacks_187 ?_
                  refine j_lstore2 dX5_lacks_188 (by decide) trivial ?_
                  refine j_iincN4 dX5_lacks_189 (by decide) trivial ?_
                  refine j_goto (tgt := 5) dX5_lacks_192 (by decide) ?_
                  first | exact hw (lkS_1 c19) | exact hw (lkS_2 c19 c29) | exact hw (lkS_3 c19 c29 c59) | exact hw (lkS_a c19 c29 c59 (lkP_s hq hn2 c106) (by decide)) | exact absurd (Int64.le_refl 0) c135 | exact hw (lkS_a c19 c29 c59 (hpm c106) (Int64.not_lt.mpr c135)) | exact hw (lkS_b c19 c29 c59 (hpm c106) (Int64.not_le.mp c135) hqn)
                · refine j_aload0 dX5_lacks_139 ?_
                  refine j_iload1 dX5_lacks_140 ?_
                  refine j_iload7 dX5_lacks_141 ?_
                  refine j_bipush (v := nI 7) dX5_lacks_143 (by decide) ?_
                  refine cd_X5_37 rfl (s_at) dX5_lacks_145 rfl rfl ?_
                  refine j_lload8 dX5_lacks_148 ?_
                  refine j_lneg dX5_lacks_150 ?_
                  refine cd_X5_76 rfl (s_more hM ha (ix_lt hq (by decide))) hM.1 dX5_lacks_151 rfl rfl ?_
                  refine j_aload0 dX5_lacks_154 ?_
                  refine j_iload1 dX5_lacks_155 ?_
                  refine j_iload4 dX5_lacks_156 ?_
                  refine j_bipush (v := nI 6) dX5_lacks_158 (by decide) ?_
                  refine cd_X5_37 rfl (s_at) dX5_lacks_160 rfl rfl ?_
                  refine j_lload8 dX5_lacks_163 ?_
                  refine cd_X5_76 rfl (s_more hM ha (by first | decide | exact ix_lt hs (by decide) | omega)) hM.1 dX5_lacks_165 rfl rfl ?_
                  refine j_aload0 dX5_lacks_168 ?_
                  refine j_iload1 dX5_lacks_169 ?_
                  refine j_iload4 dX5_lacks_170 ?_
                  refine j_iconst (v := nI 5) dX5_lacks_172 (by decide) ?_
                  refine cd_X5_37 rfl (s_at) dX5_lacks_173 rfl rfl ?_
                  refine j_lload5 dX5_lacks_176 ?_
                  refine j_lload8 dX5_lacks_178 ?_
                  refine j_lsub dX5_lacks_180 ?_
                  refine cd_X5_76 rfl (s_more hM ha (by first | decide | exact ix_lt hs (by decide) | omega)) hM.1 dX5_lacks_181 rfl rfl ?_
                  refine j_lload2 dX5_lacks_184 ?_
                  refine j_lload8 dX5_lacks_185 ?_
                  refine j_ladd dX5_lacks_187 ?_
                  refine j_lstore2 dX5_lacks_188 (by decide) trivial ?_
                  refine j_iincN4 dX5_lacks_189 (by decide) trivial ?_
                  refine j_goto (tgt := 5) dX5_lacks_192 (by decide) ?_
                  first | exact hw (lkS_1 c19) | exact hw (lkS_2 c19 c29) | exact hw (lkS_3 c19 c29 c59) | exact hw (lkS_a c19 c29 c59 (lkP_s hq hn2 c106) (by decide)) | exact absurd (Int64.le_refl 0) c135 | exact hw (lkS_a c19 c29 c59 (hpm c106) (Int64.not_lt.mpr c135)) | exact hw (lkS_b c19 c29 c59 (hpm c106) (Int64.not_le.mp c135) hqn)
            · refine j_goto (tgt := 189) dX5_lacks_63 (by decide) ?_
              refine j_iincN4 dX5_lacks_189 (by decide) trivial ?_
              refine j_goto (tgt := 5) dX5_lacks_192 (by decide) ?_
              first | exact hw (lkS_1 c19) | exact hw (lkS_2 c19 c29) | exact hw (lkS_3 c19 c29 c59) | exact hw (lkS_a c19 c29 c59 (lkP_s hq hn2 c106) (by decide)) | exact absurd (Int64.le_refl 0) c135 | exact hw (lkS_a c19 c29 c59 (hpm c106) (Int64.not_lt.mpr c135)) | exact hw (lkS_b c19 c29 c59 (hpm c106) (Int64.not_le.mp c135) hqn)
          · refine j_goto (tgt := 189) dX5_lacks_32 (by decide) ?_
            refine j_iincN4 dX5_lacks_189 (by decide) trivial ?_
            refine j_goto (tgt := 5) dX5_lacks_192 (by decide) ?_
            first | exact hw (lkS_1 c19) | exact hw (lkS_2 c19 c29) | exact hw (lkS_3 c19 c29 c59) | exact hw (lkS_a c19 c29 c59 (lkP_s hq hn2 c106) (by decide)) | exact absurd (Int64.le_refl 0) c135 | exact hw (lkS_a c19 c29 c59 (hpm c106) (Int64.not_lt.mpr c135)) | exact hw (lkS_b c19 c29 c59 (hpm c106) (Int64.not_le.mp c135) hqn)
  refine j_lconst (v := 0) dX5_lacks_0 (by decide) ?_
  refine j_lstore2 dX5_lacks_1 (by decide) trivial ?_
  refine j_iconst (v := nI 0) dX5_lacks_2 (by decide) ?_
  refine j_istore4 dX5_lacks_3 (by decide) trivial ?_
  exact L1
end

