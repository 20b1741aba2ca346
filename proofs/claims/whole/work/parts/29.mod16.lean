/-! the reference: a new ring, an image, check -/
theorem mh_cong {h : Hp} {M a : Nat} {f g : Fl} (hf : ∀ b, b < 1393 → f b = g b) : mh h M a f = mh h M a g := by
  unfold mh
  congr 2
  funext x y
  by_cases h2 : x = M + 1 ∧ 1393 * a ≤ y ∧ y < 1393 * a + 1393
  · rw [if_pos h2, if_pos h2]
    exact hf _ (by omega)
  · rw [if_neg h2, if_neg h2]
/-- the first n numbers come from g -/
def cpN (g f : Fl) (n : Nat) : Fl := fun x => if x < n then g x else f x
theorem cpN_0 (g f : Fl) : cpN g f 0 = f := by funext x; exact if_neg (Nat.not_lt_zero x)
theorem cpN_s (g f : Fl) (n : Nat) : upF (cpN g f n) n (g n) = cpN g f (n + 1) := by
  funext x
  unfold upF cpN
  by_cases hx : x = n
  · subst hx
    rw [if_pos rfl, if_pos (by omega)]
  · rw [if_neg hx]
    by_cases h2 : x < n
    · rw [if_pos h2, if_pos (by omega)]
    · rw [if_neg h2, if_neg (by omega)]
theorem cpN_all {h : Hp} {M a : Nat} {g f : Fl} : mh h M a (cpN g f 1393) = mh h M a g := mh_cong (fun b hb => if_pos hb)
def suS (n : Nat) (f : Fl) : Fl := upF f (ix n 2) (-1)
theorem suL (f : Fl) : ∀ n x, itr suS n f x = if 13 ≤ x ∧ x < 13 + 17 * n ∧ (x - 13) % 17 = 2 then -1 else f x
  | 0, x => by rw [if_neg (by omega)]; rfl
  | n + 1, x => by
    show upF (itr suS n f) (ix n 2) (-1) x = _
    unfold upF
    by_cases hx : x = ix n 2
    · rw [if_pos hx, if_pos (by unfold ix at hx; omega)]
    · rw [if_neg hx, suL f n x]
      by_cases h2 : 13 ≤ x ∧ x < 13 + 17 * n ∧ (x - 13) % 17 = 2
      · rw [if_pos h2, if_pos (by omega)]
      · rw [if_neg h2, if_neg (by unfold ix at hx; omega)]
def rgOK (kind payment fine chest : Int32) : Prop := ¬ kind < 0 ∧ kind ≤ 3 ∧ 1 ≤ payment ∧ payment ≤ 9999999 ∧ ¬ fine < 0 ∧ fine ≤ 9999999 ∧ ¬ chest < 0 ∧ chest ≤ 2000000000
def rg0 (ki pa fi ch : Int32) : Fl := upF (upF (upF (upF (upF (upF (fun _ => 0) 0 ki.toInt64) 1 pa.toInt64) 2 fi.toInt64) 3 ch.toInt64) 7 (-1)) 9 (-1)
theorem newF_eq {ki pa fi ch : Int32} {N b : Nat} (hN : N = 60) : itr suS N (rg0 ki pa fi ch) b = newF ki pa fi ch b := by
  rw [suL, hN]
  unfold newF
  by_cases hb2 : 13 ≤ b ∧ b < 1033 ∧ (b - 13) % 17 = 2
  · rw [if_pos (by omega), if_neg (by omega), if_neg (by omega), if_neg (by omega), if_neg (by omega), if_neg (by omega), if_neg (by omega), if_pos hb2]
  · rw [if_neg (by omega), if_neg hb2]
    unfold rg0 upF
    by_cases q9 : b = 9
    · simp [q9]
    · by_cases q7 : b = 7
      · simp [q7]
      · by_cases q3 : b = 3
        · simp [q3]
        · by_cases q2 : b = 2
          · simp [q2]
          · by_cases q1 : b = 1
            · simp [q1]
            · by_cases q0 : b = 0
              · simp [q0]
              · simp [q9, q7, q3, q2, q1, q0]
section
variable {cx : Cx} {h : Hp} {M a : Nat} {f : Fl}
theorem ring_157 {ki pa fi ch : Int32} {n N : Nat} {G : Fl} {Q : Option Value → Hp → Prop} (hM : MSh h.1 M) (ha : n < 40) (hN : N = 60) (hQ : ∀ v h', v = some (.int (nI n)) → h' = mh h M n (itr suS N G) → Q v h') : J cx mX5_ring (Rm 1 0 0) (mh h M n G) 157 [some (.ref M), some (.int ki), some (.int pa), some (.int fi), some (.int ch), some (.int (nI n)), some (.int (nI 0))] [] 0 0 Q := by
  refine dn (P := fun i => J cx mX5_ring (Rm 1 0 0) (mh h M n (itr suS i G)) 157 [some (.ref M), some (.int ki), some (.int pa), some (.int fi), some (.int ch), some (.int (nI n)), some (.int (nI i))] [] 0 0 Q) N ?_ ?_
  · refine j_iload6 (pc := 157) dX5_ring_157 ?_
    refine j_bipush (pc := 159) (v := nI 60) dX5_ring_159 (by decide) ?_
    refine j_icmpN_ge (pc := 161) (tgt := 185) (by first | decide | omega) (by first | decide | omega) dX5_ring_161 (by decide) (fun c161 => ?_) (fun c161 => by omega)
    refine j_iload5 (pc := 185) dX5_ring_185 ?_
    refine j_iret (pc := 187) dX5_ring_187 rfl rfl ?_
    exact hQ _ _ rfl rfl
  · intro s hs ih
    have hs : s < 60 := by omega
    refine j_iload6 (pc := 157) dX5_ring_157 ?_
    refine j_bipush (pc := 159) (v := nI 60) dX5_ring_159 (by decide) ?_
    refine j_icmpN_ge (pc := 161) (tgt := 185) (by first | decide | omega) (by first | decide | omega) dX5_ring_161 (by decide) (fun c161 => by omega) (fun c161 => ?_)
    refine j_aload0 (pc := 164) dX5_ring_164 ?_
    refine j_iload5 (pc := 165) dX5_ring_165 ?_
    refine j_iload6 (pc := 167) dX5_ring_167 ?_
    refine j_iconst (pc := 169) (v := nI 2) dX5_ring_169 (by decide) ?_
    refine cd_X5_37 (pc := 170) rfl (s_at) dX5_ring_170 rfl rfl ?_
    refine j_ldc2 (pc := 173) dX5_ring_173 wT_kl_X5_66 ?_
    refine cd_X5_62 (pc := 176) rfl (s_set hM ha (by first | decide | exact ix_lt hs (by decide) | omega)) hM.1 dX5_ring_176 rfl rfl ?_
    refine j_iincN6 (pc := 179) dX5_ring_179 (by decide) trivial ?_
    refine j_goto (pc := 182) (tgt := 157) dX5_ring_182 (by decide) ?_
    exact ih
theorem ring_95 {ki pa fi ch : Int32} {n : Nat} {Q : Option Value → Hp → Prop} (hM : MSh h.1 M) (ha : n < 40) (hQ : ∀ v h', v = some (.int (nI n)) → h' = mh h M n (newF ki pa fi ch) → Q v h') : J cx mX5_ring (Rm 1 0 0) (mh h M n (fun _ => 0)) 95 [some (.ref M), some (.int ki), some (.int pa), some (.int fi), some (.int ch), some (.int (nI n)), none] [] 0 0 Q := by
  have L := ring_157 (cx := cx) (ki := ki) (pa := pa) (fi := fi) (ch := ch) (N := 60) (G := rg0 ki pa fi ch) (Q := Q) hM ha rfl (fun v h' hv hh => hQ v h' hv (hh.trans (mh_cong (fun b _ => newF_eq rfl))))
  unfold rg0 at L
  refine j_aload0 (pc := 95) dX5_ring_95 ?_
  refine j_iload5 (pc := 96) dX5_ring_96 ?_
  refine j_iconst (pc := 98) (v := nI 0) dX5_ring_98 (by decide) ?_
  refine j_iload1 (pc := 99) dX5_ring_99 ?_
  refine j_i2l (pc := 100) dX5_ring_100 ?_
  refine cd_X5_62 (pc := 101) rfl (s_set hM ha (by first | decide | exact ix_lt hs (by decide) | omega)) hM.1 dX5_ring_101 rfl rfl ?_
  refine j_aload0 (pc := 104) dX5_ring_104 ?_
  refine j_iload5 (pc := 105) dX5_ring_105 ?_
  refine j_iconst (pc := 107) (v := nI 1) dX5_ring_107 (by decide) ?_
  refine j_iload2 (pc := 108) dX5_ring_108 ?_
  refine j_i2l (pc := 109) dX5_ring_109 ?_
  refine cd_X5_62 (pc := 110) rfl (s_set hM ha (by first | decide | exact ix_lt hs (by decide) | omega)) hM.1 dX5_ring_110 rfl rfl ?_
  refine j_aload0 (pc := 113) dX5_ring_113 ?_
  refine j_iload5 (pc := 114) dX5_ring_114 ?_
  refine j_iconst (pc := 116) (v := nI 2) dX5_ring_116 (by decide) ?_
  refine j_iload3 (pc := 117) dX5_ring_117 ?_
  refine j_i2l (pc := 118) dX5_ring_118 ?_
  refine cd_X5_62 (pc := 119) rfl (s_set hM ha (by first | decide | exact ix_lt hs (by decide) | omega)) hM.1 dX5_ring_119 rfl rfl ?_
  refine j_aload0 (pc := 122) dX5_ring_122 ?_
  refine j_iload5 (pc := 123) dX5_ring_123 ?_
  refine j_iconst (pc := 125) (v := nI 3) dX5_ring_125 (by decide) ?_
  refine j_iload4 (pc := 126) dX5_ring_126 ?_
  refine j_i2l (pc := 128) dX5_ring_128 ?_
  refine cd_X5_62 (pc := 129) rfl (s_set hM ha (by first | decide | exact ix_lt hs (by decide) | omega)) hM.1 dX5_ring_129 rfl rfl ?_
  refine j_aload0 (pc := 132) dX5_ring_132 ?_
  refine j_iload5 (pc := 133) dX5_ring_133 ?_
  refine j_bipush (pc := 135) (v := nI 7) dX5_ring_135 (by decide) ?_
  refine j_ldc2 (pc := 137) dX5_ring_137 wT_kl_X5_66 ?_
  refine cd_X5_62 (pc := 140) rfl (s_set hM ha (by first | decide | exact ix_lt hs (by decide) | omega)) hM.1 dX5_ring_140 rfl rfl ?_
  refine j_aload0 (pc := 143) dX5_ring_143 ?_
  refine j_iload5 (pc := 144) dX5_ring_144 ?_
  refine j_bipush (pc := 146) (v := nI 9) dX5_ring_146 (by decide) ?_
  refine j_ldc2 (pc := 148) dX5_ring_148 wT_kl_X5_66 ?_
  refine cd_X5_62 (pc := 151) rfl (s_set hM ha (by first | decide | exact ix_lt hs (by decide) | omega)) hM.1 dX5_ring_151 rfl rfl ?_
  refine j_iconst (pc := 154) (v := nI 0) dX5_ring_154 (by decide) ?_
  refine j_istore6 (pc := 155) dX5_ring_155 (by decide) trivial ?_
  exact L
theorem ring_72 {ki pa fi ch : Int32} {n N : Nat} {f0 : Fl} {Q : Option Value → Hp → Prop} (hM : MSh h.1 M) (ha : n < 40) (hN : N = 1393) (hQ : ∀ v h', v = some (.int (nI n)) → h' = mh h M n (newF ki pa fi ch) → Q v h') : J cx mX5_ring (Rm 1 0 0) (mh h M n f0) 72 [some (.ref M), some (.int ki), some (.int pa), some (.int fi), some (.int ch), some (.int (nI n)), some (.int (nI 0))] [] 0 0 Q := by
  have L := ring_95 (cx := cx) (ki := ki) (pa := pa) (fi := fi) (ch := ch) (Q := Q) hM ha hQ
  have hZ : mh h M n (fun _ => 0) = mh h M n (cpN (fun _ => 0) f0 N) := mh_cong (fun b hb => (if_pos (by omega)).symm)
  rw [hZ] at L
  rw [← cpN_0 (fun _ => 0) f0]
  refine dn (P := fun i => J cx mX5_ring (Rm 1 0 0) (mh h M n (cpN (fun _ => 0) f0 i)) 72 [some (.ref M), some (.int ki), some (.int pa), some (.int fi), some (.int ch), some (.int (nI n)), some (.int (nI i))] [] 0 0 Q) N ?_ ?_
  · refine j_iload6 (pc := 72) dX5_ring_72 ?_
    refine j_sipush (pc := 74) (v := nI 1393) dX5_ring_74 (by decide) ?_
    refine j_icmpN_ge (pc := 77) (tgt := 95) (by first | decide | omega) (by first | decide | omega) dX5_ring_77 (by decide) (fun c77 => ?_) (fun c77 => by omega)
    exact J.wk L (by simp [lcw])
  · intro i hi ih
    have e : mh h M n (upF (cpN (fun _ => 0) f0 i) i 0) = mh h M n (cpN (fun _ => 0) f0 (i + 1)) := congrArg (mh h M n) (cpN_s (fun _ => 0) f0 i)
    refine j_iload6 (pc := 72) dX5_ring_72 ?_
    refine j_sipush (pc := 74) (v := nI 1393) dX5_ring_74 (by decide) ?_
    refine j_icmpN_ge (pc := 77) (tgt := 95) (by first | decide | omega) (by first | decide | omega) dX5_ring_77 (by decide) (fun c77 => by omega) (fun c77 => ?_)
    refine j_aload0 (pc := 80) dX5_ring_80 ?_
    refine j_iload5 (pc := 81) dX5_ring_81 ?_
    refine j_iload6 (pc := 83) dX5_ring_83 ?_
    refine j_lconst (pc := 85) (v := 0) dX5_ring_85 (by decide) ?_
    refine cd_X5_62 (pc := 86) rfl (s_set hM ha (by first | decide | exact ix_lt hs (by decide) | omega)) hM.1 dX5_ring_86 rfl rfl ?_
    refine j_iincN6 (pc := 89) dX5_ring_89 (by decide) trivial ?_
    refine j_goto (pc := 92) (tgt := 72) dX5_ring_92 (by decide) ?_
    rw [e]; exact ih
theorem s_ring {ki pa fi ch : Int32} {n : Nat} (hM : MSh h.1 M) (hn : h.i M 1 = nI n) (hn4 : n ≤ 40) :
    Sp cx mX5_ring 1 0 0 h [.ref M, .int ki, .int pa, .int fi, .int ch] (Ri fun y g => (rgOK ki pa fi ch ∧ n < 40 ∧ y = nI n ∧ g = mh (h.setI M 1 (nI (n + 1))) M n (newF ki pa fi ch)) ∨ (¬ (rgOK ki pa fi ch ∧ n < 40) ∧ y = -1 ∧ g = h)) := by
  refine Sp.ofQ 2 (by decide) (Nat.le_of_ble_eq_true rfl) rfl (fun Q hQ => ?_)
  have hM2 : MSh (h.setI M 1 (nI (n + 1))).1 M := hM
  have L72 : rgOK ki pa fi ch → n < 40 → J cx mX5_ring (Rm 1 0 0) (h.setI M 1 (nI (n + 1))) 72 [some (.ref M), some (.int ki), some (.int pa), some (.int fi), some (.int ch), some (.int (nI n)), some (.int (nI 0))] [] 0 0 Q := by
    intro hok hlt
    have L := ring_72 (cx := cx) (ki := ki) (pa := pa) (fi := fi) (ch := ch) (n := n) (N := 1393) (f0 := fun b => (h.setI M 1 (nI (n + 1))).l (M + 1) (1393 * n + b)) (Q := Q) hM2 hlt rfl (fun v h' hv hh => hQ v h' ⟨_, hv, Or.inl ⟨hok, hlt, rfl, hh⟩⟩)
    rw [mh_self (fun _ _ => rfl)] at L
    exact L
  refine j_iload1 (pc := 0) dX5_ring_0 ?_
  refine j_if_lt (pc := 1) (tgt := 51) dX5_ring_1 (by decide) (fun c1 => ?_) (fun c1 => ?_)
  · refine j_iconst (v := (-1)) dX5_ring_51 (by decide) ?_
    refine j_iret dX5_ring_52 rfl rfl ?_
    exact hQ _ _ ⟨_, rfl, Or.inr ⟨fun z => by unfold rgOK at z; first | omega | (simp_all [← Int32.not_le]; done), rfl, rfl⟩⟩
  · refine j_iload1 (pc := 4) dX5_ring_4 ?_
    refine j_iconst (pc := 5) (v := 3) dX5_ring_5 (by decide) ?_
    refine j_icmp_gt (pc := 6) (tgt := 51) dX5_ring_6 (by decide) (fun c6 => ?_) (fun c6 => ?_)
    · refine j_iconst (v := (-1)) dX5_ring_51 (by decide) ?_
      refine j_iret dX5_ring_52 rfl rfl ?_
      exact hQ _ _ ⟨_, rfl, Or.inr ⟨fun z => by unfold rgOK at z; first | omega | (simp_all [← Int32.not_le]; done), rfl, rfl⟩⟩
    · refine j_iload2 (pc := 9) dX5_ring_9 ?_
      refine j_iconst (pc := 10) (v := 1) dX5_ring_10 (by decide) ?_
      refine j_icmp_lt (pc := 11) (tgt := 51) dX5_ring_11 (by decide) (fun c11 => ?_) (fun c11 => ?_)
      · refine j_iconst (v := (-1)) dX5_ring_51 (by decide) ?_
        refine j_iret dX5_ring_52 rfl rfl ?_
        exact hQ _ _ ⟨_, rfl, Or.inr ⟨fun z => by unfold rgOK at z; first | omega | (simp_all [← Int32.not_le]; done), rfl, rfl⟩⟩
      · refine j_iload2 (pc := 14) dX5_ring_14 ?_
        refine j_ldc (pc := 15) dX5_ring_15 wT_k_X5_60 ?_
        refine j_icmp_gt (pc := 17) (tgt := 51) dX5_ring_17 (by decide) (fun c17 => ?_) (fun c17 => ?_)
        · refine j_iconst (v := (-1)) dX5_ring_51 (by decide) ?_
          refine j_iret dX5_ring_52 rfl rfl ?_
          exact hQ _ _ ⟨_, rfl, Or.inr ⟨fun z => by unfold rgOK at z; first | omega | (simp_all [← Int32.not_le]; done), rfl, rfl⟩⟩
        · refine j_iload3 (pc := 20) dX5_ring_20 ?_
          refine j_if_lt (pc := 21) (tgt := 51) dX5_ring_21 (by decide) (fun c21 => ?_) (fun c21 => ?_)
          · refine j_iconst (v := (-1)) dX5_ring_51 (by decide) ?_
            refine j_iret dX5_ring_52 rfl rfl ?_
            exact hQ _ _ ⟨_, rfl, Or.inr ⟨fun z => by unfold rgOK at z; first | omega | (simp_all [← Int32.not_le]; done), rfl, rfl⟩⟩
          · refine j_iload3 (pc := 24) dX5_ring_24 ?_
            refine j_ldc (pc := 25) dX5_ring_25 wT_k_X5_60 ?_
            refine j_icmp_gt (pc := 27) (tgt := 51) dX5_ring_27 (by decide) (fun c27 => ?_) (fun c27 => ?_)
            · refine j_iconst (v := (-1)) dX5_ring_51 (by decide) ?_
              refine j_iret dX5_ring_52 rfl rfl ?_
              exact hQ _ _ ⟨_, rfl, Or.inr ⟨fun z => by unfold rgOK at z; first | omega | (simp_all [← Int32.not_le]; done), rfl, rfl⟩⟩
            · refine j_iload4 (pc := 30) dX5_ring_30 ?_
              refine j_if_lt (pc := 32) (tgt := 51) dX5_ring_32 (by decide) (fun c32 => ?_) (fun c32 => ?_)
              · refine j_iconst (v := (-1)) dX5_ring_51 (by decide) ?_
                refine j_iret dX5_ring_52 rfl rfl ?_
                exact hQ _ _ ⟨_, rfl, Or.inr ⟨fun z => by unfold rgOK at z; first | omega | (simp_all [← Int32.not_le]; done), rfl, rfl⟩⟩
              · refine j_iload4 (pc := 35) dX5_ring_35 ?_
                refine j_ldc (pc := 37) dX5_ring_37 wT_k_X5_61 ?_
                refine j_icmp_gt (pc := 39) (tgt := 51) dX5_ring_39 (by decide) (fun c39 => ?_) (fun c39 => ?_)
                · refine j_iconst (v := (-1)) dX5_ring_51 (by decide) ?_
                  refine j_iret dX5_ring_52 rfl rfl ?_
                  exact hQ _ _ ⟨_, rfl, Or.inr ⟨fun z => by unfold rgOK at z; first | omega | (simp_all [← Int32.not_le]; done), rfl, rfl⟩⟩
                · refine j_aload0 (pc := 42) dX5_ring_42 ?_
                  refine g_X5_29 (pc := 43) rfl hM.1 dX5_ring_43 ?_
                  rw [hn]
                  refine j_bipush (pc := 46) (v := nI 40) dX5_ring_46 (by decide) ?_
                  refine j_icmpN_ne (pc := 48) (tgt := 53) (by first | decide | omega) (by first | decide | omega) dX5_ring_48 (by decide) (fun c48 => ?_) (fun c48 => ?_)
                  · have hok : rgOK ki pa fi ch := ⟨c1, Int32.not_lt.mp c6, Int32.not_lt.mp c11, Int32.not_lt.mp c17, c21, Int32.not_lt.mp c27, c32, Int32.not_lt.mp c39⟩
                    refine j_aload0 (pc := 53) dX5_ring_53 ?_
                    refine g_X5_29 (pc := 54) rfl hM.1 dX5_ring_54 ?_
                    rw [hn]
                    refine j_istore5 (pc := 57) dX5_ring_57 (by decide) trivial ?_
                    refine j_aload0 (pc := 59) dX5_ring_59 ?_
                    refine j_dup (pc := 60) dX5_ring_60 ?_
                    refine g_X5_29 (pc := 61) rfl hM.1 dX5_ring_61 ?_
                    rw [hn]
                    refine j_iconst (pc := 64) (v := nI 1) dX5_ring_64 (by decide) ?_
                    refine j_iaddN (pc := 65) dX5_ring_65 ?_
                    refine p_X5_29 (pc := 66) rfl hM.1 dX5_ring_66 ?_
                    refine j_iconst (pc := 69) (v := nI 0) dX5_ring_69 (by decide) ?_
                    refine j_istore6 (pc := 70) dX5_ring_70 (by decide) trivial ?_
                    exact L72 hok (by omega)
                  · refine j_iconst (v := (-1)) dX5_ring_51 (by decide) ?_
                    refine j_iret dX5_ring_52 rfl rfl ?_
                    exact hQ _ _ ⟨_, rfl, Or.inr ⟨fun z => by unfold rgOK at z; first | omega | (simp_all [← Int32.not_le]; done), rfl, rfl⟩⟩
end

