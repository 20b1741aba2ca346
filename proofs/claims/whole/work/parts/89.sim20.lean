/-! the calls that change only the book of a ring -/
def Fq (A : Nat) (h g : Hp) : Prop := g.1 = h.1 ∧ ∀ x, (x < A + 5 ∨ A + 67 ≤ x) → Eq1 h g x
def Lk (f g : Fl) : Prop := g 5 = f 5 ∧ g 8 = f 8 ∧ g 10 = f 10 ∧ (g 4 = 2 ↔ f 4 = 2)
theorem Lk.refl {f : Fl} : Lk f f := ⟨rfl, rfl, rfl, Iff.rfl⟩
theorem Lk.of {f g : Fl} (h : ∀ k, k < 13 → k ≠ 3 → k ≠ 7 → k ≠ 9 → k ≠ 11 → k ≠ 6 → k ≠ 12 → g k = f k) : Lk f g := ⟨h 5 (by decide) (by decide) (by decide) (by decide) (by decide) (by decide) (by decide), h 8 (by decide) (by decide) (by decide) (by decide) (by decide) (by decide) (by decide), h 10 (by decide) (by decide) (by decide) (by decide) (by decide) (by decide) (by decide), by rw [h 4 (by decide) (by decide) (by decide) (by decide) (by decide) (by decide) (by decide)]⟩
theorem Lk.upS {f g : Fl} {s j : Nat} {v : Int64} (L : Lk f g) : Lk f (upF g (ix s j) v) := by
  unfold Lk at L ⊢
  rw [upF_n _ _ (ix_low (by decide)).symm, upF_n _ _ (ix_low (by decide)).symm, upF_n _ _ (ix_low (by decide)).symm, upF_n _ _ (ix_low (by decide)).symm]
  exact L
theorem Lk.up {f g : Fl} {k : Nat} {v : Int64} (L : Lk f g) (h4 : k ≠ 4) (h5 : k ≠ 5) (h8 : k ≠ 8) (h10 : k ≠ 10) : Lk f (upF g k v) := by
  unfold Lk at L ⊢
  rw [upF_n _ _ (Ne.symm h4), upF_n _ _ (Ne.symm h5), upF_n _ _ (Ne.symm h8), upF_n _ _ (Ne.symm h10)]
  exact L
section
variable {h g h' : Hp} {A K : Nat} {f : Fl}
theorem Fq.refl : Fq A h h := ⟨rfl, fun _ _ => Eq1.refl⟩
theorem Fq.trans (a : Fq A h g) (b : Fq A g h') : Fq A h h' := ⟨b.1.trans a.1, fun x hx => (a.2 x hx).trans (b.2 x hx)⟩
theorem Fq.sI {n k : Nat} {v : Int32} (hn : n < 60) : Fq A h (h.setI (A + 5 + 2 + n) k v) := ⟨rfl, fun x hx => Eq1.setI (by omega)⟩
theorem Fq.sL {n k : Nat} {v : Int64} (hn : n < 60) : Fq A h (h.setL (A + 5 + 2 + n) k v) := ⟨rfl, fun x hx => Eq1.setL (by omega)⟩
theorem Fq.bI {k : Nat} {v : Int32} : Fq A h (h.setI (A + 5) k v) := ⟨rfl, fun x hx => Eq1.setI (by omega)⟩
theorem Fq.bL {k : Nat} {v : Int64} : Fq A h (h.setL (A + 5) k v) := ⟨rfl, fun x hx => Eq1.setL (by omega)⟩
theorem Fq.it {step : Nat → Hp → Hp} {N : Nat} (hs : ∀ n, n < N → ∀ y, Fq A y (step n y)) : Fq A h (itr step N h) := itr_rel (Rl := Fq A) (fun _ => Fq.refl) (fun _ _ _ a b => a.trans b) hs h N (Nat.le_refl _)
theorem fq_seat {s w x : Int32} : Fq A h (rSeat h A s w x).2 := by
  unfold rSeat
  split
  · split
    · exact Fq.refl
    · rename_i n hn
      split
      · exact (Fq.sI (sN_some hn).1).trans (Fq.sI (sN_some hn).1)
      · exact Fq.refl
  · exact Fq.refl
theorem lk_seat {so : Option Nat} {w x : Int32} : Lk f (fSeat f so w x).2 := by
  unfold fSeat
  split
  · exact Lk.refl
  · split
    · exact Lk.refl
    · split
      · exact Lk.refl
      · exact (Lk.refl.upS).upS
theorem fq_ans {u s : Int32} : Fq A h (rAns h A u s).2 := by
  unfold rAns
  split
  · split
    · exact Fq.refl
    · split
      · exact Fq.refl
      · split
        · split
          · exact Fq.refl
          · rename_i p hp
            split
            · exact Fq.refl
            · split
              · exact Fq.refl
              · unfold bMem at hp
                split at hp
                · cases hp
                · rename_i n hn
                  split at hp
                  · cases hp
                    exact Fq.sI (sN_some hn).1
                  · cases hp
        · exact Fq.refl
  · exact Fq.refl
theorem lk_ans {uo so : Option Nat} {u : Int32} : Lk f (fAnswers f uo so u).2 := by
  unfold fAnswers
  repeat' split
  all_goals first | exact Lk.refl | exact Lk.refl.upS
theorem fq_beg : Fq A h (rBeg h A).2 := by
  unfold rBeg
  split
  · split
    · exact Fq.refl
    · refine ((Fq.trans (g := itr (dsC (A + 5)) 60 h) ?_ ?_).trans Fq.bI).trans Fq.bI
      · exact Fq.it (fun n hn y => ⟨dsC_sh y, fun x hx => dsC_eq (by unfold oP; omega) hn⟩)
      · exact Fq.it (fun n hn y => Fq.sI hn)
  · exact Fq.refl
theorem lk_beg (O : Ok K f) : Lk f (fOpen f).2 := by
  unfold fOpen
  split
  · exact Lk.refl
  · split
    · exact Lk.refl
    · rename_i h4 _
      have h4 : f 4 = 0 := Classical.byContradiction h4
      dsimp only
      rw [opS_lows (by decide), opS_lows (by decide)]
      obtain ⟨v1, -⟩ := opS_val O.su 60
      have elow : ∀ k, k < 13 → itr opS 60 f k = f k := fun k hk => v1 k (fun s _ => ⟨(ix_low hk).symm, (ix_low hk).symm⟩)
      generalize itr opS 60 f = φ at elow ⊢
      unfold Lk
      rw [upF_n _ _ (by decide), upF_n _ _ (by decide), upF_n _ _ (by decide), upF_n _ _ (by decide), upF_n _ _ (by decide), upF_n _ _ (by decide), upF_n _ _ (by decide), upF_s, h4]
      exact ⟨elow 5 (by decide), elow 8 (by decide), elow 10 (by decide), by decide⟩
theorem fq_dep {s x : Int32} : Fq A h (rDep h A s x).2 := by
  unfold rDep
  split
  · split
    · exact Fq.refl
    · rename_i p hp
      obtain ⟨n, hn, -, rfl, -⟩ := bPl_at hp
      repeat' split
      all_goals first | exact Fq.refl | exact Fq.sL hn
  · exact Fq.refl
theorem lk_dep {so : Option Nat} {x : Int32} : Lk f (fDeposit f so x).2 := by
  unfold fDeposit
  repeat' split
  all_goals first | exact Lk.refl | exact Lk.refl.upS
theorem fq_rows : Fq A h (itr (rrC (A + 5)) 60 h) := Fq.it (fun n hn y => ⟨rfl, fun x hx => rrC_eq (by unfold oP; omega) hn⟩)
theorem fq_row {n : Int32} : Fq A h (rRow h A n).2 := by
  have q := (fq_rows (h := h) (A := A)).trans (Fq.bI (k := 4) (v := n))
  unfold rRow
  generalize (itr (rrC (A + 5)) 60 h).setI (A + 5) 4 n = y at q ⊢
  repeat' split
  all_goals first | exact Fq.refl | exact q
theorem fq_tear : Fq A h (rTear h A).2 := by
  have q := (fq_rows (h := h) (A := A)).trans (Fq.bI (k := 4) (v := -1))
  unfold rTear
  generalize (itr (rrC (A + 5)) 60 h).setI (A + 5) 4 (-1) = y at q ⊢
  repeat' split
  all_goals first | exact Fq.refl | exact q
theorem cb_lows : ∀ N k, k < 13 → itr cbS N f k = f k := by
  intro N k hk
  exact itr_keep (step := cbS) (fun φ => φ k) (fun n φ => cbS_low hk) f N
theorem lk_row {n : Int32} : Lk f (fRow f n).2 := by
  unfold fRow fRowGoes
  have q := cb_lows (f := f) 60
  generalize itr cbS 60 f = y at q ⊢
  repeat' split
  all_goals first | exact Lk.refl | exact ((Lk.of (fun k hk _ _ _ _ _ _ => q k hk)).up (by decide) (by decide) (by decide) (by decide)).up (by decide) (by decide) (by decide) (by decide)
theorem lk_tear : Lk f (fTear f).2 := by
  unfold fTear fRowGoes
  have q := cb_lows (f := f) 60
  generalize itr cbS 60 f = y at q ⊢
  repeat' split
  all_goals first | exact Lk.refl | exact (Lk.of (fun k hk _ _ _ _ _ _ => q k hk)).up (by decide) (by decide) (by decide) (by decide)
theorem fq_pay {s x : Int32} : Fq A h (rPayIn h A s x).2 := by
  unfold rPayIn
  split
  · split
    · exact Fq.refl
    · rename_i p hp
      obtain ⟨n, hn, -, rfl, -⟩ := bPl_at hp
      have p1 : Fq A h (rPay1 h A (A + 5 + 2 + n)).2 := by
        unfold rPay1
        split
        · exact (Fq.sI hn).trans ((Fq.sI hn).trans (Fq.sL hn))
        · exact Fq.refl
      have p2 : Fq A h (rPay2 h A (A + 5 + 2 + n)).2 := by
        unfold rPay2
        split
        · exact (Fq.sI hn).trans ((Fq.sI hn).trans (Fq.sL hn))
        · exact Fq.refl
      repeat' split
      all_goals first | exact Fq.refl | exact p1 | exact p2
  · exact Fq.refl
theorem lk_pay {so : Option Nat} {x : Int32} : Lk f (fPay f so x).2 := by
  unfold fPay
  repeat' split
  all_goals first | exact Lk.refl | exact ((Lk.refl.upS).upS).upS
theorem fq_late {s : Int32} : Fq A h (rLate h A s).2 := by
  unfold rLate
  split
  · split
    · exact Fq.refl
    · rename_i p hp
      obtain ⟨n, hn, -, rfl, -⟩ := bPl_at hp
      repeat' split
      all_goals first | exact Fq.refl | exact (Fq.bL.trans Fq.bL).trans ((Fq.sL hn).trans (Fq.sL hn))
  · exact Fq.refl
theorem lk_late {so : Option Nat} : Lk f (fLate f so).2 := by
  unfold fLate
  repeat' split
  all_goals first | exact Lk.refl | exact (((Lk.refl.up (by decide) (by decide) (by decide) (by decide)).up (by decide) (by decide) (by decide) (by decide)).upS).upS
theorem fq_bid {s : Int32} {b : Int64} : Fq A h (rBid h A s b).2 := by
  unfold rBid
  split
  · split
    · exact Fq.refl
    · rename_i p hp
      obtain ⟨n, hn, -, rfl, -⟩ := bPl_at hp
      split
      · exact Fq.sL hn
      · exact Fq.refl
  · exact Fq.refl
theorem lk_bid {so : Option Nat} {b : Int64} : Lk f (fBid f so b).2 := by
  unfold fBid
  repeat' split
  all_goals first | exact Lk.refl | exact Lk.refl.upS
theorem fq_need {s : Int32} : Fq A h (rAsk h A s).2 := by
  unfold rAsk
  split
  · exact (Fq.it (fun n hn y => Fq.sI hn)).trans Fq.bI
  · exact Fq.refl
theorem lk_need {so : Option Nat} : Lk f (fNeed f so).2 := by
  unfold fNeed
  have e : ∀ N s, Lk f (itr nsS N (upF f 9 (lN s))) := by
    intro N s
    induction N with
    | zero => exact Lk.refl.up (by decide) (by decide) (by decide) (by decide)
    | succ N ih => exact ih.upS
  repeat' split
  all_goals first | exact Lk.refl | exact e 60 _
theorem fq_yes {s : Int32} : Fq A h (rYes h A s).2 := by
  unfold rYes
  split
  · split
    · split
      · exact Fq.refl
      · rename_i p hp
        obtain ⟨n, hn, -, rfl, -⟩ := bPl_at hp
        repeat' split
        all_goals first | exact Fq.refl | exact Fq.sI hn
    · exact Fq.refl
  · exact Fq.refl
theorem lk_yes {so : Option Nat} : Lk f (fYes f so).2 := by
  unfold fYes
  repeat' split
  all_goals first | exact Lk.refl | exact Lk.refl.upS
theorem fq_rep {s w : Int32} : Fq A h (rRep h A s w).2 := by
  unfold rRep
  split
  · split
    · exact Fq.refl
    · rename_i p hp
      obtain ⟨n, hn, -, rfl, -⟩ := bPl_at hp
      repeat' split
      all_goals first | exact Fq.refl | exact ((((((Fq.sI hn).trans (Fq.sI hn)).trans (Fq.sL hn)).trans (Fq.sL hn)).trans (Fq.sL hn)).trans (Fq.sL hn)).trans (Fq.sL hn)
  · exact Fq.refl
theorem lk_rep {so : Option Nat} {w : Int32} : Lk f (fReplace f so w).2 := by
  unfold fReplace
  repeat' split
  all_goals first | exact Lk.refl | exact ((((((Lk.refl.upS).upS).upS).upS).upS).upS).upS
end
section
variable {h g : Hp} {ow : Nat → Nat} {a A K : Nat} {γ : Gh}
theorem CR.fq {f : Fl} (I : CR h ow a A K γ) (hK : K < 512) (F : Fq A h g) (S : Sm g A (A + 5) f) (O : Ok (K + 1) f) (L : Lk γ.f f) : CR g ow a A (K + 1) (γ.set f) := I.simple hK F.1 F.2 S O L.1 L.2.1 L.2.2.1 L.2.2.2
/-- what other rings see of it: nothing -/
def Oth (h g : Hp) (ow : Nat → Nat) (a : Nat) : Prop := h.n ≤ g.n ∧ ∀ x, x < h.n → ow x / 1000 ≠ a → Eq1 h g x
theorem CR.oth (I : CR h ow a A K γ) (F : Fq A h g) : Oth h g ow a := ⟨Nat.le_of_eq (by show h.1.1 = g.1.1; rw [F.1]), fun x hx hl => F.2 x (by
    rcases Nat.lt_or_ge x (A + 5) with z | z
    · exact Or.inl z
    · rcases Nat.lt_or_ge x (A + 67) with y | y
      · have := I.2.2.1 x (by omega) (by omega)
        omega
      · exact Or.inr y)⟩
end

