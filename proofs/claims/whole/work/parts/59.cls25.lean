/-! the class: what a call leaves as it was -/
theorem itr_rel {σ : Type} {step : Nat → σ → σ} {Rl : σ → σ → Prop} (r0 : ∀ x, Rl x x) (rt : ∀ x y z, Rl x y → Rl y z → Rl x z) {N0 : Nat} (hs : ∀ n, n < N0 → ∀ x, Rl x (step n x)) (x : σ) : ∀ N, N ≤ N0 → Rl x (itr step N x) := by
  intro N
  induction N with
  | zero => intro _; exact r0 x
  | succ N ih => intro hN; exact rt _ _ _ (ih (by omega)) (hs N (by omega) _)
/-- x is no place of the book B -/
def oP (B x : Nat) : Prop := x < B + 2 ∨ B + 62 ≤ x
theorem oP.ne {B x n : Nat} (h : oP B x) (hn : n < 60) : x ≠ B + 2 + n := by unfold oP at h; omega
theorem Eq1.it {step : Nat → Hp → Hp} {x N : Nat} {h : Hp} (hs : ∀ n, n < N → ∀ g, Eq1 g (step n g) x) : Eq1 h (itr step N h) x := itr_rel (Rl := fun a b => Eq1 a b x) (fun _ => Eq1.refl) (fun _ _ _ a b => a.trans b) hs h N (Nat.le_refl _)
theorem Eq1.it2 {step : Nat → Hp × Int64 → Hp × Int64} {x N : Nat} {h : Hp × Int64} (hs : ∀ n, n < N → ∀ g, Eq1 g.1 (step n g).1 x) : Eq1 h.1 (itr step N h).1 x := itr_rel (Rl := fun (a b : Hp × Int64) => Eq1 a.1 b.1 x) (fun _ => Eq1.refl) (fun u v w (a : Eq1 u.1 v.1 x) (b : Eq1 v.1 w.1 x) => a.trans b) hs h N (Nat.le_refl _)
theorem cpI_eq {P p k x : Nat} {h : Hp} (hx : x ≠ P) : Eq1 h (cpI P p k h) x := Eq1.setI hx
theorem cpL_eq {P p k x : Nat} {h : Hp} (hx : x ≠ P) : Eq1 h (cpL P p k h) x := Eq1.setL hx
theorem cpP_eq {P p x : Nat} {h : Hp} (hx : x ≠ P) : Eq1 h (cpP P p h) x := by
  unfold cpP cpC cpB cpA
  iterate 6 refine Eq1.trans ?_ (by first | exact cpI_eq hx | exact cpL_eq hx)
  iterate 6 refine Eq1.trans ?_ (by first | exact cpI_eq hx | exact cpL_eq hx)
  iterate 5 refine Eq1.trans ?_ (by first | exact cpI_eq hx | exact cpL_eq hx)
  first | exact cpI_eq hx | exact cpL_eq hx
theorem cpS_eq {P p x : Nat} {h : Hp} (hx : x ≠ P) : Eq1 h (cpS P p h) x := by
  unfold cpS
  iterate 4 refine Eq1.trans ?_ (by first | exact cpI_eq hx | exact cpL_eq hx)
  exact cpI_eq hx
theorem cpH_eq {B b x : Nat} {h : Hp} (hx : x ≠ B) : Eq1 h (cpH B b h) x := by
  unfold cpH
  iterate 8 refine Eq1.trans ?_ (by first | exact cpI_eq hx | exact cpL_eq hx)
  exact cpI_eq hx
theorem cpBk_eq {B b x : Nat} {h : Hp} (hx : x < B ∨ B + 62 ≤ x) : Eq1 h (cpBk B b h) x := by
  unfold cpBk
  refine Eq1.trans (Eq1.it (step := cpR B b) (N := 60) (fun n hn g => ?_)) (cpH_eq (by omega))
  unfold cpR
  exact cpP_eq (by omega)
theorem cpH_sh {B b : Nat} {h : Hp} : (cpH B b h).1 = h.1 := by simp only [cpH, cpL_sh, cpI_sh]
theorem cpRK {B b : Nat} {h : Hp} (N : Nat) : (itr (cpR B b) N h).1 = h.1 := itr_keep (step := cpR B b) (fun y : Hp => y.1) (fun _ _ => cpP_sh) h N
theorem cpBk_sh {B b : Nat} {h : Hp} : (cpBk B b h).1 = h.1 := by
  unfold cpBk
  rw [cpH_sh, cpRK]
theorem pEmp_eq {p x : Nat} {h : Hp} (hx : x ≠ p) : Eq1 h (pEmp h p) x := ((Eq1.setI hx).trans (Eq1.setI hx)).trans (Eq1.setI hx)
theorem pBack_eq {p x : Nat} {h : Hp} (hx : x ≠ p) : Eq1 h (pBack h p) x := (Eq1.setL hx).trans (pEmp_eq hx)
theorem pDep_eq {p x : Nat} {h : Hp} (hx : x ≠ p) : Eq1 h (pDep h p) x := (Eq1.setL hx).trans (Eq1.setL hx)
theorem rrC_eq {B x n : Nat} {h : Hp} (hx : oP B x) (hn : n < 60) : Eq1 h (rrC B n h) x := pBack_eq (hx.ne hn)
theorem fyC_eq {B x n : Nat} {h : Hp} (hx : oP B x) (hn : n < 60) : Eq1 h (fyC B n h) x := Eq1.setI (hx.ne hn)
theorem frC_eq {B x n : Nat} {h : Hp} (hx : oP B x) (hn : n < 60) : Eq1 h (frC B n h) x := ((pEmp_eq (hx.ne hn)).trans (Eq1.setL (hx.ne hn))).trans (Eq1.setI (hx.ne hn))
theorem dsC_eq {B x n : Nat} {h : Hp} (hx : oP B x) (hn : n < 60) : Eq1 h (dsC B n h) x := by
  unfold dsC
  split <;> first | exact Eq1.setI (hx.ne hn) | exact Eq1.refl | (split <;> first | exact Eq1.setI (hx.ne hn) | exact Eq1.refl)
theorem bgS_eq {B x n : Nat} {h : Hp} (hx : oP B x) (hn : n < 60) : Eq1 h (bgS B n h) x := Eq1.setI (hx.ne hn)
theorem sbC_eq {A x n : Nat} {s : Int32} {part : Int64} {h : Hp} (hx : oP (A + 5) x) (hn : n < 60) : Eq1 h (sbC A s part n h) x := by
  unfold sbC
  split
  · exact Eq1.setL (hx.ne hn)
  · exact Eq1.refl
theorem ssC_eq {A x n : Nat} {s : Int32} {ne : Bool} {h : Hp × Int64} (hx : oP (A + 5) x) (hn : n < 60) : Eq1 h.1 (ssC A s ne n h).1 x := by
  unfold ssC
  split
  · split
    · exact Eq1.setL (hx.ne hn)
    · exact Eq1.refl
  · exact Eq1.refl
theorem ssL_eq {A x : Nat} {s : Int32} {ne : Bool} {h : Hp × Int64} (hx : oP (A + 5) x) : Eq1 h.1 (ssL A s ne h).1 x := by
  unfold ssL
  exact Eq1.it2 (fun n hn g => ssC_eq hx hn)
theorem rShare_eq {A x : Nat} {s oth : Int32} {bid : Int64} {h : Hp} (hx : oP (A + 5) x) : Eq1 h (rShare h A s oth bid) x := by
  unfold rShare
  split
  · refine Eq1.trans ?_ (ssL_eq hx)
    refine Eq1.trans ?_ (ssL_eq hx)
    unfold sbL
    exact Eq1.it (fun n hn g => sbC_eq hx hn)
  · exact Eq1.refl
theorem sN_some {s : Int32} {n : Nat} (h : sN s = some n) : n < 60 ∧ s = nI n := by
  rcases sN_cases s with ⟨e, -⟩ | ⟨m, hm, e1, e2⟩
  · rw [e] at h; cases h
  · rw [e2] at h; cases h; exact ⟨hm, e1⟩
theorem rRepay_eq {A x p : Nat} {c : Int64} {h : Hp} (hx : oP (A + 5) x) (hp : x ≠ p) : Eq1 h (rRepay h A p c).2 x := by
  unfold rRepay
  split
  · exact Eq1.refl
  · rename_i q hq
    exact (Eq1.setL (hx.ne (sN_some hq).1)).trans (Eq1.setL hp)
theorem rHand_eq {A x : Nat} {s : Int32} {c : Int64} {h : Hp} (hx : oP (A + 5) x) (hxB : x ≠ A + 5) : Eq1 h (rHand h A s c).2 x := by
  unfold rHand
  split
  · exact Eq1.setL hxB
  · rename_i n hn
    have hn6 := (sN_some hn).1
    unfold rHand2
    exact (((rShare_eq hx).trans (rRepay_eq hx (hx.ne hn6))).trans (Eq1.setL (hx.ne hn6))).trans (Eq1.setI (hx.ne hn6))
theorem rHand_iB {A : Nat} {s : Int32} {c : Int64} {h : Hp} {k : Nat} : (rHand h A s c).2.i (A + 5) k = h.i (A + 5) k := by
  unfold rHand
  split
  · rfl
  · rename_i n hn
    have hn6 := (sN_some hn).1
    have hx : oP (A + 5) (A + 5) := Or.inl (by omega)
    unfold rHand2
    exact ((((rShare_eq hx).trans (rRepay_eq hx (hx.ne hn6))).trans (Eq1.setL (hx.ne hn6))).trans (Eq1.setI (hx.ne hn6))).2.2.1 k
theorem rPif_eq {A x p : Nat} {l : Int64} {h : Hp} (hx : oP (A + 5) x) (hp : x ≠ p) : Eq1 h (rPif h A p l).2 x := by
  have e0 : Eq1 h (pf0 h p) x := Eq1.setI hp
  have e2 : ∀ g y z, Eq1 g (pfE g p y z).2 x := fun g y z => (Eq1.setL hp).trans (Eq1.setL hp)
  unfold rPif
  split
  · split
    · exact e0.trans (e2 _ _ _)
    · rename_i q hq
      split
      · exact (e0.trans (Eq1.setL (hx.ne (sN_some hq).1))).trans (e2 _ _ _)
      · exact e0.trans (e2 _ _ _)
  · exact Eq1.refl
theorem coL_eq {A x : Nat} {h : Hp} (hx : oP (A + 5) x) : Eq1 h (coL A h).1 x := by
  unfold coL
  refine Eq1.it2 (h := (h, 0)) (fun n hn g => ?_)
  unfold coS
  split
  · exact rPif_eq hx (hx.ne hn)
  · exact Eq1.refl
theorem rKeep_eq {A x r : Nat} {h : Hp} (hx : x < h.n) (hx2 : x ≠ A + 67) (hb : ∀ b, h.r (A + 67) r = some b → x < b ∨ b + 62 ≤ x) : Eq1 h (rKeep h A r) x := by
  unfold rKeep
  cases hm : h.r (A + 67) r with
  | none => exact (kbN_eq hx hx2).trans (cpBk_eq (Or.inl hx))
  | some b => exact cpBk_eq (hb b hm)

