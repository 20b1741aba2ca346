/-! the class: what lies below a new book stays; the book kept -/
/-- at x nothing differs -/
def Eq1 (h g : Hp) (x : Nat) : Prop := g.kd x = h.kd x ∧ (∀ k, g.r x k = h.r x k) ∧ (∀ k, g.i x k = h.i x k) ∧ (∀ k, g.l x k = h.l x k)
theorem Eq1.refl {h : Hp} {x : Nat} : Eq1 h h x := ⟨rfl, fun _ => rfl, fun _ => rfl, fun _ => rfl⟩
theorem Eq1.trans {h g f : Hp} {x : Nat} (a : Eq1 h g x) (b : Eq1 g f x) : Eq1 h f x := ⟨b.1.trans a.1, fun k => (b.2.1 k).trans (a.2.1 k), fun k => (b.2.2.1 k).trans (a.2.2.1 k), fun k => (b.2.2.2 k).trans (a.2.2.2 k)⟩
theorem Eq1.setI {h : Hp} {a k x : Nat} {v : Int32} (hx : x ≠ a) : Eq1 h (h.setI a k v) x := ⟨rfl, fun _ => rfl, fun _ => up2_a _ _ hx, fun _ => rfl⟩
theorem Eq1.setL {h : Hp} {a k x : Nat} {v : Int64} (hx : x ≠ a) : Eq1 h (h.setL a k v) x := ⟨rfl, fun _ => rfl, fun _ => rfl, fun _ => up2_a _ _ hx⟩
theorem Eq1.setR {h : Hp} {a k x : Nat} {v : Option Nat} (hx : x ≠ a) : Eq1 h (h.setR a k v) x := ⟨rfl, fun _ => up2_a _ _ hx, fun _ => rfl, fun _ => rfl⟩
theorem Eq1.new {h : Hp} {t len x : Nat} (hx : x ≠ h.n) : Eq1 h (h.new t len) x := ⟨if_neg hx, fun _ => if_neg hx, fun _ => if_neg hx, fun _ => if_neg hx⟩
theorem Eq1.bsh {h g : Hp} {B : Nat} (he : ∀ x, B ≤ x → x < B + 62 → Eq1 h g x) (hB : BSh h.1 B) : BSh g.1 B := by
  refine ⟨(he B (by omega) (by omega)).1.trans hB.1, ((he B (by omega) (by omega)).2.1 0).trans hB.2.1, (he (B + 1) (by omega) (by omega)).1.trans hB.2.2.1, fun i hi => ⟨((he (B + 1) (by omega) (by omega)).2.1 i).trans (hB.2.2.2 i hi).1, (he (B + 2 + i) (by omega) (by omega)).1.trans (hB.2.2.2 i hi).2⟩⟩
theorem Eq1.pb {h g : Hp} {p : Nat} (he : Eq1 h g p) (hp : plB h p) : plB g p := by
  unfold plB at hp ⊢
  rw [he.2.2.1, he.2.2.1, he.2.2.1, he.2.2.1, he.2.2.1, he.2.2.1]
  exact hp
theorem bkS_eq {g : Hp} {B x i : Nat} (hx : x < B) (hg : g.n = B + 2 + i) : Eq1 g (bkS B i g) x := by
  unfold bkS
  exact ((Eq1.new (by omega)).trans (Eq1.setI (by omega))).trans (Eq1.setR (by omega))
theorem bkN_eq {h : Hp} {B x : Nat} (hk : h.kd B = kObj 0) (hn : h.n = B + 1) (hx : x < B) : Eq1 h (bkN h B) x := by
  have key : ∀ N, Eq1 h (itr (bkS B) N (bk0 h B)) x := by
    intro N
    induction N with
    | zero => exact (Eq1.new (by omega)).trans (Eq1.setR (by omega))
    | succ N ih => exact ih.trans (bkS_eq hx (BI.all hk hn N).1)
  have q := key 60
  unfold bkN
  generalize itr (bkS B) 60 (bk0 h B) = g at q
  exact (q.trans (Eq1.setI (by omega))).trans (Eq1.setI (by omega))
section
variable {cx : Cx} {h : Hp} {A : Nat}
theorem kbN_eq {r x : Nat} (hx : x < h.n) (hxa : x ≠ A + 67) : Eq1 h (kbN h A r) x := by
  have e1 : Eq1 h (h.new (10 + 0) 0) x := Eq1.new (by omega)
  have e2 : Eq1 (h.new (10 + 0) 0) (bkN (h.new (10 + 0) 0) h.n) x := bkN_eq (by exact new_kn) rfl hx
  exact (e1.trans e2).trans (Eq1.setR hxa)
theorem t_keepBook {r : Nat} (hA : RSh h.1 A) (hR : h.i (A + 5) 2 = nI r) (hr : r < 60) (hlt : A + 68 ≤ h.n) (hpl : ∀ i, i < 60 → plB h (A + 5 + 2 + i)) (hb : ∀ b, h.r (A + 67) r = some b → BSh h.1 b ∧ (b + 62 ≤ A + 5 ∨ A + 5 + 62 ≤ b)) : Sp cx mX2_keepBook 3 62 1150 h [.ref A] (Rv fun g => g = rKeep h A r) := by
  have hB := hA.2.2.2.2.2.1.2
  have hin : vp_in (nI r) 60 := pk_in r 60 hr rfl
  have hcl : (nI r).toNatClampNeg = r := nI_clamp (by omega)
  unfold rKeep
  cases hm : h.r (A + 67) r with
  | some b =>
    obtain ⟨hb1, hb2⟩ := hb b hm
    have S := t_copyFrom0 (cx := cx) (h := h) (B := b) (b := A + 5) hb1 hB hb2 hpl
    dsimp only
    refine Sp.of 1 (by decide) (Nat.le_of_ble_eq_true rfl) rfl ?_
    refine j_aload0 (pc := 0) dX2_keepBook_0 ?_
    refine g_X2_42 (pc := 1) rfl hA.1 hA.2.2.2.2.2.1.1 dX2_keepBook_1 ?_
    refine g_X2_76 (pc := 4) rfl hA.2.2.2.2.2.1.2.1 dX2_keepBook_4 ?_
    rw [hR]
    refine j_istore1 (pc := 7) dX2_keepBook_7 (by decide) trivial ?_
    refine j_iload1 (pc := 8) dX2_keepBook_8 ?_
    refine j_if_lt (pc := 9) (tgt := 18) dX2_keepBook_9 (by decide) (fun c9 => by exact absurd c9 (nI_pos (by omega))) (fun c9 => ?_)
    refine j_iload1 (pc := 12) dX2_keepBook_12 ?_
    refine j_bipush (pc := 13) (v := nI 60) dX2_keepBook_13 (by decide) ?_
    refine j_icmpN_lt (pc := 15) (tgt := 19) (by first | decide | omega) (by first | decide | omega) dX2_keepBook_15 (by decide) (fun c15 => ?_) (fun c15 => by omega)
    refine j_aload0 (pc := 19) dX2_keepBook_19 ?_
    refine g_X2_49 (pc := 20) rfl hA.1 hA.2.2.2.2.2.2.1 dX2_keepBook_20 ?_
    refine j_iload1 (pc := 23) dX2_keepBook_23 ?_
    refine j_aald (pc := 24) (by decide) hA.2.2.2.2.2.2.2 hin (by rw [hcl]; exact hm) dX2_keepBook_24 ?_
    refine j_ifnonnull (pc := 25) (tgt := 41) dX2_keepBook_25 (by decide) ?_
    refine j_aload0 (pc := 41) dX2_keepBook_41 ?_
    refine g_X2_49 (pc := 42) rfl hA.1 hA.2.2.2.2.2.2.1 dX2_keepBook_42 ?_
    refine j_iload1 (pc := 45) dX2_keepBook_45 ?_
    refine j_aald (pc := 46) (by decide) hA.2.2.2.2.2.2.2 hin (by rw [hcl]; exact hm) dX2_keepBook_46 ?_
    refine j_aload0 (pc := 47) dX2_keepBook_47 ?_
    refine g_X2_42 (pc := 48) rfl hA.1 hA.2.2.2.2.2.1.1 dX2_keepBook_48 ?_
    refine cd_X2_73 (pc := 51) rfl (S) hb1.1 dX2_keepBook_51 rfl rfl ?_
    refine j_vret (pc := 54) dX2_keepBook_54 rfl ?_
    exact ⟨rfl, rfl⟩
  | none =>
    have hk0 : (h.new (10 + 0) 0).kd h.n = kObj 0 := by exact new_kn
    have hn0 : (h.new (10 + 0) 0).n = h.n + 1 := rfl
    have S0 := t_init0 (cx := cx) hk0 hn0
    have e1 : ∀ x, x < h.n → Eq1 h (bkN (h.new (10 + 0) 0) h.n) x := fun x hx => (Eq1.new (by omega)).trans (bkN_eq hk0 hn0 hx)
    have hs1 : BSh (bkN (h.new (10 + 0) 0) h.n).1 h.n := bkN_sh hk0 hn0
    have e2 : ∀ x, x < h.n → x ≠ A + 67 → Eq1 h (kbN h A r) x := fun x hx hxa => kbN_eq hx hxa
    have hk2 : (kbN h A r).kd (A + 67) = kRefs 0 60 := (e1 (A + 67) (by omega)).1.trans hA.2.2.2.2.2.2.2
    have hr2 : (kbN h A r).r (A + 67) r = some h.n := up2_s _ _ _ _
    have hs2 : BSh (kbN h A r).1 h.n := Eq1.bsh (fun x h1 h2 => Eq1.setR (by omega)) hs1
    have hB2 : BSh (kbN h A r).1 (A + 5) := Eq1.bsh (fun x h1 h2 => e2 x (by omega) (by omega)) hB
    have hpl2 : ∀ i, i < 60 → plB (kbN h A r) (A + 5 + 2 + i) := fun i hi => (e2 _ (by omega) (by omega)).pb (hpl i hi)
    have S := t_copyFrom0 (cx := cx) (h := kbN h A r) (B := h.n) (b := A + 5) hs2 hB2 (by omega) hpl2
    have hka : (kbN h A r).kd A = kObj 2 := (e2 A (by omega) (by omega)).1.trans hA.1
    have hra : (kbN h A r).r A 9 = some (A + 67) := ((e2 A (by omega) (by omega)).2.1 9).trans hA.2.2.2.2.2.2.1
    have hrn : (kbN h A r).r A 8 = some (A + 5) := ((e2 A (by omega) (by omega)).2.1 8).trans hA.2.2.2.2.2.1.1
    have hd : ∀ g, g = (bkN (h.new (10 + 0) 0) h.n).setR (A + 67) (nI r).toNatClampNeg (some h.n) → g = kbN h A r := fun g e => by rw [e, hcl]; rfl
    dsimp only
    refine Sp.of 1 (by decide) (Nat.le_of_ble_eq_true rfl) rfl ?_
    refine j_aload0 (pc := 0) dX2_keepBook_0 ?_
    refine g_X2_42 (pc := 1) rfl hA.1 hA.2.2.2.2.2.1.1 dX2_keepBook_1 ?_
    refine g_X2_76 (pc := 4) rfl hA.2.2.2.2.2.1.2.1 dX2_keepBook_4 ?_
    rw [hR]
    refine j_istore1 (pc := 7) dX2_keepBook_7 (by decide) trivial ?_
    refine j_iload1 (pc := 8) dX2_keepBook_8 ?_
    refine j_if_lt (pc := 9) (tgt := 18) dX2_keepBook_9 (by decide) (fun c9 => by exact absurd c9 (nI_pos (by omega))) (fun c9 => ?_)
    refine j_iload1 (pc := 12) dX2_keepBook_12 ?_
    refine j_bipush (pc := 13) (v := nI 60) dX2_keepBook_13 (by decide) ?_
    refine j_icmpN_lt (pc := 15) (tgt := 19) (by first | decide | omega) (by first | decide | omega) dX2_keepBook_15 (by decide) (fun c15 => ?_) (fun c15 => by omega)
    refine j_aload0 (pc := 19) dX2_keepBook_19 ?_
    refine g_X2_49 (pc := 20) rfl hA.1 hA.2.2.2.2.2.2.1 dX2_keepBook_20 ?_
    refine j_iload1 (pc := 23) dX2_keepBook_23 ?_
    refine j_aaldN (pc := 24) (by decide) hA.2.2.2.2.2.2.2 hin (by rw [hcl]; exact hm) dX2_keepBook_24 ?_
    refine j_ifnonnullN (pc := 25) dX2_keepBook_25 ?_
    refine j_aload0 (pc := 28) dX2_keepBook_28 ?_
    refine g_X2_49 (pc := 29) rfl hA.1 hA.2.2.2.2.2.2.1 dX2_keepBook_29 ?_
    refine j_iload1 (pc := 32) dX2_keepBook_32 ?_
    refine j_new 0 cls_0 (by decide) wT_cl_X2_39 wT_ins_X0 wT_ini_X0 dX2_keepBook_33 ?_
    refine j_dup (pc := 36) dX2_keepBook_36 ?_
    refine cs_X2_41 (pc := 37) rfl (S0) dX2_keepBook_37 rfl rfl (by decide) (by decide) (fun h' q => ?_)
    subst q
    refine j_aast (pc := 40) (by decide) cls_0 (show (bkN (h.new (10 + 0) 0) h.n).kd (A + 67) = kRefs 0 60 from hk2) hs1.1 hin dX2_keepBook_40 ?_
    rw [hd _ rfl]
    have hA : RSh h.1 A := hA
    refine j_aload0 (pc := 41) dX2_keepBook_41 ?_
    refine g_X2_49 (pc := 42) rfl hka hra dX2_keepBook_42 ?_
    refine j_iload1 (pc := 45) dX2_keepBook_45 ?_
    refine j_aald (pc := 46) (by decide) hk2 hin (by rw [hcl]; exact hr2) dX2_keepBook_46 ?_
    refine j_aload0 (pc := 47) dX2_keepBook_47 ?_
    refine g_X2_42 (pc := 48) rfl hka hrn dX2_keepBook_48 ?_
    refine cd_X2_73 (pc := 51) rfl (S) hs2.1 dX2_keepBook_51 rfl rfl ?_
    refine j_vret (pc := 54) dX2_keepBook_54 rfl ?_
    exact ⟨rfl, rfl⟩
end

