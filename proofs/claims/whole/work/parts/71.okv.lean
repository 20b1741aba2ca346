/-! one seat's numbers changed -/
theorem nn {p : Prop} (h : p) : ¬ ¬ p := fun z => z h
def SeatCh (f g : Fl) (n : Nat) (w : Nat → Int64) : Prop := (∀ k, k < 13 → g k = f k) ∧ (∀ k, 1033 ≤ k → g k = f k) ∧ (∀ t, t < 60 → t ≠ n → ∀ j, j < 17 → sv g t j = sv f t j) ∧ ∀ j, j < 17 → sv g n j = w j
theorem SeatCh.refl {f : Fl} {n : Nat} : SeatCh f f n (sv f n) := ⟨fun _ _ => rfl, fun _ _ => rfl, fun _ _ _ _ _ => rfl, fun _ _ => rfl⟩
theorem SeatCh.up {f g : Fl} {n j : Nat} {w : Nat → Int64} {x : Int64} (C : SeatCh f g n w) (hn : n < 60) (hj : j < 17) : SeatCh f (upF g (ix n j) x) n (upV w j x) := by
  refine ⟨fun k hk => ?_, fun k hk => ?_, fun t ht htn q hq => ?_, fun q hq => ?_⟩
  · rw [upF_n _ _ (ix_low hk).symm]; exact C.1 k hk
  · rw [upF_n _ _ (by have := ix_lt2 hn hj; omega)]; exact C.2.1 k hk
  · rw [sv_n hj hq htn]; exact C.2.2.1 t ht htn q hq
  · rw [sv_s hj hq]
    unfold upV
    by_cases e : q = j
    · rw [if_pos e, if_pos e]
    · rw [if_neg e, if_neg e]; exact C.2.2.2 q hq
theorem Ok.ch {K K' : Nat} {f g : Fl} {n : Nat} {w : Nat → Int64} (O : Ok K f) (hK : K ≤ K') (C : SeatCh f g n w) (hm : f 4 = 0 ∨ (2 ≤ w 0 ↔ 2 ≤ f (ix n 0))) (hv : OkV K' (f 0) (f 1) (f 4) w) : Ok K' g := by
  refine O.seat (s := n) hK C.1 C.2.1 C.2.2.1 (hm.elim Or.inl (fun z => Or.inr ?_)) (hv.cong (Nat.le_refl _) C.2.2.2)
  unfold isMem
  rw [show g (ix n 0) = w 0 from C.2.2.2 0 (by decide)]
  exact decide_eq_decide.mpr z
theorem upV_s {v : Nat → Int64} {j : Nat} {x : Int64} : upV v j x j = x := if_pos rfl
theorem upV_n {v : Nat → Int64} {j k : Nat} {x : Int64} (h : k ≠ j) : upV v j x k = v k := if_neg h
section
variable {K : Nat} {k0 f1 f4 : Int64} {v : Nat → Int64}
theorem OkV.s1 {x : Int64} (O : OkV K k0 f1 f4 v) (h4 : ¬ f4 = 0)  : OkV K k0 f1 f4 (upV v 1 (x)) := by
  obtain ⟨a1, a2, a3, a4, a5, a6, a7, a8, a9, a10, a11, a12, a13⟩ := O
  exact ⟨a1, a2, a3, a4, a5, a6, a7, a8, a9, a10, a11, a12, fun z => absurd z h4⟩
theorem OkV.s8 {x : Int64} (O : OkV K k0 f1 f4 v) (h4 : ¬ f4 = 0)  : OkV K k0 f1 f4 (upV v 8 (x)) := by
  obtain ⟨a1, a2, a3, a4, a5, a6, a7, a8, a9, a10, a11, a12, a13⟩ := O
  exact ⟨a1, a2, a3, a4, a5, a6, a7, a8, a9, a10, a11, a12, fun z => absurd z h4⟩
theorem OkV.s10 {x : Int64} (O : OkV K k0 f1 f4 v) (h4 : ¬ f4 = 0)  : OkV K k0 f1 f4 (upV v 10 (x)) := by
  obtain ⟨a1, a2, a3, a4, a5, a6, a7, a8, a9, a10, a11, a12, a13⟩ := O
  exact ⟨a1, a2, a3, a4, a5, a6, a7, a8, a9, a10, a11, a12, fun z => absurd z h4⟩
theorem OkV.s11 {x : Int64} (O : OkV K k0 f1 f4 v) (h4 : ¬ f4 = 0)  : OkV K k0 f1 f4 (upV v 11 (x)) := by
  obtain ⟨a1, a2, a3, a4, a5, a6, a7, a8, a9, a10, a11, a12, a13⟩ := O
  exact ⟨a1, a2, a3, a4, a5, a6, a7, a8, a9, a10, a11, a12, fun z => absurd z h4⟩
theorem OkV.s0 {x : Int64} (O : OkV K k0 f1 f4 v) (h4 : ¬ f4 = 0) (hx : ∃ n, n ≤ 4 ∧ x = lN n) (h2 : 2 ≤ x) (hp : 0 < f4) (hz : v 14 = 0 ∧ v 13 = 0) : OkV K k0 f1 f4 (upV v 0 (x)) := by
  obtain ⟨a1, a2, a3, a4, a5, a6, a7, a8, a9, a10, a11, a12, a13⟩ := O
  exact ⟨hx, a2, a3, a4, a5, a6, Or.inl hz, a8, a9, a10, a11, fun z => ⟨hp, h2⟩, fun z => absurd z h4⟩
theorem OkV.s3  (O : OkV K k0 f1 f4 v) (h4 : ¬ f4 = 0)  : OkV K k0 f1 f4 (upV v 3 (1)) := by
  obtain ⟨a1, a2, a3, a4, a5, a6, a7, a8, a9, a10, a11, a12, a13⟩ := O
  exact ⟨a1, a2, ⟨Or.inr rfl, a3.2⟩, a4, a5, a6, a7, a8, a9, fun z => absurd (show (1 : Int64) = 0 from z) (by decide), a11, a12, fun z => absurd z h4⟩
theorem OkV.s4 {x : Int64} (O : OkV K k0 f1 f4 v) (h4 : ¬ f4 = 0) (hx : b64 x) (hz : v 14 = 0 ∧ v 13 = 0) : OkV K k0 f1 f4 (upV v 4 (x)) := by
  obtain ⟨a1, a2, a3, a4, a5, a6, a7, a8, a9, a10, a11, a12, a13⟩ := O
  exact ⟨a1, a2, ⟨a3.1, hx, a3.2.2⟩, a4, a5, a6, Or.inl hz, a8, a9, a10, a11, a12, fun z => absurd z h4⟩
theorem OkV.s5 {x : Int64} (O : OkV K k0 f1 f4 v) (h4 : ¬ f4 = 0) (hx : ∃ d, d ≤ K * 10000000 ∧ x = lN d) : OkV K k0 f1 f4 (upV v 5 (x)) := by
  obtain ⟨a1, a2, a3, a4, a5, a6, a7, a8, a9, a10, a11, a12, a13⟩ := O
  exact ⟨a1, a2, a3, hx, a5, a6, a7, a8, a9, a10, a11, a12, fun z => absurd z h4⟩
theorem OkV.s6 {x : Int64} (O : OkV K k0 f1 f4 v) (h4 : ¬ f4 = 0) (hx : ∃ d, d ≤ K * 10000000 ∧ x = lN d) (h2 : v 2 = -1 → x = 0) : OkV K k0 f1 f4 (upV v 6 (x)) := by
  obtain ⟨a1, a2, a3, a4, a5, a6, a7, a8, a9, a10, a11, a12, a13⟩ := O
  exact ⟨a1, a2, a3, a4, hx, a6, a7, a8, a9, a10, h2, a12, fun z => absurd z h4⟩
theorem OkV.s7 {x : Int64} (O : OkV K k0 f1 f4 v) (h4 : ¬ f4 = 0) (hx : ∃ d, d ≤ K * 10000000000 ∧ x = lN d) : OkV K k0 f1 f4 (upV v 7 (x)) := by
  obtain ⟨a1, a2, a3, a4, a5, a6, a7, a8, a9, a10, a11, a12, a13⟩ := O
  exact ⟨a1, a2, a3, a4, a5, hx, a7, a8, a9, a10, a11, a12, fun z => absurd z h4⟩
theorem OkV.s9 {x : Int64} (O : OkV K k0 f1 f4 v) (h4 : ¬ f4 = 0) (hx : v 3 = 0 → x = 0) : OkV K k0 f1 f4 (upV v 9 (x)) := by
  obtain ⟨a1, a2, a3, a4, a5, a6, a7, a8, a9, a10, a11, a12, a13⟩ := O
  exact ⟨a1, a2, a3, a4, a5, a6, a7, a8, a9, hx, a11, a12, fun z => absurd z h4⟩
theorem OkV.s12  (O : OkV K k0 f1 f4 v) (h4 : ¬ f4 = 0)  : OkV K k0 f1 f4 (upV v 12 (0)) := by
  obtain ⟨a1, a2, a3, a4, a5, a6, a7, a8, a9, a10, a11, a12, a13⟩ := O
  exact ⟨a1, a2, ⟨a3.1, a3.2.1, Or.inl rfl, a3.2.2.2⟩, a4, a5, a6, a7, a8, a9, a10, a11, fun z => absurd (show (0 : Int64) = 1 from z) (by decide), fun z => absurd z h4⟩
theorem OkV.s15 {x : Int64} (O : OkV K k0 f1 f4 v) (h4 : ¬ f4 = 0) (hx : ∃ d, d ≤ 600000000 ∧ x = lN d) (hk : ¬ k0 = 2 → x = 0) : OkV K k0 f1 f4 (upV v 15 (x)) := by
  obtain ⟨a1, a2, a3, a4, a5, a6, a7, a8, a9, a10, a11, a12, a13⟩ := O
  exact ⟨a1, a2, a3, a4, a5, a6, a7, hx, hk, a10, a11, a12, fun z => absurd z h4⟩
theorem OkV.s16 {x : Int64} (O : OkV K k0 f1 f4 v) (h4 : ¬ f4 = 0) (hx : b64 x) : OkV K k0 f1 f4 (upV v 16 (x)) := by
  obtain ⟨a1, a2, a3, a4, a5, a6, a7, a8, a9, a10, a11, a12, a13⟩ := O
  exact ⟨a1, a2, ⟨a3.1, a3.2.1, a3.2.2.1, hx⟩, a4, a5, a6, a7, a8, a9, a10, a11, a12, fun z => absurd z h4⟩
theorem OkV.sC {x y : Int64} (O : OkV K k0 f1 f4 v) (h4 : ¬ f4 = 0) (hxy : (y = 0 ∧ x = 0) ∨ (0 < f4 ∧ 2 ≤ v 0 ∧ v 4 = 0 ∧ ((y = 1 ∧ ¬ v 0 = 3 ∧ x = f1) ∨ (v 0 = 3 ∧ ((y = 1 ∧ x = f1 - f1 / 2) ∨ (y = 2 ∧ x = f1 / 2) ∨ (y = 3 ∧ x = f1)))))) : OkV K k0 f1 f4 (upV (upV v 13 x) 14 y) := by
  obtain ⟨a1, a2, a3, a4, a5, a6, a7, a8, a9, a10, a11, a12, a13⟩ := O
  exact ⟨a1, a2, a3, a4, a5, a6, hxy, a8, a9, a10, a11, a12, fun z => absurd z h4⟩
theorem OkV.sD {x y : Int64} (O : OkV K k0 f1 f4 v) (h4 : ¬ f4 = 0) (hxy : (y = 0 ∧ x = 0) ∨ (0 < f4 ∧ 2 ≤ v 0 ∧ v 4 = 0 ∧ ((y = 1 ∧ ¬ v 0 = 3 ∧ x = f1) ∨ (v 0 = 3 ∧ ((y = 1 ∧ x = f1 - f1 / 2) ∨ (y = 2 ∧ x = f1 / 2) ∨ (y = 3 ∧ x = f1)))))) : OkV K k0 f1 f4 (upV (upV v 14 y) 13 x) := by
  obtain ⟨a1, a2, a3, a4, a5, a6, a7, a8, a9, a10, a11, a12, a13⟩ := O
  exact ⟨a1, a2, a3, a4, a5, a6, hxy, a8, a9, a10, a11, a12, fun z => absurd z h4⟩
theorem OkV.up {K' : Nat} (O : OkV K k0 f1 f4 v) (hK : K ≤ K') : OkV K' k0 f1 f4 v := O.cong hK (fun _ _ => rfl)
/-- a stopped one has paid nothing into its cell -/
theorem OkV.z4 (O : OkV K k0 f1 f4 v) (h : ¬ v 4 = 0) : v 14 = 0 ∧ v 13 = 0 := by
  rcases O.2.2.2.2.2.2.1 with z | z
  · exact z
  · exact absurd z.2.2.1 h
end

