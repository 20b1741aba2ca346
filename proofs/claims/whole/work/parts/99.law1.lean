/-! the law: the script, its room -/
/-- the law's method, whatever its name is said to be -/
def mLn (nm : String) : Mt := (⟨RL, nm, "([I)Z"⟩, cL_law, 4, some .boolean)
def lk (x y : Int32) : Int64 := (x.toInt64 <<< ((32 : Int32).toInt64 &&& 63)) ||| (y.toInt64 &&& 4294967295)
def xk (cx : Cx) (i k : Nat) : Int32 := cx.2.2.2.2.2.2 (nI (i + k)).toNatClampNeg
abbrev lcl (cx : Cx) (X M i : Nat) : List (Option Value) := [some (.ref cx.2.2.2.2.1), some (.ref X), some (.ref M), some (.int (nI i))]
theorem rok9 {d : Nat} (h : d ≤ 9) : rok d room_1 = true := by
  rcases (show d = 0 ∨ d = 1 ∨ d = 2 ∨ d = 3 ∨ d = 4 ∨ d = 5 ∨ d = 6 ∨ d = 7 ∨ d = 8 ∨ d = 9 by omega) with rfl | rfl | rfl | rfl | rfl | rfl | rfl | rfl | rfl | rfl <;> rfl
theorem so_in {i k L : Nat} (hi : i + 5 ≤ L) (hk : k < 5) (hL : L ≤ 2560) : vp_in (nI (i + k)) L := fun z => z.elim (nI_pos (by omega)) (fun q => by rw [nI_clamp (by omega)] at q; omega)
theorem and31 (x : Int32) : ∃ n, n < 32 ∧ x &&& 31 = nI n := by
  refine ⟨(x &&& 31).toBitVec.toNat, ?_, ?_⟩
  · rw [Int32.toBitVec_and, BitVec.toNat_and]
    exact Nat.lt_of_le_of_lt Nat.and_le_right (by decide)
  · apply Int32.toBitVec_inj.mp
    show (x &&& 31).toBitVec = BitVec.ofNat 32 ((x &&& 31).toBitVec.toNat)
    rw [BitVec.ofNat_toNat, BitVec.setWidth_eq]
theorem gx_X {h : Hp} {X M K : Nat} (I : GX h X M K) : h.kd X = kObj 4 := by
  obtain ⟨ow, n, C, m, Aof, Γ, I⟩ := I
  exact I.2.1.1
section
variable {cx : Cx} {mt : Mt} {R : Room} {h : Hp} {pc : Nat} {ls : List (Option Value)} {st : List Value} {bc bs : Nat} {Q : Option Value → Hp → Prop}
theorem Rep.old {H : Heap} {q : Nat} (hR : Rep cx h H) (hq : q < cx.base) : H[q]? = cx.1[q]? := hR.2.2.1 q hq
theorem j_sald0 {i : Int32} (hb : cx.2.2.2.2.1 < cx.base) (hin : vp_in i cx.2.2.2.2.2.1) (d : decode mt.2.1 pc = .ok (.iaload, 1)) (K : J cx mt R h (pc + 1) ls (.int (cx.2.2.2.2.2.2 i.toNatClampNeg) :: st) bc bs Q) : J cx mt R h pc ls (.int i :: .ref cx.2.2.2.2.1 :: st) bc bs Q := by
  intro p l e s m args below meth c H locs cells slots lsA Z C a1 a2 a3 a4 a5 k
  obtain ⟨scr, x1, x2, x3, x4, x5⟩ := C.2.2.2.2.2.2.2.1.2.2.2.2.2
  have hlt : i.toNatClampNeg < cx.2.2.2.2.2.1 := Nat.not_le.mp fun q => hin (Or.inr q)
  exact W.iald (v := .int (cx.2.2.2.2.2.2 i.toNatClampNeg)) C.1 C.2.1 (by rw [a1.old hb]; exact x1) x2 x3 (by rw [x4]; exact hin) (x5 _ hlt) rfl rfl d (K p l e s m args below meth c H locs cells slots lsA Z C a1 a2 a3 a4 a5 k)
theorem j_sald {i k : Nat} (hb : cx.2.2.2.2.1 < cx.base) (hin : vp_in (nI (i + k)) cx.2.2.2.2.2.1) (d : decode mt.2.1 pc = .ok (.iaload, 1)) (K : J cx mt R h (pc + 1) ls (.int (xk cx i k) :: st) bc bs Q) : J cx mt R h pc ls (.int (nI (i + k)) :: .ref cx.2.2.2.2.1 :: st) bc bs Q := j_sald0 hb hin d K
theorem j_slen (hb : cx.2.2.2.2.1 < cx.base) (d : decode mt.2.1 pc = .ok (.arraylength, 1)) (K : J cx mt R h (pc + 1) ls (.int (nI cx.2.2.2.2.2.1) :: st) bc bs Q) : J cx mt R h pc ls (.ref cx.2.2.2.2.1 :: st) bc bs Q := by
  intro p l e s m args below meth c H locs cells slots lsA Z C a1 a2 a3 a4 a5 k
  obtain ⟨scr, x1, x2, x3, x4, x5⟩ := C.2.2.2.2.2.2.2.1.2.2.2.2.2
  exact W.alen (n := nI cx.2.2.2.2.2.1) C.1 C.2.1 (by rw [a1.old hb]; exact x1) x2 (by rw [x4] <;> rfl) rfl rfl d (K p l e s m args below meth c H locs cells slots lsA Z C a1 a2 a3 a4 a5 k)
end

