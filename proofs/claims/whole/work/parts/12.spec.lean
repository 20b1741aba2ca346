/-! a ring as the reference holds it: 1393 numbers; what each call makes of them -/
abbrev Fl : Type := Nat → Int64
def ix (s j : Nat) : Nat := 13 + 17 * s + j
def upF (f : Fl) (k : Nat) (v : Int64) : Fl := fun x => if x = k then v else f x
theorem upF_s (f : Fl) (k : Nat) (v : Int64) : upF f k v k = v := by simp [upF]
theorem upF_n (f : Fl) {k x : Nat} (v : Int64) (h : x ≠ k) : upF f k v x = f x := by simp [upF, h]
/-- loops: n steps; the first that is so; how many are so -/
def itr {σ : Type} (step : Nat → σ → σ) : Nat → σ → σ
  | 0, x => x
  | n + 1, x => step n (itr step n x)
def fnd (p : Nat → Bool) : Nat → Option Nat
  | 0 => none
  | n + 1 => match fnd p n with
    | some k => some k
    | none => if p n then some n else none
def cnt (p : Nat → Bool) : Nat → Nat
  | 0 => 0
  | n + 1 => cnt p n + (if p n then 1 else 0)
theorem fnd_none {p : Nat → Bool} : ∀ {n : Nat}, fnd p n = none ↔ ∀ k, k < n → p k = false
  | 0 => ⟨fun _ k hk => absurd hk (Nat.not_lt_zero k), fun _ => rfl⟩
  | n + 1 => by
    unfold fnd
    have ih := fnd_none (p := p) (n := n)
    cases hf : fnd p n with
    | some k =>
      refine ⟨fun h => by simp at h, fun h => ?_⟩
      have := ih.mpr (fun k hk => h k (by omega))
      rw [hf] at this
      cases this
    | none =>
      have h0 := ih.mp hf
      constructor
      · intro h k hk
        rcases Nat.lt_or_ge k n with q | q
        · exact h0 k q
        · have : k = n := by omega
          subst this
          cases hp : p k
          · rfl
          · simp [hp] at h
      · intro h
        simp [h n (by omega)]
theorem fnd_at {p : Nat → Bool} {n : Nat} (h : fnd p n = none) (hp : p n = true) : ∀ m, n < m → fnd p m = some n := by
  intro m hm
  obtain ⟨d, rfl⟩ : ∃ d, m = n + 1 + d := ⟨m - (n + 1), by omega⟩
  induction d with
  | zero => simp [fnd, h, hp]
  | succ d ih =>
    have e : fnd p (n + 1 + (d + 1)) = (match fnd p (n + 1 + d) with | some k => some k | none => if p (n + 1 + d) then some (n + 1 + d) else none) := rfl
    rw [e, ih (by omega)]
theorem fnd_some {p : Nat → Bool} : ∀ {n k : Nat}, fnd p n = some k → k < n ∧ p k = true ∧ ∀ j, j < k → p j = false
  | 0, k, h => by simp [fnd] at h
  | n + 1, k, h => by
    unfold fnd at h
    cases hf : fnd p n with
    | some q =>
      rw [hf] at h
      cases h
      have := fnd_some hf
      exact ⟨by omega, this.2⟩
    | none =>
      rw [hf] at h
      cases hp : p n
      · simp [hp] at h
      · simp [hp] at h
        subst h
        exact ⟨by omega, hp, fun j hj => fnd_none.mp hf j hj⟩
theorem fnd_cong {p q : Nat → Bool} : ∀ {n : Nat}, (∀ k, k < n → p k = q k) → fnd p n = fnd q n
  | 0, _ => rfl
  | n + 1, h => by
    unfold fnd
    rw [fnd_cong (fun k hk => h k (by omega)), h n (by omega)]
theorem cnt_le (p : Nat → Bool) : ∀ n, cnt p n ≤ n
  | 0 => Nat.le_refl _
  | n + 1 => by
    have := cnt_le p n
    unfold cnt
    split <;> omega
theorem cnt_cong {p q : Nat → Bool} : ∀ {n : Nat}, (∀ k, k < n → p k = q k) → cnt p n = cnt q n
  | 0, _ => rfl
  | n + 1, h => by
    unfold cnt
    rw [cnt_cong (fun k hk => h k (by omega)), h n (by omega)]
theorem itr_cong {σ : Type} {p q : Nat → σ → σ} {x : σ} : ∀ {n : Nat}, (∀ k, k < n → p k = q k) → itr p n x = itr q n x
  | 0, _ => rfl
  | n + 1, h => by
    unfold itr
    rw [itr_cong (fun k hk => h k (by omega)), h n (by omega)]
/-- an index -/
def sN (s : Int32) : Option Nat := if 0 ≤ s ∧ s < 60 then some s.toNatClampNeg else none
theorem sN_cases (s : Int32) : (sN s = none ∧ ¬ (0 ≤ s ∧ s < 60)) ∨ ∃ n : Nat, n < 60 ∧ s = nI n ∧ sN s = some n := by
  by_cases h : 0 ≤ s ∧ s < 60
  · right
    rcases pk_ix s (n := 60) (by decide) with h1 | h1 | ⟨j, hj, e⟩
    · exact absurd h.1 (Int32.not_le.mpr h1)
    · exact absurd h.2 (Int32.not_lt.mpr h1)
    · refine ⟨j, hj, e, ?_⟩
      unfold sN
      rw [if_pos h, e, nI_clamp (by omega)]
  · left
    exact ⟨by simp [sN, h], h⟩
/-- what a seat is -/
def isMem (f : Fl) (s : Nat) : Bool := decide (2 ≤ f (ix s 0))
def isPl (f : Fl) (s : Nat) : Bool := decide (0 < f 4) && isMem f s
def isSt (f : Fl) (s : Nat) : Bool := decide (f (ix s 4) = 1)
def isNe (f : Fl) (s : Nat) : Bool := isPl f s && !isSt f s && decide (f (ix s 3) = 0)
def isAb (f : Fl) (s : Nat) : Bool := isNe f s && decide (f (ix s 5) = 0)
def isFu (f : Fl) (s : Nat) : Bool := isPl f s && decide (f (ix s 12) = 1)
def isOt (f : Fl) (than s : Nat) : Bool := !decide (s = than) && (isPl f s && !isSt f s)
def pur (f : Fl) : Int64 := f 6 * f 1
/-- the calls -/
def fSeat (f : Fl) (so : Option Nat) (what x : Int32) : Int32 × Fl :=
  if ¬ f 4 = 0 then (2, f) else match so with
  | none => (3, f)
  | some s => if what < 0 ∨ 4 < what then (4, f) else (0, upF (upF f (ix s 0) what.toInt64) (ix s 1) (if what = 1 then x.toInt64 else 0))
def fLetter (f : Fl) (so : Option Nat) : Int32 := match so with
  | none => 0
  | some s => (f (ix s 1)).toInt32
def fAnswers (f : Fl) (uo so : Option Nat) (u : Int32) : Int32 × Fl :=
  if ¬ f 4 = 0 then (2, f) else match uo with
  | none => (3, f)
  | some q => if f (ix q 0) = 0 then (3, f) else if ¬ f (ix q 0) = 4 then (4, f) else match so with
    | none => (3, f)
    | some s => if isMem f s = false then (3, f) else if s = q then (3, f) else if f (ix s 2) = u.toInt64 then (8, f) else (0, upF f (ix s 2) u.toInt64)
def isTo (f : Fl) (s : Nat) : Bool := (fnd (fun k => decide (f (1033 + k) = lN s)) (f 12).toInt.toNat).isSome
def fOrder (f : Fl) (so : Option Nat) : Int32 × Fl :=
  if ¬ f 4 = 0 then (2, f) else match so with
  | none => (3, f)
  | some s => if isMem f s = false then (3, f) else if ¬ f 0 = 0 then (4, f) else if isTo f s then (8, f) else (0, upF (upF f (1033 + (f 12).toInt.toNat) (lN s)) 12 (f 12 + 1))
def fLot (f : Fl) (x : Int32) : Int32 × Fl :=
  if f 4 = 2 then (2, f) else if ¬ f 0 = 1 then (4, f) else if x < 0 then (7, f) else if f 10 = 60 then (9, f) else (0, upF (upF f (1093 + (f 10).toInt.toNat) x.toInt64) 10 (f 10 + 1))
def opS (n : Nat) (f : Fl) : Fl :=
  let g := if ¬ (f (ix n 2)).toInt32 = -1 ∧ (isMem f n = false ∨ ¬ f (ix (f (ix n 2)).toInt.toNat 0) = 4) then upF f (ix n 2) (-1) else f
  upF g (ix n 12) (if isMem g n then 1 else 0)
def fOpen (f : Fl) : Int32 × Fl :=
  if ¬ f 4 = 0 then (2, f) else if cnt (isMem f) 60 = 0 then (3, f) else (0, itr opS 60 (upF (upF f 4 1) 6 (lN (cnt (isMem f) 60))))
def ag (f : Fl) (so : Option Nat) : Int32 :=
  if ¬ f 4 = 1 then 2 else match so with
  | none => 3
  | some s => if isPl f s = false then 3 else if isSt f s then 10 else 0
def agK (f : Fl) (k : Int64) : Int32 := if ¬ f 4 = 1 then 2 else if ¬ f 0 = k then 4 else 0
def fDeposit (f : Fl) (so : Option Nat) (sum : Int32) : Int32 × Fl :=
  if ¬ ag f so = 0 then (ag f so, f) else match so with
  | none => (0, f)
  | some s => if ¬ f (ix s 0) = 4 then (4, f) else if sum < 1 ∨ 100000000 < sum then (7, f) else (0, upF f (ix s 7) (f (ix s 7) + sum.toInt64))
def cbS (n : Nat) (f : Fl) : Fl := upF (upF (upF f (ix n 8) (f (ix n 8) + -f (ix n 13))) (ix n 13) 0) (ix n 14) 0
def fRowGoes (f : Fl) : Fl := upF (itr cbS 60 f) 7 (-1)
def fRow (f : Fl) (n : Int32) : Int32 × Fl :=
  if ¬ f 4 = 1 then (2, f) else if f 5 = f 6 then (8, f) else if n < 0 ∨ 60 < n then (7, f) else (0, upF (fRowGoes f) 7 n.toInt64)
def fTear (f : Fl) : Int32 × Fl := if ¬ f 4 = 1 then (2, f) else if f 7 = -1 then (5, f) else (0, fRowGoes f)
def paySum (f : Fl) (s : Nat) (half : Int32) : Int64 := if ¬ f (ix s 0) = 3 then f 1 else if half = 1 then f 1 / 2 else f 1 - f 1 / 2
def fPay (f : Fl) (so : Option Nat) (half : Int32) : Int32 × Fl :=
  if ¬ ag f so = 0 then (ag f so, f) else match so with
  | none => (0, f)
  | some s => if half = 1 ∧ ¬ f (ix s 0) = 3 then (4, f) else if half < 0 ∨ 1 < half then (7, f) else if f 7 = -1 then (5, f) else if f 7 ≤ lN s then (6, f)
    else if f (ix s 14) >>> (half.toInt64 &&& 63) &&& 1 = 1 then (8, f)
    else (0, upF (upF (upF f (ix s 14) (f (ix s 14) ||| 1 <<< (half.toInt64 &&& 63))) (ix s 13) (f (ix s 13) + paySum f s half)) (ix s 8) (f (ix s 8) + paySum f s half))
def fCame (f : Fl) (so : Option Nat) : Int32 := match so with
  | none => -1
  | some s => if f 7 ≤ lN s then -1 else (f (ix s 13)).toInt32
def fLate (f : Fl) (so : Option Nat) : Int32 × Fl :=
  if ¬ ag f so = 0 then (ag f so, f) else match so with
  | none => (0, f)
  | some s => if f (ix s 5) = 0 then (8, f) else (0, upF (upF (upF (upF f 3 (f 3 + (f (ix s 5) + f 2))) 11 (f 11 + f 2)) (ix s 8) (f (ix s 8) + f (ix s 5))) (ix s 5) 0)
def fBid (f : Fl) (so : Option Nat) (b : Int64) : Int32 × Fl :=
  if ¬ agK f 2 = 0 then (agK f 2, f) else if ¬ ag f so = 0 then (ag f so, f) else match so with
  | none => (0, f)
  | some s => if f (ix s 3) = 1 then (8, f) else if b < 0 ∨ pur f < b then (7, f) else (0, upF f (ix s 15) b)
def nsS (n : Nat) (f : Fl) : Fl := upF f (ix n 16) 0
def fNeed (f : Fl) (so : Option Nat) : Int32 × Fl :=
  if ¬ agK f 3 = 0 then (agK f 3, f) else if ¬ ag f so = 0 then (ag f so, f) else match so with
  | none => (0, f)
  | some s => if f (ix s 3) = 1 then (8, f) else (0, itr nsS 60 (upF f 9 (lN s)))
def fYes (f : Fl) (so : Option Nat) : Int32 × Fl :=
  if ¬ agK f 3 = 0 then (agK f 3, f) else match so with
  | none => (3, f)
  | some s => if isPl f s = false then (3, f) else if f 9 = -1 then (3, f) else if isSt f s then (10, f) else if f (ix s 3) = 1 then (8, f) else if f (ix s 16) = 1 then (8, f) else (0, upF f (ix s 16) 1)
def said (f : Fl) (n : Nat) : Int64 := itr (fun s x => x + (if isNe f s then f (ix s 16) else 0)) n 0
/-- a round's end -/
def lkPut (f : Fl) (s : Nat) : Int64 :=
  if (f (ix s 2)).toInt32 = -1 then 0 else if isSt f (f (ix s 2)).toInt.toNat then 0 else if f 1 - f (ix s 13) ≤ f (ix (f (ix s 2)).toInt.toNat 7) then f 1 - f (ix s 13) else f (ix (f (ix s 2)).toInt.toNat 7)
def lkS (s : Nat) (x : Fl × Int64) : Fl × Int64 :=
  if isPl x.1 s = false then x else if isSt x.1 s then x else if x.1 1 - x.1 (ix s 13) = 0 then x else
    let lack := x.1 1 - x.1 (ix s 13)
    let g := upF x.1 (ix s 12) 0
    let put := lkPut g s
    let g2 := if 0 < put then upF g (ix (g (ix s 2)).toInt.toNat 7) (g (ix (g (ix s 2)).toInt.toNat 7) + -put) else g
    let g3 := upF g2 (ix s 6) (g2 (ix s 6) + put)
    (upF g3 (ix s 5) (g3 (ix s 5) + (lack - put)), x.2 + put)
def lacks (f : Fl) (n : Nat) : Fl × Int64 := itr lkS n (f, 0)
def cellSum (f : Fl) (x : Int64) (n : Nat) : Int64 := itr (fun s y => y + f (ix s 13)) n x
def bbS (f : Fl) (s : Nat) (b : Option Nat) : Option Nat := if isAb f s && (match b with | none => true | some q => decide (f (ix q 15) < f (ix s 15))) then some s else b
def lotX (f : Fl) : Int64 := if f 5 < f 10 then f (1093 + (f 5).toInt.toNat) else 0
def lotN (f : Fl) : Nat := ((lotX f).toInt.toNat) % (cnt (isAb f) 60)
def who (f : Fl) : Option Nat :=
  if f 0 = 0 then (match fnd (fun k => isAb f (f (1033 + k)).toInt.toNat) (f 12).toInt.toNat with | some k => some (f (1033 + k)).toInt.toNat | none => fnd (isAb f) 60)
  else if f 0 = 1 then (if cnt (isAb f) 60 = 0 then none else fnd (fun s => isAb f s && decide (cnt (isAb f) s = lotN f)) 60)
  else if f 0 = 2 then itr (bbS f) 60 none
  else (if (f 9).toInt32 = -1 then fnd (isAb f) 60 else if isAb f (f 9).toInt.toNat = true ∧ lN (cnt (isNe f) 60) < 2 * said f 60 then some (f 9).toInt.toNat else fnd (isAb f) 60)
def shS (by_ : Nat) (part : Int64) (s : Nat) (f : Fl) : Fl := if isOt f by_ s then upF f (ix s 10) (f (ix s 10) + part) else f
def s1S (by_ : Nat) (ne : Bool) (s : Nat) (x : Fl × Int64) : Fl × Int64 := if 0 < x.2 then (if isOt x.1 by_ s && (isNe x.1 s == ne) then (upF x.1 (ix s 10) (x.1 (ix s 10) + 1), x.2 - 1) else x) else x
def shares (f : Fl) (by_ : Nat) (bid others : Int64) : Fl :=
  let g := itr (shS by_ (bid / others)) 60 f
  let x := itr (s1S by_ true) 60 (g, bid - bid / others * others)
  (itr (s1S by_ false) 60 x).1
def dBid (f : Fl) (by_ : Nat) (given : Int64) : Int64 := if ¬ f 0 = 2 then 0 else if cnt (isOt f by_) 60 = 0 then 0 else if given ≤ f (ix by_ 15) then given else f (ix by_ 15)
def draws (f : Fl) (by_ : Nat) (given : Int64) : Fl :=
  let bid := dBid f by_ given
  let g := if 0 < bid then shares f by_ bid (lN (cnt (isOt f by_) 60)) else f
  let claim := if g (ix by_ 6) ≤ given - bid then g (ix by_ 6) else given - bid
  let g1 := if 0 < claim then upF g (ix (g (ix by_ 2)).toInt.toNat 7) (g (ix (g (ix by_ 2)).toInt.toNat 7) + claim) else g
  let g2 := upF g1 (ix by_ 6) (g1 (ix by_ 6) + -claim)
  let g3 := upF g2 (ix by_ 9) (g2 (ix by_ 9) + (given - bid - claim))
  upF g3 (ix by_ 3) 1
def frS (n : Nat) (f : Fl) : Fl := upF (upF (upF f (ix n 13) 0) (ix n 14) 0) (ix n 15) 0
def endR (f : Fl) (by_ : Int64) (given bid gave : Int64) : Fl :=
  let k := 1153 + 4 * (f 5).toInt.toNat
  let g := upF (upF (upF (upF f k by_) (k + 1) given) (k + 2) bid) (k + 3) gave
  let g2 := itr nsS 60 (itr frS 60 g)
  let g3 := upF (upF g2 7 (-1)) 9 (-1)
  upF g3 5 (g3 5 + 1)
def drawF (f : Fl) : Fl :=
  let x := lacks f 60
  let inn := cellSum x.1 x.2 60
  let gave := if x.1 3 ≤ pur x.1 - inn then x.1 3 else pur x.1 - inn
  let g := upF x.1 3 (x.1 3 + -gave)
  match who g with
  | none => endR (upF g 3 (g 3 + (inn + gave))) (-1) (inn + gave) 0 gave
  | some b => endR (draws g b (inn + gave)) (lN b) (inn + gave) (dBid g b (inn + gave)) gave
def fDraw (f : Fl) : Int32 × Fl := if ¬ f 4 = 1 then (2, f) else if f 5 = f 6 then (8, f) else (0, drawF f)
def fDrawn (f : Fl) (k what : Int32) : Int64 := if k < 0 then -1 else if f 5 ≤ k.toInt64 then -1 else if what < 0 then -1 else if 3 < what then -1 else f (1153 + 4 * k.toNatClampNeg + what.toNatClampNeg)
/-- stopping -/
def bcS (n : Nat) (f : Fl) : Fl := upF (upF f (ix n 11) (f (ix n 11) + f (ix n 7))) (ix n 7) 0
def stop1 (f : Fl) (s : Nat) : Fl :=
  let g := upF (upF (cbS s f) (ix s 15) 0) (ix s 16) 0
  if g 9 = lN s then upF g 9 (-1) else g
def stOwed (g : Fl) (s : Nat) : Int64 := if g (ix s 3) = 1 then 0 else if 0 < g (ix s 8) - g 2 then g (ix s 8) - g 2 else 0
def stOwes (g : Fl) (s : Nat) : Int64 := if g (ix s 3) = 1 then g 1 * (g 6 - g 5) + g (ix s 5) else 0
def stop2 (g : Fl) (s : Nat) : Fl := bcS s (upF (upF (upF (upF g 8 (g 8 + 1)) (ix s 4) 1) (ix s 12) 0) (ix s 5) 0)
def fReplace (f : Fl) (so : Option Nat) (what : Int32) : Int32 × Fl :=
  if ¬ ag f so = 0 ∧ ¬ ag f so = 10 then (ag f so, f) else if ag f so = 0 then (8, f) else match so with
  | none => (0, f)
  | some s => if what < 2 ∨ 4 < what then (4, f) else (0, upF (upF (upF (upF (upF (upF (upF f (ix s 0) what.toInt64) (ix s 4) 0) (ix s 6) 0) (ix s 8) 0) (ix s 9) 0) (ix s 10) 0) (ix s 11) 0)
def clS (each : Int64) (s : Nat) (x : Fl × Int64) : Fl × Int64 := if isFu x.1 s then (upF x.1 (ix s 11) (x.1 (ix s 11) + (each + (if 0 < x.2 then 1 else 0))), x.2 - (if 0 < x.2 then 1 else 0)) else x
def clEnd (f : Fl) : Fl :=
  let n := lN (cnt (isFu f) 60)
  let left := if n = 0 then 0 else f 3 - f 3 / n * n
  let each := if n = 0 then 0 else f 3 / n
  let g := (itr (clS each) 60 (f, left)).1
  let g2 := if 0 < n then upF g 3 0 else g
  upF g2 4 2
def fFair (f : Fl) : Int32 :=
  if ¬ f 0 = 0 then -1 else if f 4 = 0 then -1 else if 0 < f 8 then -1 else
    match fnd (fun s => isFu f s && (decide (f (ix s 3) = 1) && !decide (f (ix s 9) = pur f))) 60 with | some _ => 0 | none => 1
def fldI (k : Nat) : Nat := match k with | 0 => 0 | 1 => 3 | 2 => 4 | 3 => 5 | 4 => 6 | 5 => 7 | 6 => 8 | 7 => 9 | 8 => 10 | 9 => 11 | 10 => 12 | _ => 2
def fLook (f : Fl) (so : Option Nat) (what : Int32) : Int64 := match so with
  | none => -1
  | some s => if what < 0 ∨ 11 < what then -1 else if 0 < what ∧ what < 11 ∧ isPl f s = false then -1 else f (ix s (fldI what.toNatClampNeg))
def fCount (f : Fl) (cop : Int64) (what : Int32) : Int64 :=
  if what = 0 then f 0 else if what = 1 then f 1 else if what = 2 then f 2 else if what = 3 then f 3 else if what = 4 then f 4 else if what = 5 then f 5 else if what = 6 then f 6 else if what = 7 then f 7 else if what = 8 then f 8 else if what = 9 then f 9
  else if what = 10 then said f 60 else if what = 11 then f 10 else if what = 12 then cop else if what = 13 then f 11 else -1
def newF (kind payment fine chest : Int32) : Fl := fun k =>
  if k = 0 then kind.toInt64 else if k = 1 then payment.toInt64 else if k = 2 then fine.toInt64 else if k = 3 then chest.toInt64 else if k = 7 then -1 else if k = 9 then -1 else if (13 ≤ k ∧ k < 1033 ∧ (k - 13) % 17 = 2) then -1 else 0
/-- the reference's heap with ring a's numbers put in -/
def mh (h : Hp) (M a : Nat) (f : Fl) : Hp := (h.1, (h.2.1, fun x y => if x = M + 1 ∧ 1393 * a ≤ y ∧ y < 1393 * a + 1393 then f (y - 1393 * a) else h.2.2 x y))
theorem mh_get {h : Hp} {M a b : Nat} {f : Fl} (hb : b < 1393) : (mh h M a f).l (M + 1) (1393 * a + b) = f b := by
  show (if M + 1 = M + 1 ∧ 1393 * a ≤ 1393 * a + b ∧ 1393 * a + b < 1393 * a + 1393 then f (1393 * a + b - 1393 * a) else _) = f b
  rw [if_pos ⟨rfl, by omega, by omega⟩, Nat.add_sub_cancel_left]
theorem mh_set {h : Hp} {M a b : Nat} {f : Fl} {v : Int64} (hb : b < 1393) : (mh h M a f).setL (M + 1) (1393 * a + b) v = mh h M a (upF f b v) := by
  unfold Hp.setL mh
  congr 1
  congr 1
  funext x y
  unfold up2 upF
  by_cases h1 : x = M + 1 ∧ y = 1393 * a + b
  · rw [if_pos h1]
    obtain ⟨rfl, rfl⟩ := h1
    rw [if_pos ⟨rfl, by omega, by omega⟩, if_pos (by omega)]
  · rw [if_neg h1]
    dsimp only
    by_cases h2 : x = M + 1 ∧ 1393 * a ≤ y ∧ y < 1393 * a + 1393
    · rw [if_pos h2, if_pos h2, if_neg (by omega)]
    · rw [if_neg h2, if_neg h2]
theorem mh_self {h : Hp} {M a : Nat} {f : Fl} (hf : ∀ b, b < 1393 → f b = h.l (M + 1) (1393 * a + b)) : mh h M a f = h := by
  obtain ⟨s, i, l⟩ := h
  unfold mh
  congr 2
  funext x y
  by_cases h2 : x = M + 1 ∧ 1393 * a ≤ y ∧ y < 1393 * a + 1393
  · rw [if_pos h2, hf _ (by omega)]
    show l (M + 1) _ = l x y
    rw [h2.1, show 1393 * a + (y - 1393 * a) = y by omega]
  · rw [if_neg h2]
theorem mh_mh {h : Hp} {M a : Nat} {f g : Fl} : mh (mh h M a f) M a g = mh h M a g := by
  unfold mh
  congr 2
  funext x y
  by_cases h2 : x = M + 1 ∧ 1393 * a ≤ y ∧ y < 1393 * a + 1393
  · rw [if_pos h2, if_pos h2]
  · rw [if_neg h2, if_neg h2]
    exact if_neg h2
