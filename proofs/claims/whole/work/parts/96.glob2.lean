/-! the calls: class and reference answer alike -/
def Cal (cx : Cx) (mx mm : Mt) (h : Hp) (av : List Value) (X M K : Nat) : Prop := ∃ (y : Int32) (g g2 : Hp) (d1 d2 mc ms : Nat), d1 ≤ 9 ∧ d2 ≤ 9 ∧ mc ≤ 600 ∧ ms ≤ 5000 ∧ Sp cx mx d1 mc ms h (.ref X :: av) (Ri fun v k => v = y ∧ k = g) ∧ Sp cx mm d2 0 0 g (.ref M :: av) (Ri fun v k => v = y ∧ k = g2) ∧ g.kd M = kObj 5 ∧ GX g2 X M (K + 1)
def CalL (cx : Cx) (mx mm : Mt) (h : Hp) (av : List Value) (X M K : Nat) : Prop := ∃ (y : Int64) (g g2 : Hp) (d1 d2 mc ms : Nat), d1 ≤ 9 ∧ d2 ≤ 9 ∧ mc ≤ 600 ∧ ms ≤ 5000 ∧ Sp cx mx d1 mc ms h (.ref X :: av) (Rl fun v k => v = y ∧ k = g) ∧ Sp cx mm d2 0 0 g (.ref M :: av) (Rl fun v k => v = y ∧ k = g2) ∧ g.kd M = kObj 5 ∧ GX g2 X M (K + 1)
section
variable {cx : Cx} {h : Hp} {ow : Nat → Nat} {X M n C m K : Nat} {Aof : Nat → Nat} {Γ : Nat → Gh} {r : Int32}
theorem GI.cr (I : GI h ow X M n C m K Aof Γ) {a : Nat} (ha : a < n) : CR h ow a (Aof a) K (Γ a) := (I.2.2.2.2.2.2.2.2.1 a ha).2
theorem GI.a4 (I : GI h ow X M n C m K Aof Γ) {a : Nat} (ha : a < n) : a < 40 := Nat.lt_of_lt_of_le ha I.1.2.2.1
theorem ca_seat {s : Int32} {w : Int32} {x : Int32} (I : GI h ow X M n C m K Aof Γ) (hK : K < 512) : Cal cx mX4_seat mX5_seat h [.int r, .int s, .int w, .int x] X M K := by
  rcases I.ri r with ⟨p, q⟩ | ⟨a, ha, hr, p, q⟩
  · exact ⟨1, h, h, 1, 2, 0, 0, by decide, by decide, by decide, by decide, qn_seat I.2.1 I.2.2.1 I.1.2.2.1 p, sb_seat I.1.1 q, I.1.1.1, ⟨ow, n, C, m, Aof, Γ, I.mono hK⟩⟩
  · subst hr
    have R := I.cr ha
    obtain ⟨e1, S, O⟩ := so_seat (s := s) (w := w) (x := x) R.sm R.ok
    have R2 := R.fq hK fq_seat S O lk_seat
    obtain ⟨m1, fin⟩ := I.step hK ha R2 (R.oth fq_seat) (fun _ _ => rfl)
    have T : DI cx mX5_seat 2 (mh (rSeat h (Aof a) s w x).2 M a (Γ a).f) [.ref M, .int (nI a), .int s, .int w, .int x] (fSeat (Γ a).f (sN s) w x).1 (mh (rSeat h (Aof a) s w x).2 M a (fSeat (Γ a).f (sN s) w x).2) := s_seat m1.1 (I.a4 ha) (m1.ri ha)
    rw [← m1.self ha] at T
    have Tx : DI cx mX4_seat 2 h [.ref X, .int (nI a), .int s, .int w, .int x] (rSeat h (Aof a) s w x).1 (rSeat h (Aof a) s w x).2 := qs_seat I.2.1 I.2.2.1 I.1.2.2.1 p R.1 (t_seatOther R.1)
    rw [e1] at Tx
    exact ⟨_, _, _, 2, 2, 0, 0, by decide, by decide, by decide, by decide, Tx, T, m1.1.1, ⟨ow, n, C, m, Aof, _, fin _ C mh_fr.1 mh_fr.2.1 mh_fr.2.2 (m1.set ha hK)⟩⟩
theorem ca_answers {u : Int32} {s : Int32} (I : GI h ow X M n C m K Aof Γ) (hK : K < 512) : Cal cx mX4_answers mX5_answers h [.int r, .int u, .int s] X M K := by
  rcases I.ri r with ⟨p, q⟩ | ⟨a, ha, hr, p, q⟩
  · exact ⟨1, h, h, 1, 2, 0, 0, by decide, by decide, by decide, by decide, qn_answers I.2.1 I.2.2.1 I.1.2.2.1 p, sb_answers I.1.1 q, I.1.1.1, ⟨ow, n, C, m, Aof, Γ, I.mono hK⟩⟩
  · subst hr
    have R := I.cr ha
    obtain ⟨e1, S, O⟩ := so_answers (u := u) (s := s) R.sm R.ok
    have R2 := R.fq hK fq_ans S O lk_ans
    obtain ⟨m1, fin⟩ := I.step hK ha R2 (R.oth fq_ans) (fun _ _ => rfl)
    have T : DI cx mX5_answers 2 (mh (rAns h (Aof a) u s).2 M a (Γ a).f) [.ref M, .int (nI a), .int u, .int s] (fAnswers (Γ a).f (sN u) (sN s) u).1 (mh (rAns h (Aof a) u s).2 M a (fAnswers (Γ a).f (sN u) (sN s) u).2) := s_answers m1.1 (I.a4 ha) (m1.ri ha)
    rw [← m1.self ha] at T
    have Tx : DI cx mX4_answers 3 h [.ref X, .int (nI a), .int u, .int s] (rAns h (Aof a) u s).1 (rAns h (Aof a) u s).2 := qs_answers I.2.1 I.2.2.1 I.1.2.2.1 p R.1 (t_answerFor R.1)
    rw [e1] at Tx
    exact ⟨_, _, _, 3, 2, 0, 0, by decide, by decide, by decide, by decide, Tx, T, m1.1.1, ⟨ow, n, C, m, Aof, _, fin _ C mh_fr.1 mh_fr.2.1 mh_fr.2.2 (m1.set ha hK)⟩⟩
theorem ca_open (I : GI h ow X M n C m K Aof Γ) (hK : K < 512) : Cal cx mX4_open mX5_open h [.int r] X M K := by
  rcases I.ri r with ⟨p, q⟩ | ⟨a, ha, hr, p, q⟩
  · exact ⟨1, h, h, 1, 2, 0, 0, by decide, by decide, by decide, by decide, qn_open I.2.1 I.2.2.1 I.1.2.2.1 p, sb_open I.1.1 q, I.1.1.1, ⟨ow, n, C, m, Aof, Γ, I.mono hK⟩⟩
  · subst hr
    have R := I.cr ha
    obtain ⟨e1, S, O⟩ := so_open  R.sm R.ok
    have R2 := R.fq hK fq_beg S O (lk_beg R.ok)
    obtain ⟨m1, fin⟩ := I.step hK ha R2 (R.oth fq_beg) (fun _ _ => rfl)
    have T : DI cx mX5_open 2 (mh (rBeg h (Aof a)).2 M a (Γ a).f) [.ref M, .int (nI a)] (fOpen (Γ a).f).1 (mh (rBeg h (Aof a)).2 M a (fOpen (Γ a).f).2) := s_open m1.1 (I.a4 ha) (m1.ri ha) R.ok.su
    rw [← m1.self ha] at T
    have Tx : DI cx mX4_open 3 h [.ref X, .int (nI a)] (rBeg h (Aof a)).1 (rBeg h (Aof a)).2 := qs_open I.2.1 I.2.2.1 I.1.2.2.1 p R.1 (t_begin R.1)
    rw [e1] at Tx
    exact ⟨_, _, _, 3, 2, 0, 0, by decide, by decide, by decide, by decide, Tx, T, m1.1.1, ⟨ow, n, C, m, Aof, _, fin _ C mh_fr.1 mh_fr.2.1 mh_fr.2.2 (m1.set ha hK)⟩⟩
theorem ca_deposit {s : Int32} {x : Int32} (I : GI h ow X M n C m K Aof Γ) (hK : K < 512) : Cal cx mX4_deposit mX5_deposit h [.int r, .int s, .int x] X M K := by
  rcases I.ri r with ⟨p, q⟩ | ⟨a, ha, hr, p, q⟩
  · exact ⟨1, h, h, 1, 4, 0, 0, by decide, by decide, by decide, by decide, qn_deposit I.2.1 I.2.2.1 I.1.2.2.1 p, sb_deposit I.1.1 q, I.1.1.1, ⟨ow, n, C, m, Aof, Γ, I.mono hK⟩⟩
  · subst hr
    have R := I.cr ha
    obtain ⟨e1, S, O⟩ := so_deposit (s := s) (x := x) R.sm R.ok
    have R2 := R.fq hK fq_dep S O lk_dep
    obtain ⟨m1, fin⟩ := I.step hK ha R2 (R.oth fq_dep) (fun _ _ => rfl)
    have T : DI cx mX5_deposit 4 (mh (rDep h (Aof a) s x).2 M a (Γ a).f) [.ref M, .int (nI a), .int s, .int x] (fDeposit (Γ a).f (sN s) x).1 (mh (rDep h (Aof a) s x).2 M a (fDeposit (Γ a).f (sN s) x).2) := s_deposit m1.1 (I.a4 ha) (m1.ri ha)
    rw [← m1.self ha] at T
    have Tx : DI cx mX4_deposit 4 h [.ref X, .int (nI a), .int s, .int x] (rDep h (Aof a) s x).1 (rDep h (Aof a) s x).2 := qs_deposit I.2.1 I.2.2.1 I.1.2.2.1 p R.1 (t_addDeposit R.1)
    rw [e1] at Tx
    exact ⟨_, _, _, 4, 4, 0, 0, by decide, by decide, by decide, by decide, Tx, T, m1.1.1, ⟨ow, n, C, m, Aof, _, fin _ C mh_fr.1 mh_fr.2.1 mh_fr.2.2 (m1.set ha hK)⟩⟩
theorem ca_row {s : Int32} (I : GI h ow X M n C m K Aof Γ) (hK : K < 512) : Cal cx mX4_row mX5_row h [.int r, .int s] X M K := by
  rcases I.ri r with ⟨p, q⟩ | ⟨a, ha, hr, p, q⟩
  · exact ⟨1, h, h, 1, 3, 0, 0, by decide, by decide, by decide, by decide, qn_row I.2.1 I.2.2.1 I.1.2.2.1 p, sb_row I.1.1 q, I.1.1.1, ⟨ow, n, C, m, Aof, Γ, I.mono hK⟩⟩
  · subst hr
    have R := I.cr ha
    obtain ⟨e1, S, O⟩ := so_row (n := s) R.sm R.ok
    have R2 := R.fq hK fq_row S O lk_row
    obtain ⟨m1, fin⟩ := I.step hK ha R2 (R.oth fq_row) (fun _ _ => rfl)
    have T : DI cx mX5_row 3 (mh (rRow h (Aof a) s).2 M a (Γ a).f) [.ref M, .int (nI a), .int s] (fRow (Γ a).f s).1 (mh (rRow h (Aof a) s).2 M a (fRow (Γ a).f s).2) := s_row m1.1 (I.a4 ha) (m1.ri ha)
    rw [← m1.self ha] at T
    have Tx : DI cx mX4_row 4 h [.ref X, .int (nI a), .int s] (rRow h (Aof a) s).1 (rRow h (Aof a) s).2 := qs_row I.2.1 I.2.2.1 I.1.2.2.1 p R.1 (t_layRow R.1)
    rw [e1] at Tx
    exact ⟨_, _, _, 4, 3, 0, 0, by decide, by decide, by decide, by decide, Tx, T, m1.1.1, ⟨ow, n, C, m, Aof, _, fin _ C mh_fr.1 mh_fr.2.1 mh_fr.2.2 (m1.set ha hK)⟩⟩
theorem ca_tear (I : GI h ow X M n C m K Aof Γ) (hK : K < 512) : Cal cx mX4_tear mX5_tear h [.int r] X M K := by
  rcases I.ri r with ⟨p, q⟩ | ⟨a, ha, hr, p, q⟩
  · exact ⟨1, h, h, 1, 3, 0, 0, by decide, by decide, by decide, by decide, qn_tear I.2.1 I.2.2.1 I.1.2.2.1 p, sb_tear I.1.1 q, I.1.1.1, ⟨ow, n, C, m, Aof, Γ, I.mono hK⟩⟩
  · subst hr
    have R := I.cr ha
    obtain ⟨e1, S, O⟩ := so_tear  R.sm R.ok
    have R2 := R.fq hK fq_tear S O lk_tear
    obtain ⟨m1, fin⟩ := I.step hK ha R2 (R.oth fq_tear) (fun _ _ => rfl)
    have T : DI cx mX5_tear 3 (mh (rTear h (Aof a)).2 M a (Γ a).f) [.ref M, .int (nI a)] (fTear (Γ a).f).1 (mh (rTear h (Aof a)).2 M a (fTear (Γ a).f).2) := s_tear m1.1 (I.a4 ha) (m1.ri ha)
    rw [← m1.self ha] at T
    have Tx : DI cx mX4_tear 4 h [.ref X, .int (nI a)] (rTear h (Aof a)).1 (rTear h (Aof a)).2 := qs_tear I.2.1 I.2.2.1 I.1.2.2.1 p R.1 (t_tearRow R.1)
    rw [e1] at Tx
    exact ⟨_, _, _, 4, 3, 0, 0, by decide, by decide, by decide, by decide, Tx, T, m1.1.1, ⟨ow, n, C, m, Aof, _, fin _ C mh_fr.1 mh_fr.2.1 mh_fr.2.2 (m1.set ha hK)⟩⟩
theorem ca_pay {s : Int32} {x : Int32} (I : GI h ow X M n C m K Aof Γ) (hK : K < 512) : Cal cx mX4_pay mX5_pay h [.int r, .int s, .int x] X M K := by
  rcases I.ri r with ⟨p, q⟩ | ⟨a, ha, hr, p, q⟩
  · exact ⟨1, h, h, 1, 4, 0, 0, by decide, by decide, by decide, by decide, qn_pay I.2.1 I.2.2.1 I.1.2.2.1 p, sb_pay I.1.1 q, I.1.1.1, ⟨ow, n, C, m, Aof, Γ, I.mono hK⟩⟩
  · subst hr
    have R := I.cr ha
    obtain ⟨e1, S, O⟩ := so_pay (s := s) (x := x) R.sm R.ok
    have R2 := R.fq hK fq_pay S O lk_pay
    obtain ⟨m1, fin⟩ := I.step hK ha R2 (R.oth fq_pay) (fun _ _ => rfl)
    have T : DI cx mX5_pay 4 (mh (rPayIn h (Aof a) s x).2 M a (Γ a).f) [.ref M, .int (nI a), .int s, .int x] (fPay (Γ a).f (sN s) x).1 (mh (rPayIn h (Aof a) s x).2 M a (fPay (Γ a).f (sN s) x).2) := s_pay m1.1 (I.a4 ha) (m1.ri ha)
    rw [← m1.self ha] at T
    have Tx : DI cx mX4_pay 4 h [.ref X, .int (nI a), .int s, .int x] (rPayIn h (Aof a) s x).1 (rPayIn h (Aof a) s x).2 := qs_pay I.2.1 I.2.2.1 I.1.2.2.1 p R.1 (t_payIn R.1)
    rw [e1] at Tx
    exact ⟨_, _, _, 4, 4, 0, 0, by decide, by decide, by decide, by decide, Tx, T, m1.1.1, ⟨ow, n, C, m, Aof, _, fin _ C mh_fr.1 mh_fr.2.1 mh_fr.2.2 (m1.set ha hK)⟩⟩
theorem ca_late {s : Int32} (I : GI h ow X M n C m K Aof Γ) (hK : K < 512) : Cal cx mX4_late mX5_late h [.int r, .int s] X M K := by
  rcases I.ri r with ⟨p, q⟩ | ⟨a, ha, hr, p, q⟩
  · exact ⟨1, h, h, 1, 4, 0, 0, by decide, by decide, by decide, by decide, qn_late I.2.1 I.2.2.1 I.1.2.2.1 p, sb_late I.1.1 q, I.1.1.1, ⟨ow, n, C, m, Aof, Γ, I.mono hK⟩⟩
  · subst hr
    have R := I.cr ha
    obtain ⟨e1, S, O⟩ := so_late (s := s) R.sm R.ok (by omega)
    have R2 := R.fq hK fq_late S O lk_late
    obtain ⟨m1, fin⟩ := I.step hK ha R2 (R.oth fq_late) (fun _ _ => rfl)
    have T : DI cx mX5_late 4 (mh (rLate h (Aof a) s).2 M a (Γ a).f) [.ref M, .int (nI a), .int s] (fLate (Γ a).f (sN s)).1 (mh (rLate h (Aof a) s).2 M a (fLate (Γ a).f (sN s)).2) := s_late m1.1 (I.a4 ha) (m1.ri ha)
    rw [← m1.self ha] at T
    have Tx : DI cx mX4_late 4 h [.ref X, .int (nI a), .int s] (rLate h (Aof a) s).1 (rLate h (Aof a) s).2 := qs_late I.2.1 I.2.2.1 I.1.2.2.1 p R.1 (t_payDebt R.1)
    rw [e1] at Tx
    exact ⟨_, _, _, 4, 4, 0, 0, by decide, by decide, by decide, by decide, Tx, T, m1.1.1, ⟨ow, n, C, m, Aof, _, fin _ C mh_fr.1 mh_fr.2.1 mh_fr.2.2 (m1.set ha hK)⟩⟩
theorem ca_bid {s : Int32} {b : Int64} (I : GI h ow X M n C m K Aof Γ) (hK : K < 512) : Cal cx mX4_bid mX5_bid h [.int r, .int s, .long b] X M K := by
  rcases I.ri r with ⟨p, q⟩ | ⟨a, ha, hr, p, q⟩
  · exact ⟨1, h, h, 1, 4, 0, 0, by decide, by decide, by decide, by decide, qn_bid I.2.1 I.2.2.1 I.1.2.2.1 p, sb_bid I.1.1 q, I.1.1.1, ⟨ow, n, C, m, Aof, Γ, I.mono hK⟩⟩
  · subst hr
    have R := I.cr ha
    obtain ⟨e1, S, O⟩ := so_bid (s := s) (b := b) R.sm R.ok
    have R2 := R.fq hK fq_bid S O lk_bid
    obtain ⟨m1, fin⟩ := I.step hK ha R2 (R.oth fq_bid) (fun _ _ => rfl)
    have T : DI cx mX5_bid 4 (mh (rBid h (Aof a) s b).2 M a (Γ a).f) [.ref M, .int (nI a), .int s, .long b] (fBid (Γ a).f (sN s) b).1 (mh (rBid h (Aof a) s b).2 M a (fBid (Γ a).f (sN s) b).2) := s_bid m1.1 (I.a4 ha) (m1.ri ha)
    rw [← m1.self ha] at T
    have Tx : DI cx mX4_bid 5 h [.ref X, .int (nI a), .int s, .long b] (rBid h (Aof a) s b).1 (rBid h (Aof a) s b).2 := qs_bid I.2.1 I.2.2.1 I.1.2.2.1 p R.1 (t_takeBid R.1)
    rw [e1] at Tx
    exact ⟨_, _, _, 5, 4, 0, 0, by decide, by decide, by decide, by decide, Tx, T, m1.1.1, ⟨ow, n, C, m, Aof, _, fin _ C mh_fr.1 mh_fr.2.1 mh_fr.2.2 (m1.set ha hK)⟩⟩
theorem ca_need {s : Int32} (I : GI h ow X M n C m K Aof Γ) (hK : K < 512) : Cal cx mX4_need mX5_need h [.int r, .int s] X M K := by
  rcases I.ri r with ⟨p, q⟩ | ⟨a, ha, hr, p, q⟩
  · exact ⟨1, h, h, 1, 4, 0, 0, by decide, by decide, by decide, by decide, qn_need I.2.1 I.2.2.1 I.1.2.2.1 p, sb_need I.1.1 q, I.1.1.1, ⟨ow, n, C, m, Aof, Γ, I.mono hK⟩⟩
  · subst hr
    have R := I.cr ha
    obtain ⟨e1, S, O⟩ := so_need (s := s) R.sm R.ok
    have R2 := R.fq hK fq_need S O lk_need
    obtain ⟨m1, fin⟩ := I.step hK ha R2 (R.oth fq_need) (fun _ _ => rfl)
    have T : DI cx mX5_need 4 (mh (rAsk h (Aof a) s).2 M a (Γ a).f) [.ref M, .int (nI a), .int s] (fNeed (Γ a).f (sN s)).1 (mh (rAsk h (Aof a) s).2 M a (fNeed (Γ a).f (sN s)).2) := s_need m1.1 (I.a4 ha) (m1.ri ha)
    rw [← m1.self ha] at T
    have Tx : DI cx mX4_need 5 h [.ref X, .int (nI a), .int s] (rAsk h (Aof a) s).1 (rAsk h (Aof a) s).2 := qs_need I.2.1 I.2.2.1 I.1.2.2.1 p R.1 (t_ask R.1)
    rw [e1] at Tx
    exact ⟨_, _, _, 5, 4, 0, 0, by decide, by decide, by decide, by decide, Tx, T, m1.1.1, ⟨ow, n, C, m, Aof, _, fin _ C mh_fr.1 mh_fr.2.1 mh_fr.2.2 (m1.set ha hK)⟩⟩
theorem ca_yes {s : Int32} (I : GI h ow X M n C m K Aof Γ) (hK : K < 512) : Cal cx mX4_yes mX5_yes h [.int r, .int s] X M K := by
  rcases I.ri r with ⟨p, q⟩ | ⟨a, ha, hr, p, q⟩
  · exact ⟨1, h, h, 1, 4, 0, 0, by decide, by decide, by decide, by decide, qn_yes I.2.1 I.2.2.1 I.1.2.2.1 p, sb_yes I.1.1 q, I.1.1.1, ⟨ow, n, C, m, Aof, Γ, I.mono hK⟩⟩
  · subst hr
    have R := I.cr ha
    obtain ⟨e1, S, O⟩ := so_yes (s := s) R.sm R.ok
    have R2 := R.fq hK fq_yes S O lk_yes
    obtain ⟨m1, fin⟩ := I.step hK ha R2 (R.oth fq_yes) (fun _ _ => rfl)
    have T : DI cx mX5_yes 4 (mh (rYes h (Aof a) s).2 M a (Γ a).f) [.ref M, .int (nI a), .int s] (fYes (Γ a).f (sN s)).1 (mh (rYes h (Aof a) s).2 M a (fYes (Γ a).f (sN s)).2) := s_yes m1.1 (I.a4 ha) (m1.ri ha)
    rw [← m1.self ha] at T
    have Tx : DI cx mX4_yes 4 h [.ref X, .int (nI a), .int s] (rYes h (Aof a) s).1 (rYes h (Aof a) s).2 := qs_yes I.2.1 I.2.2.1 I.1.2.2.1 p R.1 (t_sayYes R.1)
    rw [e1] at Tx
    exact ⟨_, _, _, 4, 4, 0, 0, by decide, by decide, by decide, by decide, Tx, T, m1.1.1, ⟨ow, n, C, m, Aof, _, fin _ C mh_fr.1 mh_fr.2.1 mh_fr.2.2 (m1.set ha hK)⟩⟩
theorem ca_replace {s : Int32} {w : Int32} (I : GI h ow X M n C m K Aof Γ) (hK : K < 512) : Cal cx mX4_replace mX5_replace h [.int r, .int s, .int w] X M K := by
  rcases I.ri r with ⟨p, q⟩ | ⟨a, ha, hr, p, q⟩
  · exact ⟨1, h, h, 1, 4, 0, 0, by decide, by decide, by decide, by decide, qn_replace I.2.1 I.2.2.1 I.1.2.2.1 p, sb_replace I.1.1 q, I.1.1.1, ⟨ow, n, C, m, Aof, Γ, I.mono hK⟩⟩
  · subst hr
    have R := I.cr ha
    obtain ⟨e1, S, O⟩ := so_replace (s := s) (w := w) R.sm R.ok
    have R2 := R.fq hK fq_rep S O lk_rep
    obtain ⟨m1, fin⟩ := I.step hK ha R2 (R.oth fq_rep) (fun _ _ => rfl)
    have T : DI cx mX5_replace 4 (mh (rRep h (Aof a) s w).2 M a (Γ a).f) [.ref M, .int (nI a), .int s, .int w] (fReplace (Γ a).f (sN s) w).1 (mh (rRep h (Aof a) s w).2 M a (fReplace (Γ a).f (sN s) w).2) := s_replace m1.1 (I.a4 ha) (m1.ri ha)
    rw [← m1.self ha] at T
    have Tx : DI cx mX4_replace 4 h [.ref X, .int (nI a), .int s, .int w] (rRep h (Aof a) s w).1 (rRep h (Aof a) s w).2 := qs_replace I.2.1 I.2.2.1 I.1.2.2.1 p R.1 (t_replacePlace R.1)
    rw [e1] at Tx
    exact ⟨_, _, _, 4, 4, 0, 0, by decide, by decide, by decide, by decide, Tx, T, m1.1.1, ⟨ow, n, C, m, Aof, _, fin _ C mh_fr.1 mh_fr.2.1 mh_fr.2.2 (m1.set ha hK)⟩⟩
theorem ca_order {s : Int32} (I : GI h ow X M n C m K Aof Γ) (hK : K < 512) : Cal cx mX4_order mX5_order h [.int r, .int s] X M K := by
  rcases I.ri r with ⟨p, q⟩ | ⟨a, ha, hr, p, q⟩
  · exact ⟨1, h, h, 1, 2, 0, 0, by decide, by decide, by decide, by decide, qn_order I.2.1 I.2.2.1 I.1.2.2.1 p, sb_order I.1.1 q, I.1.1.1, ⟨ow, n, C, m, Aof, Γ, I.mono hK⟩⟩
  · subst hr
    have R := I.cr ha
    obtain ⟨T, hT6, h12, hT, -⟩ := Ok.T R.sm R.ok
    obtain ⟨R2, oth, e1⟩ := cr_order (s := s) R hK hT hT6 h12
    obtain ⟨m1, fin⟩ := I.step hK ha R2 oth (fun _ _ => rfl)
    have T2 : DI cx mX5_order 2 (mh (rTell h (Aof a) s T).2 M a (Γ a).f) [.ref M, .int (nI a), .int s] (fOrder (Γ a).f (sN s)).1 (mh (rTell h (Aof a) s T).2 M a (fOrder (Γ a).f (sN s)).2) := s_order m1.1 (I.a4 ha) (m1.ri ha) h12 hT6 (toD.room R.ok h12 hT6)
    rw [← m1.self ha] at T2
    have Tx : DI cx mX4_order 3 h [.ref X, .int (nI a), .int s] (rTell h (Aof a) s T).1 (rTell h (Aof a) s T).2 := qs_order I.2.1 I.2.2.1 I.1.2.2.1 p R.1 (t_tellNext R.1 hT hT6)
    rw [e1] at Tx
    exact ⟨_, _, _, 3, 2, 0, 0, by decide, by decide, by decide, by decide, Tx, T2, m1.1.1, ⟨ow, n, C, m, Aof, _, fin _ C mh_fr.1 mh_fr.2.1 mh_fr.2.2 (m1.set ha hK)⟩⟩
theorem ca_lot {x : Int32} (I : GI h ow X M n C m K Aof Γ) (hK : K < 512) : Cal cx mX4_lot mX5_lot h [.int r, .int x] X M K := by
  rcases I.ri r with ⟨p, q⟩ | ⟨a, ha, hr, p, q⟩
  · exact ⟨1, h, h, 1, 2, 0, 0, by decide, by decide, by decide, by decide, qn_lot I.2.1 I.2.2.1 I.1.2.2.1 p, sb_lot I.1.1 q, I.1.1.1, ⟨ow, n, C, m, Aof, Γ, I.mono hK⟩⟩
  · subst hr
    have R := I.cr ha
    obtain ⟨T, hT6, h12, hT⟩ := Ok.L R.sm R.ok
    obtain ⟨R2, oth, e1⟩ := cr_lot (x := x) R hK hT hT6 h12
    obtain ⟨m1, fin⟩ := I.step hK ha R2 oth (fun _ _ => rfl)
    have T2 : DI cx mX5_lot 2 (mh (rLot h (Aof a) x T).2 M a (Γ a).f) [.ref M, .int (nI a), .int x] (fLot (Γ a).f x).1 (mh (rLot h (Aof a) x T).2 M a (fLot (Γ a).f x).2) := s_lot m1.1 (I.a4 ha) (m1.ri ha) h12 hT6
    rw [← m1.self ha] at T2
    have Tx : DI cx mX4_lot 1 h [.ref X, .int (nI a), .int x] (rLot h (Aof a) x T).1 (rLot h (Aof a) x T).2 := qs_lot I.2.1 I.2.2.1 I.1.2.2.1 p R.1 (t_tellLot R.1 hT hT6)
    rw [e1] at Tx
    exact ⟨_, _, _, 1, 2, 0, 0, by decide, by decide, by decide, by decide, Tx, T2, m1.1.1, ⟨ow, n, C, m, Aof, _, fin _ C mh_fr.1 mh_fr.2.1 mh_fr.2.2 (m1.set ha hK)⟩⟩
theorem ca_letter {s : Int32} (I : GI h ow X M n C m K Aof Γ) (hK : K < 512) : Cal cx mX4_letter mX5_letter h [.int r, .int s] X M K := by
  rcases I.ri r with ⟨p, q⟩ | ⟨a, ha, hr, p, q⟩
  · exact ⟨0, h, h, 1, 2, 0, 0, by decide, by decide, by decide, by decide, qn_letter I.2.1 I.2.2.1 I.1.2.2.1 p, sb_letter I.1.1 q, I.1.1.1, ⟨ow, n, C, m, Aof, Γ, I.mono hK⟩⟩
  · subst hr
    have R := I.cr ha
    have T : DI cx mX5_letter 2 (mh h M a (Γ a).f) [.ref M, .int (nI a), .int s] (fLetter (Γ a).f (sN s)) (mh h M a (Γ a).f) := s_letter I.1.1 (I.a4 ha) (I.1.ri ha)
    rw [← I.1.self ha] at T
    have Tx : DI cx mX4_letter 2 h [.ref X, .int (nI a), .int s] _ h := qs_letter I.2.1 I.2.2.1 I.1.2.2.1 p R.1 (t_letterOn R.1.2.2.2.2.2.1.2)
    rw [so_letter R.sm] at Tx
    exact ⟨_, _, _, 2, 2, 0, 0, by decide, by decide, by decide, by decide, Tx, T, I.1.1.1, ⟨ow, n, C, m, Aof, Γ, I.mono hK⟩⟩
theorem ca_came {s : Int32} (I : GI h ow X M n C m K Aof Γ) (hK : K < 512) : Cal cx mX4_came mX5_came h [.int r, .int s] X M K := by
  rcases I.ri r with ⟨p, q⟩ | ⟨a, ha, hr, p, q⟩
  · exact ⟨(-1), h, h, 1, 2, 0, 0, by decide, by decide, by decide, by decide, qn_came I.2.1 I.2.2.1 I.1.2.2.1 p, sb_came I.1.1 q, I.1.1.1, ⟨ow, n, C, m, Aof, Γ, I.mono hK⟩⟩
  · subst hr
    have R := I.cr ha
    have T : DI cx mX5_came 2 (mh h M a (Γ a).f) [.ref M, .int (nI a), .int s] (fCame (Γ a).f (sN s)) (mh h M a (Γ a).f) := s_came I.1.1 (I.a4 ha) (I.1.ri ha)
    rw [← I.1.self ha] at T
    have Tx : DI cx mX4_came 2 h [.ref X, .int (nI a), .int s] _ h := qs_came I.2.1 I.2.2.1 I.1.2.2.1 p R.1 (t_cellOf R.1.2.2.2.2.2.1.2)
    rw [so_came R.sm] at Tx
    exact ⟨_, _, _, 2, 2, 0, 0, by decide, by decide, by decide, by decide, Tx, T, I.1.1.1, ⟨ow, n, C, m, Aof, Γ, I.mono hK⟩⟩
theorem ca_fair (I : GI h ow X M n C m K Aof Γ) (hK : K < 512) : Cal cx mX4_fair mX5_fair h [.int r] X M K := by
  rcases I.ri r with ⟨p, q⟩ | ⟨a, ha, hr, p, q⟩
  · exact ⟨(-1), h, h, 1, 4, 0, 0, by decide, by decide, by decide, by decide, qn_fair I.2.1 I.2.2.1 I.1.2.2.1 p, sb_fair I.1.1 q, I.1.1.1, ⟨ow, n, C, m, Aof, Γ, I.mono hK⟩⟩
  · subst hr
    have R := I.cr ha
    have T : DI cx mX5_fair 4 (mh h M a (Γ a).f) [.ref M, .int (nI a)] (fFair (Γ a).f) (mh h M a (Γ a).f) := s_fair I.1.1 (I.a4 ha) (I.1.ri ha)
    rw [← I.1.self ha] at T
    have Tx : DI cx mX4_fair 2 h [.ref X, .int (nI a)] _ h := qs_fair I.2.1 I.2.2.1 I.1.2.2.1 p R.1 (t_fairness R.1)
    rw [so_fair R.sm R.ok (by omega)] at Tx
    exact ⟨_, _, _, 2, 4, 0, 0, by decide, by decide, by decide, by decide, Tx, T, I.1.1.1, ⟨ow, n, C, m, Aof, Γ, I.mono hK⟩⟩
theorem ca_drawn {s : Int32} {w : Int32} (I : GI h ow X M n C m K Aof Γ) (hK : K < 512) : CalL cx mX4_drawn mX5_drawn h [.int r, .int s, .int w] X M K := by
  rcases I.ri r with ⟨p, q⟩ | ⟨a, ha, hr, p, q⟩
  · exact ⟨(-1), h, h, 1, 1, 0, 0, by decide, by decide, by decide, by decide, qn_drawn I.2.1 I.2.2.1 I.1.2.2.1 p, sb_drawn I.1.1 q, I.1.1.1, ⟨ow, n, C, m, Aof, Γ, I.mono hK⟩⟩
  · subst hr
    have R := I.cr ha
    have T : DL cx mX5_drawn 1 (mh h M a (Γ a).f) [.ref M, .int (nI a), .int s, .int w] (fDrawn (Γ a).f s w) (mh h M a (Γ a).f) := s_drawn I.1.1 (I.a4 ha) (I.1.ri ha) R.f5 R.2.2.2.2.1.2.1
    rw [← I.1.self ha] at T
    have Tx : DL cx mX4_drawn 2 h [.ref X, .int (nI a), .int s, .int w] _ h := qs_drawn I.2.1 I.2.2.1 I.1.2.2.1 p R.1 (t_keptOf R.1 R.hr R.2.2.2.2.1.2.1)
    rw [so_drawn R.sm R.hr R.f5 R.2.2.2.2.1.2.1] at Tx
    exact ⟨_, _, _, 2, 1, 0, 0, by decide, by decide, by decide, by decide, Tx, T, I.1.1.1, ⟨ow, n, C, m, Aof, Γ, I.mono hK⟩⟩
theorem ca_look {s : Int32} {w : Int32} (I : GI h ow X M n C m K Aof Γ) (hK : K < 512) : CalL cx mX4_look mX5_look h [.int r, .int s, .int w] X M K := by
  rcases I.ri r with ⟨p, q⟩ | ⟨a, ha, hr, p, q⟩
  · exact ⟨(-1), h, h, 1, 3, 0, 0, by decide, by decide, by decide, by decide, qn_look I.2.1 I.2.2.1 I.1.2.2.1 p, s_lookN I.1.1 q, I.1.1.1, ⟨ow, n, C, m, Aof, Γ, I.mono hK⟩⟩
  · subst hr
    have R := I.cr ha
    have T : DL cx mX5_look 3 (mh h M a (Γ a).f) [.ref M, .int (nI a), .int s, .int w] (fLook (Γ a).f (sN s) w) (mh h M a (Γ a).f) := s_look I.1.1 (I.a4 ha) (I.1.ri ha)
    rw [← I.1.self ha] at T
    have Tx : DL cx mX4_look 4 h [.ref X, .int (nI a), .int s, .int w] _ h := qs_look I.2.1 I.2.2.1 I.1.2.2.1 p R.1 (t_bValueOf R.1.2.2.2.2.2.1.2)
    rw [so_look R.sm R.ok] at Tx
    exact ⟨_, _, _, 4, 3, 0, 0, by decide, by decide, by decide, by decide, Tx, T, I.1.1.1, ⟨ow, n, C, m, Aof, Γ, I.mono hK⟩⟩
end

