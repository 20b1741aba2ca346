/-! the class: counting others, who is first in the order -/
def otP (h : Hp) (A : Nat) (s : Int32) (i : Nat) : Bool := !decide (nI i = s) && pGo h (A + 5 + 2 + i)
section
variable {cx : Cx} {h : Hp} {A : Nat}
theorem t_countOthers {s : Int32} (hA : RSh h.1 A) : DI cx mX2_countOthers 2 h [.ref A, .int s] (nI (cnt (otP h A s) 60)) h := by
  have hB := hA.2.2.2.2.2.1.2
  refine Sp.ofQ 2 (by decide) (Nat.le_of_ble_eq_true rfl) rfl (fun Q hQ => ?_)
  have L : ∀ N, N = 60 → J cx mX2_countOthers (Rm 2 0 0) h 4 [some (.ref A), some (.int s), some (.int (nI 0)), some (.int (nI 0))] [] 0 0 Q := by
    intro N hN
    refine dn (P := fun n => J cx mX2_countOthers (Rm 2 0 0) h 4 [some (.ref A), some (.int s), some (.int (nI (cnt (otP h A s) n))), some (.int (nI n))] [] 0 0 Q) N ?_ ?_
    · refine j_iload3 (pc := 4) dX2_countOthers_4 ?_
      refine j_bipush (pc := 5) (v := nI 60) dX2_countOthers_5 (by decide) ?_
      refine j_icmpN_ge (pc := 7) (tgt := 44) (by first | decide | omega) (by first | decide | omega) dX2_countOthers_7 (by decide) (fun c7 => ?_) (fun c7 => by omega)
      refine j_iload2 (pc := 44) dX2_countOthers_44 ?_
      refine j_iret (pc := 45) dX2_countOthers_45 rfl rfl ?_
      exact hQ _ _ ⟨_, rfl, by rw [hN], rfl⟩
    · intro n hn ih
      have hn6 : n < 60 := by omega
      have hp := (hB.2.2.2 n hn6).2
      have e : cnt (otP h A s) (n + 1) = cnt (otP h A s) n + (if otP h A s n then 1 else 0) := rfl
      rw [e] at ih
      have e1 : ¬ nI n = s → pGo h (A + 5 + 2 + n) = true → otP h A s n = true := fun a b => by unfold otP; rw [decide_eq_false a, b]; rfl
      have e2 : nI n = s → otP h A s n = false := fun a => by unfold otP; rw [decide_eq_true a]; rfl
      have e3 : pGo h (A + 5 + 2 + n) = false → otP h A s n = false := fun b => by unfold otP; rw [b, Bool.and_false]
      refine j_iload3 (pc := 4) dX2_countOthers_4 ?_
      refine j_bipush (pc := 5) (v := nI 60) dX2_countOthers_5 (by decide) ?_
      refine j_icmpN_ge (pc := 7) (tgt := 44) (by first | decide | omega) (by first | decide | omega) dX2_countOthers_7 (by decide) (fun c7 => by omega) (fun c7 => ?_)
      refine j_iload2 (pc := 10) dX2_countOthers_10 ?_
      refine j_iload3 (pc := 11) dX2_countOthers_11 ?_
      refine j_iload1 (pc := 12) dX2_countOthers_12 ?_
      refine j_icmp_eq (pc := 13) (tgt := 35) dX2_countOthers_13 (by decide) (fun c13 => ?_) (fun c13 => ?_)
      · refine j_iconst (pc := 35) (v := nI 0) dX2_countOthers_35 (by decide) ?_
        refine j_iaddN (pc := 36) dX2_countOthers_36 ?_
        refine j_istore2 (pc := 37) dX2_countOthers_37 (by decide) trivial ?_
        refine j_iincN3 (pc := 38) dX2_countOthers_38 (by decide) trivial ?_
        refine j_goto (pc := 41) (tgt := 4) dX2_countOthers_41 (by decide) ?_
        first | (rw [if_pos (e1 c13 c28)] at ih; exact ih) | (rw [if_neg (by rw [e2 c13]; decide)] at ih; exact ih) | (rw [if_neg (by rw [e3 c28]; decide)] at ih; exact ih)
      · refine j_aload0 (pc := 16) dX2_countOthers_16 ?_
        refine g_X2_42 (pc := 17) rfl hA.1 hA.2.2.2.2.2.1.1 dX2_countOthers_17 ?_
        refine g_X2_126 (pc := 20) rfl hA.2.2.2.2.2.1.2.1 hA.2.2.2.2.2.1.2.2.1 dX2_countOthers_20 ?_
        refine j_iload3 (pc := 23) dX2_countOthers_23 ?_
        refine j_aald (pc := 24) (by decide) hA.2.2.2.2.2.1.2.2.2.1 (pk_in n 60 hn6 rfl) (hB.r hn6) dX2_countOthers_24 ?_
        refine cd_X2_239 (pc := 25) rfl (t_isGoing hp) hp dX2_countOthers_25 rfl rfl ?_
        refine j_bif_eq (pc := 28) (tgt := 35) dX2_countOthers_28 (by decide) (fun c28 => ?_) (fun c28 => ?_)
        · refine j_iconst (pc := 35) (v := nI 0) dX2_countOthers_35 (by decide) ?_
          refine j_iaddN (pc := 36) dX2_countOthers_36 ?_
          refine j_istore2 (pc := 37) dX2_countOthers_37 (by decide) trivial ?_
          refine j_iincN3 (pc := 38) dX2_countOthers_38 (by decide) trivial ?_
          refine j_goto (pc := 41) (tgt := 4) dX2_countOthers_41 (by decide) ?_
          first | (rw [if_pos (e1 c13 c28)] at ih; exact ih) | (rw [if_neg (by rw [e2 c13]; decide)] at ih; exact ih) | (rw [if_neg (by rw [e3 c28]; decide)] at ih; exact ih)
        · refine j_iconst (pc := 31) (v := nI 1) dX2_countOthers_31 (by decide) ?_
          refine j_goto (pc := 32) (tgt := 36) dX2_countOthers_32 (by decide) ?_
          refine j_iaddN (pc := 36) dX2_countOthers_36 ?_
          refine j_istore2 (pc := 37) dX2_countOthers_37 (by decide) trivial ?_
          refine j_iincN3 (pc := 38) dX2_countOthers_38 (by decide) trivial ?_
          refine j_goto (pc := 41) (tgt := 4) dX2_countOthers_41 (by decide) ?_
          first | (rw [if_pos (e1 c13 c28)] at ih; exact ih) | (rw [if_neg (by rw [e2 c13]; decide)] at ih; exact ih) | (rw [if_neg (by rw [e3 c28]; decide)] at ih; exact ih)
  refine j_iconst (pc := 0) (v := nI 0) dX2_countOthers_0 (by decide) ?_
  refine j_istore2 (pc := 1) dX2_countOthers_1 (by decide) trivial ?_
  refine j_iconst (pc := 2) (v := nI 0) dX2_countOthers_2 (by decide) ?_
  refine j_istore3 (pc := 3) dX2_countOthers_3 (by decide) trivial ?_
  exact L 60 rfl
end

