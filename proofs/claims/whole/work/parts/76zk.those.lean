/-! ===== most: the model's sets of zones ===== -/
section THOSE
variable {mo Z : Nat} {N M Ad : Nat → Nat → Int} {g : am_H}
theorem m_those (iv : IV N Z 3) (rl : RL N Ad true (fun _ => 0) 0 8) (f30 : M 3 0 = Z) (pk : ∀ g, mv mo M g = mv mo (drow M 8 (pack Ad)) g) (a b : Int) : am_cI 294 [am_R mo, am_I a, am_I b] (mv mo M g) = some (bitz (fun z => decide (N 2 z = a ∨ N 2 z = b)) Z, mv mo M g) := by
  have hZ8 := iv.pw.2.1
  have r2 : ∀ z : Nat, z < 8 → am_rd (mv mo M g) (mo + 8) 0 (0 + (z : Int)) = some (N 2 z) := fun z hz => by
    have r := mr2 (m := mo) (M := M) (A := Ad) (h := g) (c := 8) (by omega) (z := z) hz
    rw [← pk, rl.1.2.1] at r
    exact r
  have step : ∀ z : Nat, z < Z → am_run am_ms 294 5 [am_R mo, am_I a, am_I b, am_I (bitz (fun z => decide (N 2 z = a ∨ N 2 z = b)) z), am_I z] [] (mv mo M g) = am_run am_ms 294 5 [am_R mo, am_I a, am_I b, am_I (bitz (fun z => decide (N 2 z = a ∨ N 2 z = b)) (z + 1)), am_I ((z + 1 : Nat) : Int)] [] (mv mo M g) := by
    intro z hz
    have hr := bitz_r (fun z => decide (N 2 z = a ∨ N 2 z = b)) z (by omega)
    have es : bitz (fun z => decide (N 2 z = a ∨ N 2 z = b)) (z + 1) = if decide (N 2 z = a ∨ N 2 z = b) = true then am_or (bitz (fun z => decide (N 2 z = a ∨ N 2 z = b)) z) (am_shl 1 (z : Int)) else bitz (fun z => decide (N 2 z = a ∨ N 2 z = b)) z := rfl
    rw [es]
    clear es
    generalize bitz (fun z => decide (N 2 z = a ∨ N 2 z = b)) z = B at hr ⊢
    have ho := or_z hr.1 hr.2
    rw [bk_294_5]
    by_cases e : N 2 z = a
    · rw [if_pos (decide_eq_true (Or.inl e))]
      simp (disch := omega) only [bk_294_27, bk_294_43, bk_294_51, mv_f0_6, mv_f0_15, mv_c0, mv_r3, f30, nte0, r2, Option.bind_some, Bool.cond_decide, am_oI_some, am_oV_some, am_oI_ite, am_oV_ite, am_bind_ite, Int.toNat_natCast, Int.toNat_zero, Int.reduceToNat, ite_true, ite_false, not_true_eq_false, not_false_eq_true, decide_true, decide_false, decide_eq_true_eq, Bool.false_eq_true, Nat.add_zero, am_rok1_0, am_rok1_1, cond_true, cond_false, am_w_nat1, true_or, or_true, false_or, or_false, true_and, and_true, false_and, and_false, Int.reduceEq, Int.reduceNeg, Int.reduceLT, Int.reduceLE, or_self, and_self, if_pos, if_neg]
    · by_cases e2 : N 2 z = b
      · rw [if_pos (decide_eq_true (Or.inr e2))]
        simp (disch := omega) only [bk_294_27, bk_294_43, bk_294_51, mv_f0_6, mv_f0_15, mv_c0, mv_r3, f30, nte0, r2, Option.bind_some, Bool.cond_decide, am_oI_some, am_oV_some, am_oI_ite, am_oV_ite, am_bind_ite, Int.toNat_natCast, Int.toNat_zero, Int.reduceToNat, ite_true, ite_false, not_true_eq_false, not_false_eq_true, decide_true, decide_false, decide_eq_true_eq, Bool.false_eq_true, Nat.add_zero, am_rok1_0, am_rok1_1, cond_true, cond_false, am_w_nat1, true_or, or_true, false_or, or_false, true_and, and_true, false_and, and_false, Int.reduceEq, Int.reduceNeg, Int.reduceLT, Int.reduceLE, or_self, and_self, if_pos, if_neg]
      · rw [if_neg (fun t => (of_decide_eq_true t).elim e e2)]
        simp (disch := omega) only [bk_294_27, bk_294_50, bk_294_51, mv_f0_6, mv_f0_15, mv_c0, mv_r3, f30, nte0, r2, ho, Option.bind_some, Bool.cond_decide, am_oI_some, am_oV_some, am_oI_ite, am_oV_ite, am_bind_ite, Int.toNat_natCast, Int.toNat_zero, Int.reduceToNat, ite_true, ite_false, not_true_eq_false, not_false_eq_true, decide_true, decide_false, decide_eq_true_eq, Bool.false_eq_true, Nat.add_zero, am_rok1_0, am_rok1_1, cond_true, cond_false, am_w_nat1, true_or, or_true, false_or, or_false, true_and, and_true, false_and, and_false, Int.reduceEq, Int.reduceNeg, Int.reduceLT, Int.reduceLE, or_self, and_self, if_pos, if_neg]
  have key : am_run am_ms 294 5 [am_R mo, am_I a, am_I b, am_I 0, am_I 0] [] (mv mo M g) = am_run am_ms 294 5 [am_R mo, am_I a, am_I b, am_I (bitz (fun z => decide (N 2 z = a ∨ N 2 z = b)) Z), am_I Z] [] (mv mo M g) := loop_to (fun z : Nat => am_run am_ms 294 5 [am_R mo, am_I a, am_I b, am_I (bitz (fun z => decide (N 2 z = a ∨ N 2 z = b)) z), am_I z] [] (mv mo M g)) Z step
  rw [am_cI, en_294, bk_294_0, key, bk_294_5]
  simp (disch := omega) only [bk_294_59, mv_f0_6, mv_r3, f30, Option.bind_some, Bool.cond_decide, am_oI_some, am_oV_some, am_oI_ite, am_oV_ite, am_bind_ite, Int.toNat_natCast, Int.toNat_zero, Int.reduceToNat, ite_true, ite_false, not_true_eq_false, not_false_eq_true, decide_true, decide_false, decide_eq_true_eq, Bool.false_eq_true, Nat.add_zero, am_rok1_0, am_rok1_1, cond_true, cond_false, am_w_nat1, true_or, or_true, false_or, or_false, true_and, and_true, false_and, and_false, Int.reduceEq, Int.reduceNeg, Int.reduceLT, Int.reduceLE, or_self, and_self, if_pos, if_neg]
end THOSE
