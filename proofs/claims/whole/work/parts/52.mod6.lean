/-! ===== THE MODEL: scores ===== -/
def ml_score (A : Nat → Nat → Int) (Z z : Nat) (p : Int) : Int := if p = 1 then am_w (am_ldiv (am_q ((am_q (1000 * ml_dead A Z z)) * ml_age A z)) (A 0 1 + ml_nl A Z z)) else if p = 2 then ml_age A z else if p = 0 then ml_dead A Z z else am_w ((am_w (20 * (am_w (1000 - A 4 z)))) + ml_dead A Z z)
section MOD6
variable {m c : Nat} {M A : Nat → Nat → Int} {h : am_H} {Z : Nat}
theorem m_scoreOf (hc : 8 ≤ c ∧ c ≤ 11) (hr : MR M A) (w : AW A Z) (hcap : 0 < A 0 1) {z : Nat} (hz : z < 8) (p : Int) : am_cI 118 [am_R m, am_R (m + c), am_I z, am_I p] (mv m (drow M c (pack A)) h) = some (ml_score A Z z p, (mv m (drow M c (pack A)) h)) := by
  have c1 := m_liveIn (m := m) (h := h) hc hr w hz
  have c2 := m_ageOf (m := m) (M := M) (h := h) hc w hz
  have h1 := ml_nl_le w hz
  have h2 := w.2.2.1
  have r1 := hr.2.1
  have ew : am_w (A 0 1 - ml_nl A Z z) = ml_dead A Z z := am_w_id (by omega) (by omega)
  have ew' : am_w (A 0 1 + ml_nl A Z z) = A 0 1 + ml_nl A Z z := am_w_id (by omega) (by omega)
  unfold ml_score
  rw [am_cI, en_118, bk_118_0]
  by_cases p1 : p = 1
  · have et : am_tsw 20 66 0 2 #[28, 31, 59] p = 51 := by rw [p1]; rfl
    simp (disch := omega) only [bk_118_20, bk_118_48, bk_118_51, bk_118_72, bk_118_79, bk_118_86, c1, c2, r1, ew, ew', et, mv_c0, mv_f0_6, mv_r3, mr4, drow_o, Option.bind_some, Bool.cond_decide, am_oI_some, am_oV_some, am_oI_ite, am_oV_ite, am_bind_ite, Int.toNat_natCast, Int.toNat_zero, Int.reduceToNat, ite_true, ite_false, not_true_eq_false, not_false_eq_true, decide_true, decide_false, decide_eq_true_eq, Bool.false_eq_true, Nat.add_zero, am_rok1_0, am_rok1_1, cond_true, cond_false, am_w_nat1, true_or, or_true, false_or, or_false, true_and, and_true, false_and, and_false, Int.reduceEq, Int.reduceNeg, Int.reduceLT, Int.reduceLE, or_self, and_self, if_pos, if_neg]
  · by_cases p2 : p = 2
    · have et : am_tsw 20 66 0 2 #[28, 31, 59] p = 79 := by rw [p2]; rfl
      simp (disch := omega) only [bk_118_20, bk_118_48, bk_118_51, bk_118_72, bk_118_79, bk_118_86, c1, c2, r1, ew, ew', et, mv_c0, mv_f0_6, mv_r3, mr4, drow_o, Option.bind_some, Bool.cond_decide, am_oI_some, am_oV_some, am_oI_ite, am_oV_ite, am_bind_ite, Int.toNat_natCast, Int.toNat_zero, Int.reduceToNat, ite_true, ite_false, not_true_eq_false, not_false_eq_true, decide_true, decide_false, decide_eq_true_eq, Bool.false_eq_true, Nat.add_zero, am_rok1_0, am_rok1_1, cond_true, cond_false, am_w_nat1, true_or, or_true, false_or, or_false, true_and, and_true, false_and, and_false, Int.reduceEq, Int.reduceNeg, Int.reduceLT, Int.reduceLE, or_self, and_self, if_pos, if_neg]
    · by_cases p3 : p = 0
      · have et : am_tsw 20 66 0 2 #[28, 31, 59] p = 48 := by rw [p3]; rfl
        simp (disch := omega) only [bk_118_20, bk_118_48, bk_118_51, bk_118_72, bk_118_79, bk_118_86, c1, c2, r1, ew, ew', et, mv_c0, mv_f0_6, mv_r3, mr4, drow_o, Option.bind_some, Bool.cond_decide, am_oI_some, am_oV_some, am_oI_ite, am_oV_ite, am_bind_ite, Int.toNat_natCast, Int.toNat_zero, Int.reduceToNat, ite_true, ite_false, not_true_eq_false, not_false_eq_true, decide_true, decide_false, decide_eq_true_eq, Bool.false_eq_true, Nat.add_zero, am_rok1_0, am_rok1_1, cond_true, cond_false, am_w_nat1, true_or, or_true, false_or, or_false, true_and, and_true, false_and, and_false, Int.reduceEq, Int.reduceNeg, Int.reduceLT, Int.reduceLE, or_self, and_self, if_pos, if_neg]
      · have et : am_tsw 20 66 0 2 #[28, 31, 59] p = 86 := by unfold am_tsw; rw [if_pos (by omega)]; rfl
        have e16 : am_w (16 + (z : Int)) = 16 + (z : Int) := am_w_id (by omega) (by omega)
        simp (disch := omega) only [bk_118_20, bk_118_48, bk_118_51, bk_118_72, bk_118_79, bk_118_86, c1, c2, r1, ew, ew', et, e16, mv_c0, mv_f0_6, mv_r3, mr4, drow_o, Option.bind_some, Bool.cond_decide, am_oI_some, am_oV_some, am_oI_ite, am_oV_ite, am_bind_ite, Int.toNat_natCast, Int.toNat_zero, Int.reduceToNat, ite_true, ite_false, not_true_eq_false, not_false_eq_true, decide_true, decide_false, decide_eq_true_eq, Bool.false_eq_true, Nat.add_zero, am_rok1_0, am_rok1_1, cond_true, cond_false, am_w_nat1, true_or, or_true, false_or, or_false, true_and, and_true, false_and, and_false, Int.reduceEq, Int.reduceNeg, Int.reduceLT, Int.reduceLE, or_self, and_self, if_pos, if_neg]
end MOD6
