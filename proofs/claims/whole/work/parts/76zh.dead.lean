/-! ===== most: the zone with most dead ===== -/
def ddz (N : Nat → Nat → Int) (n : Nat) : Int := bst (fun z => decide (N 2 z = 3)) (fun z b => decide (cd_dead N b < cd_dead N z)) n
theorem ddz_s (N : Nat → Nat → Int) (p : Nat) : ddz N (p + 1) = if decide (N 2 p = 3) = true then (if ddz N p = -1 ∨ decide (cd_dead N (ddz N p).toNat < cd_dead N p) = true then (p : Int) else ddz N p) else ddz N p := rfl
def ddv (N : Nat → Nat → Int) (B : Int) : Int := if B = -1 then 0 else cd_dead N B.toNat
section DEADEST
variable {d mo Z : Nat} {D N M Ad : Nat → Nat → Int} {h g : am_H}
theorem s_dead (w : DW D Z) : am_cI 283 [am_R d] (dv d D h) = some (ddz D Z, dv d D h) := by
  have hZ := w.1
  have hZ8 := w.2.1
  have step : ∀ z : Nat, z < Z → am_run am_ms 283 6 [am_R d, am_I (ddz D z), am_I (ddv D (ddz D z)), am_I z] [] (dv d D h) = am_run am_ms 283 6 [am_R d, am_I (ddz D (z + 1)), am_I (ddv D (ddz D (z + 1))), am_I ((z + 1 : Nat) : Int)] [] (dv d D h) := by
    intro z hz
    have hb : -1 ≤ ddz D z ∧ ddz D z < z := bst_le _ _ z
    have c1 := d_deadIn (d := d) (h := h) w (z := z) (by omega)
    rw [ddz_s]
    generalize ddz D z = B at hb ⊢
    rw [bk_283_6]
    have ez : ddv D (z : Int) = cd_dead D z := by unfold ddv; rw [if_neg (by omega), Int.toNat_natCast]
    by_cases e0 : D 2 z = 3
    · rw [if_pos (decide_eq_true e0)]
      by_cases e1 : B = -1
      · rw [if_pos (Or.inl e1), ez]
        simp (disch := omega) only [bk_283_28, bk_283_40, bk_283_48, hZ, c1, dv_f0, dv_f1, dv_f2, dv_f3, dv_f4, dv_f5, dv_f6, dv_f7, dv_f8, dv_f9, dv_f10, dv_f11, dv_f12, dv_f13, dv_g0, dv_g1, dv_g2, dv_i0, dv_i1, dv_p0, dv_p1, dv_isc, dv_iscL, dv_r0, dv_r1, dv_r2, dv_r3, dv_r4, dv_r5, dv_r6, dv_r7, dv_r8, dv_r9, dv_r10, dv_r11, dv_r12, dv_r13, dv_r14, dv_r15, Option.bind_some, Bool.cond_decide, am_oI_some, am_oV_some, am_oI_ite, am_oV_ite, am_bind_ite, Int.toNat_natCast, Int.toNat_zero, Int.reduceToNat, ite_true, ite_false, not_true_eq_false, not_false_eq_true, decide_true, decide_false, decide_eq_true_eq, Bool.false_eq_true, Nat.add_zero, am_rok1_0, am_rok1_1, cond_true, cond_false, am_w_nat1, true_or, or_true, false_or, or_false, true_and, and_true, false_and, and_false, Int.reduceEq, Int.reduceNeg, Int.reduceLT, Int.reduceLE, or_self, and_self, if_pos, if_neg]
      · have eb : ddv D B = cd_dead D B.toNat := if_neg e1
        by_cases e2 : cd_dead D B.toNat < cd_dead D z
        · rw [if_pos (Or.inr (decide_eq_true e2)), ez, eb]
          simp (disch := omega) only [bk_283_28, bk_283_40, bk_283_48, hZ, c1, dv_f0, dv_f1, dv_f2, dv_f3, dv_f4, dv_f5, dv_f6, dv_f7, dv_f8, dv_f9, dv_f10, dv_f11, dv_f12, dv_f13, dv_g0, dv_g1, dv_g2, dv_i0, dv_i1, dv_p0, dv_p1, dv_isc, dv_iscL, dv_r0, dv_r1, dv_r2, dv_r3, dv_r4, dv_r5, dv_r6, dv_r7, dv_r8, dv_r9, dv_r10, dv_r11, dv_r12, dv_r13, dv_r14, dv_r15, Option.bind_some, Bool.cond_decide, am_oI_some, am_oV_some, am_oI_ite, am_oV_ite, am_bind_ite, Int.toNat_natCast, Int.toNat_zero, Int.reduceToNat, ite_true, ite_false, not_true_eq_false, not_false_eq_true, decide_true, decide_false, decide_eq_true_eq, Bool.false_eq_true, Nat.add_zero, am_rok1_0, am_rok1_1, cond_true, cond_false, am_w_nat1, true_or, or_true, false_or, or_false, true_and, and_true, false_and, and_false, Int.reduceEq, Int.reduceNeg, Int.reduceLT, Int.reduceLE, or_self, and_self, if_pos, if_neg]
        · rw [if_neg (fun q => q.elim e1 (fun t => e2 (of_decide_eq_true t))), eb]
          simp (disch := omega) only [bk_283_28, bk_283_48, hZ, c1, dv_f0, dv_f1, dv_f2, dv_f3, dv_f4, dv_f5, dv_f6, dv_f7, dv_f8, dv_f9, dv_f10, dv_f11, dv_f12, dv_f13, dv_g0, dv_g1, dv_g2, dv_i0, dv_i1, dv_p0, dv_p1, dv_isc, dv_iscL, dv_r0, dv_r1, dv_r2, dv_r3, dv_r4, dv_r5, dv_r6, dv_r7, dv_r8, dv_r9, dv_r10, dv_r11, dv_r12, dv_r13, dv_r14, dv_r15, Option.bind_some, Bool.cond_decide, am_oI_some, am_oV_some, am_oI_ite, am_oV_ite, am_bind_ite, Int.toNat_natCast, Int.toNat_zero, Int.reduceToNat, ite_true, ite_false, not_true_eq_false, not_false_eq_true, decide_true, decide_false, decide_eq_true_eq, Bool.false_eq_true, Nat.add_zero, am_rok1_0, am_rok1_1, cond_true, cond_false, am_w_nat1, true_or, or_true, false_or, or_false, true_and, and_true, false_and, and_false, Int.reduceEq, Int.reduceNeg, Int.reduceLT, Int.reduceLE, or_self, and_self, if_pos, if_neg]
    · rw [if_neg (fun t => e0 (of_decide_eq_true t))]
      simp (disch := omega) only [bk_283_48, hZ, dv_f0, dv_f1, dv_f2, dv_f3, dv_f4, dv_f5, dv_f6, dv_f7, dv_f8, dv_f9, dv_f10, dv_f11, dv_f12, dv_f13, dv_g0, dv_g1, dv_g2, dv_i0, dv_i1, dv_p0, dv_p1, dv_isc, dv_iscL, dv_r0, dv_r1, dv_r2, dv_r3, dv_r4, dv_r5, dv_r6, dv_r7, dv_r8, dv_r9, dv_r10, dv_r11, dv_r12, dv_r13, dv_r14, dv_r15, Option.bind_some, Bool.cond_decide, am_oI_some, am_oV_some, am_oI_ite, am_oV_ite, am_bind_ite, Int.toNat_natCast, Int.toNat_zero, Int.reduceToNat, ite_true, ite_false, not_true_eq_false, not_false_eq_true, decide_true, decide_false, decide_eq_true_eq, Bool.false_eq_true, Nat.add_zero, am_rok1_0, am_rok1_1, cond_true, cond_false, am_w_nat1, true_or, or_true, false_or, or_false, true_and, and_true, false_and, and_false, Int.reduceEq, Int.reduceNeg, Int.reduceLT, Int.reduceLE, or_self, and_self, if_pos, if_neg]
  have key : am_run am_ms 283 6 [am_R d, am_I (-1), am_I 0, am_I 0] [] (dv d D h) = am_run am_ms 283 6 [am_R d, am_I (ddz D Z), am_I (ddv D (ddz D Z)), am_I Z] [] (dv d D h) := loop_to (fun z : Nat => am_run am_ms 283 6 [am_R d, am_I (ddz D z), am_I (ddv D (ddz D z)), am_I z] [] (dv d D h)) Z step
  rw [am_cI, en_283, bk_283_0, key, bk_283_6]
  simp (disch := omega) only [bk_283_54, hZ, dv_f0, dv_f1, dv_f2, dv_f3, dv_f4, dv_f5, dv_f6, dv_f7, dv_f8, dv_f9, dv_f10, dv_f11, dv_f12, dv_f13, dv_g0, dv_g1, dv_g2, dv_i0, dv_i1, dv_p0, dv_p1, dv_isc, dv_iscL, dv_r0, dv_r1, dv_r2, dv_r3, dv_r4, dv_r5, dv_r6, dv_r7, dv_r8, dv_r9, dv_r10, dv_r11, dv_r12, dv_r13, dv_r14, dv_r15, Option.bind_some, Bool.cond_decide, am_oI_some, am_oV_some, am_oI_ite, am_oV_ite, am_bind_ite, Int.toNat_natCast, Int.toNat_zero, Int.reduceToNat, ite_true, ite_false, not_true_eq_false, not_false_eq_true, decide_true, decide_false, decide_eq_true_eq, Bool.false_eq_true, Nat.add_zero, am_rok1_0, am_rok1_1, cond_true, cond_false, am_w_nat1, true_or, or_true, false_or, or_false, true_and, and_true, false_and, and_false, Int.reduceEq, Int.reduceNeg, Int.reduceLT, Int.reduceLE, or_self, and_self, if_pos, if_neg]
theorem m_dead (iv : IV N Z 3) (rl : RL N Ad true (fun _ => 0) 0 8) (mr : MR M Ad) (f30 : M 3 0 = Z) (pk : ∀ g, mv mo M g = mv mo (drow M 8 (pack Ad)) g) : am_cI 291 [am_R mo] (mv mo M g) = some (ddz N Z, mv mo M g) := by
  have hZ8 := iv.pw.2.1
  have r2 : ∀ z : Nat, z < 8 → am_rd (mv mo M g) (mo + 8) 0 (0 + (z : Int)) = some (N 2 z) := fun z hz => by
    have r := mr2 (m := mo) (M := M) (A := Ad) (h := g) (c := 8) (by omega) (z := z) hz
    rw [← pk, rl.1.2.1] at r
    exact r
  have cd : ∀ z : Nat, z < Z → am_cI 116 [am_R mo, am_R (mo + 8), am_I z] (mv mo M g) = some (cd_dead N z, mv mo M g) := fun z hz => by
    have r := m_deadIn (m := mo) (h := g) (c := 8) (by omega) mr (rl_AW iv rl) (z := z) (by omega)
    rw [← pk, rl_dead iv rl hz] at r
    exact r
  have step : ∀ z : Nat, z < Z → am_run am_ms 291 4 [am_R mo, am_I (ddz N z), am_I z] [] (mv mo M g) = am_run am_ms 291 4 [am_R mo, am_I (ddz N (z + 1)), am_I ((z + 1 : Nat) : Int)] [] (mv mo M g) := by
    intro z hz
    have hb : -1 ≤ ddz N z ∧ ddz N z < z := bst_le _ _ z
    rw [ddz_s]
    generalize ddz N z = B at hb ⊢
    rw [bk_291_4]
    by_cases e0 : N 2 z = 3
    · rw [if_pos (decide_eq_true e0)]
      by_cases e1 : B = -1
      · rw [if_pos (Or.inl e1)]
        simp (disch := omega) only [bk_291_26, bk_291_52, bk_291_54, mv_f0_6, mv_f0_15, mv_c0, mv_r3, f30, nte0, r2, Option.bind_some, Bool.cond_decide, am_oI_some, am_oV_some, am_oI_ite, am_oV_ite, am_bind_ite, Int.toNat_natCast, Int.toNat_zero, Int.reduceToNat, ite_true, ite_false, not_true_eq_false, not_false_eq_true, decide_true, decide_false, decide_eq_true_eq, Bool.false_eq_true, Nat.add_zero, am_rok1_0, am_rok1_1, cond_true, cond_false, am_w_nat1, true_or, or_true, false_or, or_false, true_and, and_true, false_and, and_false, Int.reduceEq, Int.reduceNeg, Int.reduceLT, Int.reduceLE, or_self, and_self, if_pos, if_neg]
      · obtain ⟨b, rfl⟩ : ∃ b : Nat, B = b := ⟨B.toNat, by omega⟩
        rw [Int.toNat_natCast]
        by_cases e2 : cd_dead N b < cd_dead N z
        · rw [if_pos (Or.inr (decide_eq_true e2))]
          simp (disch := omega) only [bk_291_26, bk_291_52, bk_291_54, mv_f0_6, mv_f0_15, mv_c0, mv_r3, f30, nte0, r2, cd, Option.bind_some, Bool.cond_decide, am_oI_some, am_oV_some, am_oI_ite, am_oV_ite, am_bind_ite, Int.toNat_natCast, Int.toNat_zero, Int.reduceToNat, ite_true, ite_false, not_true_eq_false, not_false_eq_true, decide_true, decide_false, decide_eq_true_eq, Bool.false_eq_true, Nat.add_zero, am_rok1_0, am_rok1_1, cond_true, cond_false, am_w_nat1, true_or, or_true, false_or, or_false, true_and, and_true, false_and, and_false, Int.reduceEq, Int.reduceNeg, Int.reduceLT, Int.reduceLE, or_self, and_self, if_pos, if_neg]
        · rw [if_neg (fun q => q.elim e1 (fun t => e2 (of_decide_eq_true t)))]
          simp (disch := omega) only [bk_291_26, bk_291_54, mv_f0_6, mv_f0_15, mv_c0, mv_r3, f30, nte0, r2, cd, Option.bind_some, Bool.cond_decide, am_oI_some, am_oV_some, am_oI_ite, am_oV_ite, am_bind_ite, Int.toNat_natCast, Int.toNat_zero, Int.reduceToNat, ite_true, ite_false, not_true_eq_false, not_false_eq_true, decide_true, decide_false, decide_eq_true_eq, Bool.false_eq_true, Nat.add_zero, am_rok1_0, am_rok1_1, cond_true, cond_false, am_w_nat1, true_or, or_true, false_or, or_false, true_and, and_true, false_and, and_false, Int.reduceEq, Int.reduceNeg, Int.reduceLT, Int.reduceLE, or_self, and_self, if_pos, if_neg]
    · rw [if_neg (fun t => e0 (of_decide_eq_true t))]
      simp (disch := omega) only [bk_291_54, mv_f0_6, mv_f0_15, mv_c0, mv_r3, f30, nte0, r2, Option.bind_some, Bool.cond_decide, am_oI_some, am_oV_some, am_oI_ite, am_oV_ite, am_bind_ite, Int.toNat_natCast, Int.toNat_zero, Int.reduceToNat, ite_true, ite_false, not_true_eq_false, not_false_eq_true, decide_true, decide_false, decide_eq_true_eq, Bool.false_eq_true, Nat.add_zero, am_rok1_0, am_rok1_1, cond_true, cond_false, am_w_nat1, true_or, or_true, false_or, or_false, true_and, and_true, false_and, and_false, Int.reduceEq, Int.reduceNeg, Int.reduceLT, Int.reduceLE, or_self, and_self, if_pos, if_neg]
  have key : am_run am_ms 291 4 [am_R mo, am_I (-1), am_I 0] [] (mv mo M g) = am_run am_ms 291 4 [am_R mo, am_I (ddz N Z), am_I Z] [] (mv mo M g) := loop_to (fun z : Nat => am_run am_ms 291 4 [am_R mo, am_I (ddz N z), am_I z] [] (mv mo M g)) Z step
  rw [am_cI, en_291, bk_291_0, key, bk_291_4]
  simp (disch := omega) only [bk_291_60, mv_f0_6, mv_r3, f30, Option.bind_some, Bool.cond_decide, am_oI_some, am_oV_some, am_oI_ite, am_oV_ite, am_bind_ite, Int.toNat_natCast, Int.toNat_zero, Int.reduceToNat, ite_true, ite_false, not_true_eq_false, not_false_eq_true, decide_true, decide_false, decide_eq_true_eq, Bool.false_eq_true, Nat.add_zero, am_rok1_0, am_rok1_1, cond_true, cond_false, am_w_nat1, true_or, or_true, false_or, or_false, true_and, and_true, false_and, and_false, Int.reduceEq, Int.reduceNeg, Int.reduceLT, Int.reduceLE, or_self, and_self, if_pos, if_neg]
end DEADEST
