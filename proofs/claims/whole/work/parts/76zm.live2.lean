/-! ===== most: blocks that live, the class's count ===== -/
section LIVEB
variable {d Z : Nat} {D : Nat → Nat → Int} {h : am_H}
theorem s_liveBlocks (w : DW D Z) : am_cI 287 [am_R d] (dv d D h) = some (sm (fun z => (cd_nl D z : Int)) Z, dv d D h) := by
  have hZ := w.1
  have hZ8 := w.2.1
  have hnl : ∀ z, z < 8 → (0 : Int) ≤ (cd_nl D z : Int) ∧ (cd_nl D z : Int) ≤ 16 := fun z hz => by
    have h3 := w.2.2.2.2.1 z hz
    have hle : cd_nl D z ≤ (D 3 z).toNat := cnt_le _ _
    omega
  have step : ∀ z : Nat, z < Z → am_run am_ms 287 4 [am_R d, am_I (sm (fun z => (cd_nl D z : Int)) z), am_I z] [] (dv d D h) = am_run am_ms 287 4 [am_R d, am_I (sm (fun z => (cd_nl D z : Int)) (z + 1)), am_I ((z + 1 : Nat) : Int)] [] (dv d D h) := by
    intro z hz
    have h1 := sm_le (c := 0) hnl z (by omega)
    have h2 := hnl z (by omega)
    have c1 := d_liveIn (d := d) (h := h) w (z := z) (by omega)
    have ew : sm (fun z => (cd_nl D z : Int)) (z + 1) = am_w (sm (fun z => (cd_nl D z : Int)) z + (cd_nl D z : Int)) := (am_w_id (x := sm (fun z => (cd_nl D z : Int)) z + (cd_nl D z : Int)) (by omega) (by omega)).symm
    rw [ew]
    clear ew
    rw [bk_287_4]
    simp (disch := omega) only [hZ, c1, dv_f0, dv_f1, dv_f2, dv_f3, dv_f4, dv_f5, dv_f6, dv_f7, dv_f8, dv_f9, dv_f10, dv_f11, dv_f12, dv_f13, dv_g0, dv_g1, dv_g2, dv_i0, dv_i1, dv_p0, dv_p1, dv_isc, dv_iscL, dv_r0, dv_r1, dv_r2, dv_r3, dv_r4, dv_r5, dv_r6, dv_r7, dv_r8, dv_r9, dv_r10, dv_r11, dv_r12, dv_r13, dv_r14, dv_r15, Option.bind_some, Bool.cond_decide, am_oI_some, am_oV_some, am_oI_ite, am_oV_ite, am_bind_ite, Int.toNat_natCast, Int.toNat_zero, Int.reduceToNat, ite_true, ite_false, not_true_eq_false, not_false_eq_true, decide_true, decide_false, decide_eq_true_eq, Bool.false_eq_true, Nat.add_zero, am_rok1_0, am_rok1_1, cond_true, cond_false, am_w_nat1, true_or, or_true, false_or, or_false, true_and, and_true, false_and, and_false, Int.reduceEq, Int.reduceNeg, Int.reduceLT, Int.reduceLE, or_self, and_self, if_pos, if_neg]
  have key : am_run am_ms 287 4 [am_R d, am_I 0, am_I 0] [] (dv d D h) = am_run am_ms 287 4 [am_R d, am_I (sm (fun z => (cd_nl D z : Int)) Z), am_I Z] [] (dv d D h) := loop_to (fun z : Nat => am_run am_ms 287 4 [am_R d, am_I (sm (fun z => (cd_nl D z : Int)) z), am_I z] [] (dv d D h)) Z step
  rw [am_cI, en_287, bk_287_0, key, bk_287_4]
  simp (disch := omega) only [bk_287_28, hZ, dv_f0, dv_f1, dv_f2, dv_f3, dv_f4, dv_f5, dv_f6, dv_f7, dv_f8, dv_f9, dv_f10, dv_f11, dv_f12, dv_f13, dv_g0, dv_g1, dv_g2, dv_i0, dv_i1, dv_p0, dv_p1, dv_isc, dv_iscL, dv_r0, dv_r1, dv_r2, dv_r3, dv_r4, dv_r5, dv_r6, dv_r7, dv_r8, dv_r9, dv_r10, dv_r11, dv_r12, dv_r13, dv_r14, dv_r15, Option.bind_some, Bool.cond_decide, am_oI_some, am_oV_some, am_oI_ite, am_oV_ite, am_bind_ite, Int.toNat_natCast, Int.toNat_zero, Int.reduceToNat, ite_true, ite_false, not_true_eq_false, not_false_eq_true, decide_true, decide_false, decide_eq_true_eq, Bool.false_eq_true, Nat.add_zero, am_rok1_0, am_rok1_1, cond_true, cond_false, am_w_nat1, true_or, or_true, false_or, or_false, true_and, and_true, false_and, and_false, Int.reduceEq, Int.reduceNeg, Int.reduceLT, Int.reduceLE, or_self, and_self, if_pos, if_neg]
end LIVEB
