/-! ===== a crash, and a new drive ===== -/
def cr_s (D : Nat → Nat → Int) (n : Nat) : Nat → Int := fun z => if z < n ∧ D 2 z = 1 then (if D 3 z = 0 then 0 else 2) else D 2 z
def cr1 (D : Nat → Nat → Int) (Z : Nat) : Nat → Nat → Int := drow D 2 (cr_s D Z)
/-- homes found anew -/
def fhs (D : Nat → Nat → Int) : Nat → (Nat → Int) × Nat
  | 0 => (fl 3 (-1) (D 6), 0)
  | z + 1 => if ((fhs D z).2 : Int) < D 0 4 ∧ cd_act D z = true then (va_up (fhs D z).1 (fhs D z).2 z, (fhs D z).2 + 1) else fhs D z
def cr2 (D : Nat → Nat → Int) (Z : Nat) : Nat → Nat → Int := drow D 6 (fhs D Z).1
def cr3 (D : Nat → Nat → Int) : Nat → Nat → Int := dup (dup D 1 4 (mxs (cd_ln D) 0 32)) 1 3 (am_w (D 1 3 + 1))
def cd_kv (D : Nat → Nat → Int) : Nat := cnt (fun k => decide (¬ cd_val D k = -1)) 32
/-- the drive behind a crash -/
def o_cr (D : Nat → Nat → Int) (Z : Nat) : Nat → Nat → Int := lga (cr3 (cr2 (cr1 D Z) Z)) 6 (-1) (cd_kv D)
theorem drow_DI {D : Nat → Nat → Int} {Z : Nat} (w : DI D Z) (r : Nat) (f : Nat → Int) (hr : r = 1 ∨ r = 4 ∨ r = 5 ∨ r = 6 ∨ r = 8 ∨ r = 9) : DI (drow D r f) Z := DI_of w (drow_o _ _ (by omega)) (drow_o _ _ (by omega)) (drow_o _ _ (by omega)) (drow_o _ _ (by omega)) (drow_o _ _ (by omega)) (drow_o _ _ (by omega))
theorem crs_DI {D : Nat → Nat → Int} {Z : Nat} (w : DI D Z) (n : Nat) : DI (drow D 2 (cr_s D n)) Z := by
  refine ⟨DW_of w.1 (drow_o _ _ (by omega)) (drow_o _ _ (by omega)) (drow_o _ _ (by omega)) (drow_o _ _ (by omega)), ?_, LW_of w.2.2 (drow_o _ _ (by omega))⟩
  intro z hz
  have h1 := w.2.1 z hz
  rw [drow_o _ _ (by omega), drow_o _ _ (by omega), drow_t]
  refine ⟨h1.1, ?_⟩
  unfold cr_s
  split
  · rename_i q; intro _; exact h1.2 (by omega)
  · exact h1.2
theorem cr1_DI {D : Nat → Nat → Int} {Z : Nat} (w : DI D Z) : DI (cr1 D Z) Z := crs_DI w Z
theorem cr2_DI {D : Nat → Nat → Int} {Z : Nat} (w : DI D Z) : DI (cr2 D Z) Z := drow_DI w _ _ (by omega)
theorem cr3_DI {D : Nat → Nat → Int} {Z : Nat} (w : DI D Z) : DI (cr3 D) Z := dup_DI (dup_DI w _ _ _ (by omega)) _ _ _ (by omega)
theorem o_cr_DI {D : Nat → Nat → Int} {Z : Nat} (w : DI D Z) : DI (o_cr D Z) Z := lga_DI (cr3_DI (cr2_DI (cr1_DI w))) _ _ _
theorem cd_val_eq {D E : Nat → Nat → Int} (h8 : D 8 = E 8) (h10 : D 10 = E 10) (k : Nat) : cd_val D k = cd_val E k := by unfold cd_val; rw [h8, h10]
theorem cd_kv_of {D E : Nat → Nat → Int} (h8 : D 8 = E 8) (h10 : D 10 = E 10) : cd_kv D = cd_kv E := cnt_congr (fun k _ => by rw [cd_val_eq h8 h10])
theorem fhs_2 (D : Nat → Nat → Int) (h : 0 ≤ D 0 4) : ∀ z, ((fhs D z).2 : Int) ≤ D 0 4 := by
  intro z
  induction z with
  | zero => exact h
  | succ z ih =>
    unfold fhs
    split
    · show (((fhs D z).2 + 1 : Nat) : Int) ≤ _; omega
    · exact ih
section DRVD
variable {d e : Nat} {D E : Nat → Nat → Int} {h : am_H} {Z : Nat}
theorem d_findHomes (w : DI D Z) : am_cV 179 [am_R d] (dv d D h) = some (dv d (cr2 D Z) h) := by
  have hZ := w.1.1
  have hZ8 := w.1.2.1
  have h4 := w.1.2.2.2.1
  have step : ∀ z : Nat, z < Z → am_run am_ms 179 12 [am_R d, am_I (fhs D z).2, am_I z] [] (dv d (drow D 6 (fhs D z).1) h) = am_run am_ms 179 12 [am_R d, am_I (fhs D (z + 1)).2, am_I ((z + 1 : Nat) : Int)] [] (dv d (drow D 6 (fhs D (z + 1)).1) h) := by
    intro z hz
    have hb := fhs_2 D h4.1 z
    have ef : fhs D (z + 1) = if ((fhs D z).2 : Int) < D 0 4 ∧ cd_act D z = true then (va_up (fhs D z).1 (fhs D z).2 z, (fhs D z).2 + 1) else fhs D z := rfl
    rw [ef]
    generalize fhs D z = F at hb ⊢
    have c1 := c_hasStream d (drow D 6 F.1) h F.2
    rw [drow_o _ _ (show (0 : Nat) ≠ 6 by omega)] at c1
    have c2 := c_isActive d (drow D 6 F.1) h z (by omega)
    rw [drow_o _ _ (show (2 : Nat) ≠ 6 by omega)] at c2
    rw [bk_179_12]
    by_cases q1 : (F.2 : Int) < D 0 4
    · rw [if_pos ⟨by omega, q1⟩] at c1
      by_cases q2 : D 2 z = 1 ∨ D 2 z = 2
      · rw [if_pos q2] at c2
        rw [if_pos ⟨q1, decide_eq_true q2⟩]
        have er : dup (drow D 6 F.1) 6 F.2 z = drow D 6 (va_up F.1 F.2 z) := by
          funext i
          unfold dup
          split
          · rename_i q; rw [q, drow_t, drow_t]
          · rename_i q; rw [drow_o _ _ q, drow_o _ _ q]
        simp (disch := omega) only [bk_179_38, bk_179_48, bk_179_54, hZ, c1, c2, er, dv_f0, dv_f1, dv_f2, dv_f3, dv_f4, dv_f5, dv_f6, dv_f7, dv_f8, dv_f9, dv_f10, dv_f11, dv_f12, dv_f13, dv_g0, dv_g1, dv_g2, dv_i0, dv_i1, dv_p0, dv_p1, dv_isc, dv_iscL, dv_r0, dv_r1, dv_r2, dv_r3, dv_r4, dv_r5, dv_r6, dv_r7, dv_r8, dv_r9, dv_r10, dv_r11, dv_r12, dv_r13, dv_r14, dv_r15, dv_w0, dv_w1, dv_w2, dv_w3, dv_w4, dv_w5, dv_w6, dv_w7, dv_w8, dv_w9, dv_w10, dv_w11, dv_w12, dv_w13, dv_w14, dv_w15, dvo_gfR, dvo_gfI, dvo_rd, dvo_isc, dvo_len, dup_t, dup_o, va_up_self, va_up_ne, drow_t, drow_o, Option.bind_some, Bool.cond_decide, am_oI_some, am_oV_some, am_oI_ite, am_oV_ite, am_bind_ite, Int.toNat_natCast, Int.toNat_zero, Int.reduceToNat, ite_true, ite_false, not_true_eq_false, not_false_eq_true, decide_true, decide_false, decide_eq_true_eq, Bool.false_eq_true, Nat.add_zero, am_rok1_0, am_rok1_1, cond_true, cond_false, am_w_nat1, true_or, or_true, false_or, or_false, true_and, and_true, false_and, and_false, Int.reduceEq, Int.reduceNeg, Int.reduceLT, Int.reduceLE, or_self, and_self, if_pos, if_neg]
      · rw [if_neg q2] at c2
        rw [if_neg (fun q => q2 (of_decide_eq_true q.2))]
        simp (disch := omega) only [bk_179_38, bk_179_48, bk_179_54, hZ, c1, c2, dv_f0, dv_f1, dv_f2, dv_f3, dv_f4, dv_f5, dv_f6, dv_f7, dv_f8, dv_f9, dv_f10, dv_f11, dv_f12, dv_f13, dv_g0, dv_g1, dv_g2, dv_i0, dv_i1, dv_p0, dv_p1, dv_isc, dv_iscL, dv_r0, dv_r1, dv_r2, dv_r3, dv_r4, dv_r5, dv_r6, dv_r7, dv_r8, dv_r9, dv_r10, dv_r11, dv_r12, dv_r13, dv_r14, dv_r15, dv_w0, dv_w1, dv_w2, dv_w3, dv_w4, dv_w5, dv_w6, dv_w7, dv_w8, dv_w9, dv_w10, dv_w11, dv_w12, dv_w13, dv_w14, dv_w15, dvo_gfR, dvo_gfI, dvo_rd, dvo_isc, dvo_len, dup_t, dup_o, va_up_self, va_up_ne, drow_t, drow_o, Option.bind_some, Bool.cond_decide, am_oI_some, am_oV_some, am_oI_ite, am_oV_ite, am_bind_ite, Int.toNat_natCast, Int.toNat_zero, Int.reduceToNat, ite_true, ite_false, not_true_eq_false, not_false_eq_true, decide_true, decide_false, decide_eq_true_eq, Bool.false_eq_true, Nat.add_zero, am_rok1_0, am_rok1_1, cond_true, cond_false, am_w_nat1, true_or, or_true, false_or, or_false, true_and, and_true, false_and, and_false, Int.reduceEq, Int.reduceNeg, Int.reduceLT, Int.reduceLE, or_self, and_self, if_pos, if_neg]
    · rw [if_neg (by omega)] at c1
      rw [if_neg (fun q => q1 q.1)]
      simp (disch := omega) only [bk_179_38, bk_179_48, bk_179_54, hZ, c1, dv_f0, dv_f1, dv_f2, dv_f3, dv_f4, dv_f5, dv_f6, dv_f7, dv_f8, dv_f9, dv_f10, dv_f11, dv_f12, dv_f13, dv_g0, dv_g1, dv_g2, dv_i0, dv_i1, dv_p0, dv_p1, dv_isc, dv_iscL, dv_r0, dv_r1, dv_r2, dv_r3, dv_r4, dv_r5, dv_r6, dv_r7, dv_r8, dv_r9, dv_r10, dv_r11, dv_r12, dv_r13, dv_r14, dv_r15, dv_w0, dv_w1, dv_w2, dv_w3, dv_w4, dv_w5, dv_w6, dv_w7, dv_w8, dv_w9, dv_w10, dv_w11, dv_w12, dv_w13, dv_w14, dv_w15, dvo_gfR, dvo_gfI, dvo_rd, dvo_isc, dvo_len, dup_t, dup_o, va_up_self, va_up_ne, drow_t, drow_o, Option.bind_some, Bool.cond_decide, am_oI_some, am_oV_some, am_oI_ite, am_oV_ite, am_bind_ite, Int.toNat_natCast, Int.toNat_zero, Int.reduceToNat, ite_true, ite_false, not_true_eq_false, not_false_eq_true, decide_true, decide_false, decide_eq_true_eq, Bool.false_eq_true, Nat.add_zero, am_rok1_0, am_rok1_1, cond_true, cond_false, am_w_nat1, true_or, or_true, false_or, or_false, true_and, and_true, false_and, and_false, Int.reduceEq, Int.reduceNeg, Int.reduceLT, Int.reduceLE, or_self, and_self, if_pos, if_neg]
  have key : am_run am_ms 179 12 [am_R d, am_I 0, am_I 0] [] (dv d (drow D 6 (fl 3 (-1) (D 6))) h) = am_run am_ms 179 12 [am_R d, am_I (fhs D Z).2, am_I Z] [] (dv d (drow D 6 (fhs D Z).1) h) := loop_to (fun z : Nat => am_run am_ms 179 12 [am_R d, am_I (fhs D z).2, am_I z] [] (dv d (drow D 6 (fhs D z).1) h)) Z step
  unfold cr2
  rw [am_cV, en_179, bk_179_0]
  simp (disch := omega) only [d_fill6, key, dv_f0, dv_f1, dv_f2, dv_f3, dv_f4, dv_f5, dv_f6, dv_f7, dv_f8, dv_f9, dv_f10, dv_f11, dv_f12, dv_f13, dv_g0, dv_g1, dv_g2, dv_i0, dv_i1, dv_p0, dv_p1, dv_isc, dv_iscL, dv_r0, dv_r1, dv_r2, dv_r3, dv_r4, dv_r5, dv_r6, dv_r7, dv_r8, dv_r9, dv_r10, dv_r11, dv_r12, dv_r13, dv_r14, dv_r15, dv_w0, dv_w1, dv_w2, dv_w3, dv_w4, dv_w5, dv_w6, dv_w7, dv_w8, dv_w9, dv_w10, dv_w11, dv_w12, dv_w13, dv_w14, dv_w15, dvo_gfR, dvo_gfI, dvo_rd, dvo_isc, dvo_len, dup_t, dup_o, va_up_self, va_up_ne, drow_t, drow_o, Option.bind_some, Bool.cond_decide, am_oI_some, am_oV_some, am_oI_ite, am_oV_ite, am_bind_ite, Int.toNat_natCast, Int.toNat_zero, Int.reduceToNat, ite_true, ite_false, not_true_eq_false, not_false_eq_true, decide_true, decide_false, decide_eq_true_eq, Bool.false_eq_true, Nat.add_zero, am_rok1_0, am_rok1_1, cond_true, cond_false, am_w_nat1, true_or, or_true, false_or, or_false, true_and, and_true, false_and, and_false, Int.reduceEq, Int.reduceNeg, Int.reduceLT, Int.reduceLE, or_self, and_self, if_pos, if_neg]
  rw [bk_179_12]
  simp (disch := omega) only [bk_179_38, bk_179_48, bk_179_54, hZ, dv_f0, dv_f1, dv_f2, dv_f3, dv_f4, dv_f5, dv_f6, dv_f7, dv_f8, dv_f9, dv_f10, dv_f11, dv_f12, dv_f13, dv_g0, dv_g1, dv_g2, dv_i0, dv_i1, dv_p0, dv_p1, dv_isc, dv_iscL, dv_r0, dv_r1, dv_r2, dv_r3, dv_r4, dv_r5, dv_r6, dv_r7, dv_r8, dv_r9, dv_r10, dv_r11, dv_r12, dv_r13, dv_r14, dv_r15, dv_w0, dv_w1, dv_w2, dv_w3, dv_w4, dv_w5, dv_w6, dv_w7, dv_w8, dv_w9, dv_w10, dv_w11, dv_w12, dv_w13, dv_w14, dv_w15, dvo_gfR, dvo_gfI, dvo_rd, dvo_isc, dvo_len, dup_t, dup_o, va_up_self, va_up_ne, drow_t, drow_o, Option.bind_some, Bool.cond_decide, am_oI_some, am_oV_some, am_oI_ite, am_oV_ite, am_bind_ite, Int.toNat_natCast, Int.toNat_zero, Int.reduceToNat, ite_true, ite_false, not_true_eq_false, not_false_eq_true, decide_true, decide_false, decide_eq_true_eq, Bool.false_eq_true, Nat.add_zero, am_rok1_0, am_rok1_1, cond_true, cond_false, am_w_nat1, true_or, or_true, false_or, or_false, true_and, and_true, false_and, and_false, Int.reduceEq, Int.reduceNeg, Int.reduceLT, Int.reduceLE, or_self, and_self, if_pos, if_neg]
theorem d_greatestNumber (hl : ∀ k, k < 32 → D 10 k = -1 ∨ (0 ≤ D 10 k ∧ D 10 k < 128)) : am_cI 180 [am_R d] (dv d D h) = some (mxs (cd_ln D) 0 32, dv d D h) := by
  have step : ∀ k : Nat, k < 32 → am_run am_ms 180 4 [am_R d, am_I (mxs (cd_ln D) 0 k), am_I k] [] (dv d D h) = am_run am_ms 180 4 [am_R d, am_I (mxs (cd_ln D) 0 (k + 1)), am_I ((k + 1 : Nat) : Int)] [] (dv d D h) := by
    intro k hk
    have c1 := c_latestNumber d D h k hk (hl k hk)
    rw [bk_180_4, mxs]
    simp (disch := omega) only [c1, dv_f0, dv_f1, dv_f2, dv_f3, dv_f4, dv_f5, dv_f6, dv_f7, dv_f8, dv_f9, dv_f10, dv_f11, dv_f12, dv_f13, dv_g0, dv_g1, dv_g2, dv_i0, dv_i1, dv_p0, dv_p1, dv_isc, dv_iscL, dv_r0, dv_r1, dv_r2, dv_r3, dv_r4, dv_r5, dv_r6, dv_r7, dv_r8, dv_r9, dv_r10, dv_r11, dv_r12, dv_r13, dv_r14, dv_r15, dv_w0, dv_w1, dv_w2, dv_w3, dv_w4, dv_w5, dv_w6, dv_w7, dv_w8, dv_w9, dv_w10, dv_w11, dv_w12, dv_w13, dv_w14, dv_w15, dvo_gfR, dvo_gfI, dvo_rd, dvo_isc, dvo_len, dup_t, dup_o, va_up_self, va_up_ne, drow_t, drow_o, Option.bind_some, Bool.cond_decide, am_oI_some, am_oV_some, am_oI_ite, am_oV_ite, am_bind_ite, Int.toNat_natCast, Int.toNat_zero, Int.reduceToNat, ite_true, ite_false, not_true_eq_false, not_false_eq_true, decide_true, decide_false, decide_eq_true_eq, Bool.false_eq_true, Nat.add_zero, am_rok1_0, am_rok1_1, cond_true, cond_false, am_w_nat1, true_or, or_true, false_or, or_false, true_and, and_true, false_and, and_false, Int.reduceEq, Int.reduceNeg, Int.reduceLT, Int.reduceLE, or_self, and_self, if_pos, if_neg]
  have key : am_run am_ms 180 4 [am_R d, am_I 0, am_I 0] [] (dv d D h) = am_run am_ms 180 4 [am_R d, am_I (mxs (cd_ln D) 0 32), am_I 32] [] (dv d D h) := loop_to (fun k : Nat => am_run am_ms 180 4 [am_R d, am_I (mxs (cd_ln D) 0 k), am_I k] [] (dv d D h)) 32 step
  rw [am_cI, en_180, bk_180_0, key, bk_180_4]
  simp (disch := omega) only [bk_180_26, dv_f0, dv_f1, dv_f2, dv_f3, dv_f4, dv_f5, dv_f6, dv_f7, dv_f8, dv_f9, dv_f10, dv_f11, dv_f12, dv_f13, dv_g0, dv_g1, dv_g2, dv_i0, dv_i1, dv_p0, dv_p1, dv_isc, dv_iscL, dv_r0, dv_r1, dv_r2, dv_r3, dv_r4, dv_r5, dv_r6, dv_r7, dv_r8, dv_r9, dv_r10, dv_r11, dv_r12, dv_r13, dv_r14, dv_r15, dv_w0, dv_w1, dv_w2, dv_w3, dv_w4, dv_w5, dv_w6, dv_w7, dv_w8, dv_w9, dv_w10, dv_w11, dv_w12, dv_w13, dv_w14, dv_w15, dvo_gfR, dvo_gfI, dvo_rd, dvo_isc, dvo_len, dup_t, dup_o, va_up_self, va_up_ne, drow_t, drow_o, Option.bind_some, Bool.cond_decide, am_oI_some, am_oV_some, am_oI_ite, am_oV_ite, am_bind_ite, Int.toNat_natCast, Int.toNat_zero, Int.reduceToNat, ite_true, ite_false, not_true_eq_false, not_false_eq_true, decide_true, decide_false, decide_eq_true_eq, Bool.false_eq_true, Nat.add_zero, am_rok1_0, am_rok1_1, cond_true, cond_false, am_w_nat1, true_or, or_true, false_or, or_false, true_and, and_true, false_and, and_false, Int.reduceEq, Int.reduceNeg, Int.reduceLT, Int.reduceLE, or_self, and_self, if_pos, if_neg]
theorem d_crashByHand (w : DR D Z) : am_cI 182 [am_R d] (dv d D h) = some ((cd_kv D : Int), dv d (o_cr D Z) h) := by
  have hZ := w.1.1.1
  have hZ0 := w.2.1
  have hZ8 := w.1.1.2.1
  have step : ∀ z : Nat, z < Z → am_run am_ms 182 13 [am_R d, am_I z] [] (dv d (drow D 2 (cr_s D z)) h) = am_run am_ms 182 13 [am_R d, am_I ((z + 1 : Nat) : Int)] [] (dv d (drow D 2 (cr_s D (z + 1))) h) := by
    intro z hz
    have c1 := d_stateWhenClosed (d := d) (D := drow D 2 (cr_s D z)) (h := h) (z := z) (by omega)
    rw [drow_o _ _ (show (3 : Nat) ≠ 2 by omega)] at c1
    have e2 : cr_s D z z = D 2 z := if_neg (by omega)
    rw [bk_182_13]
    by_cases q : D 2 z = 1
    · have er : dup (drow D 2 (cr_s D z)) 2 z (if D 3 z = 0 then 0 else 2) = drow D 2 (cr_s D (z + 1)) := by
        funext i j
        unfold dup
        split
        · rename_i qi
          rw [qi, drow_t, drow_t]
          unfold va_up cr_s
          by_cases qj : j = z
          · rw [if_pos qj, qj, if_pos (show z < z + 1 ∧ D 2 z = 1 from ⟨by omega, q⟩)]
          · rw [if_neg qj]
            by_cases q3 : j < z ∧ D 2 j = 1
            · rw [if_pos q3, if_pos (show j < z + 1 ∧ D 2 j = 1 from ⟨by omega, q3.2⟩)]
            · rw [if_neg q3, if_neg (by omega)]
        · rename_i qi; rw [drow_o _ _ qi, drow_o _ _ qi]
      simp (disch := omega) only [bk_182_37, bk_182_44, hZ, e2, q, c1, er, dv_f0, dv_f1, dv_f2, dv_f3, dv_f4, dv_f5, dv_f6, dv_f7, dv_f8, dv_f9, dv_f10, dv_f11, dv_f12, dv_f13, dv_g0, dv_g1, dv_g2, dv_i0, dv_i1, dv_p0, dv_p1, dv_isc, dv_iscL, dv_r0, dv_r1, dv_r2, dv_r3, dv_r4, dv_r5, dv_r6, dv_r7, dv_r8, dv_r9, dv_r10, dv_r11, dv_r12, dv_r13, dv_r14, dv_r15, dv_w0, dv_w1, dv_w2, dv_w3, dv_w4, dv_w5, dv_w6, dv_w7, dv_w8, dv_w9, dv_w10, dv_w11, dv_w12, dv_w13, dv_w14, dv_w15, dvo_gfR, dvo_gfI, dvo_rd, dvo_isc, dvo_len, dup_t, dup_o, va_up_self, va_up_ne, drow_t, drow_o, Option.bind_some, Bool.cond_decide, am_oI_some, am_oV_some, am_oI_ite, am_oV_ite, am_bind_ite, Int.toNat_natCast, Int.toNat_zero, Int.reduceToNat, ite_true, ite_false, not_true_eq_false, not_false_eq_true, decide_true, decide_false, decide_eq_true_eq, Bool.false_eq_true, Nat.add_zero, am_rok1_0, am_rok1_1, cond_true, cond_false, am_w_nat1, true_or, or_true, false_or, or_false, true_and, and_true, false_and, and_false, Int.reduceEq, Int.reduceNeg, Int.reduceLT, Int.reduceLE, or_self, and_self, if_pos, if_neg]
    · have er : drow D 2 (cr_s D z) = drow D 2 (cr_s D (z + 1)) := by
        congr 1
        funext j
        unfold cr_s
        by_cases q3 : j < z ∧ D 2 j = 1
        · rw [if_pos q3, if_pos (show j < z + 1 ∧ D 2 j = 1 from ⟨by omega, q3.2⟩)]
        · rw [if_neg q3, if_neg]
          intro q4
          by_cases q5 : j = z
          · rw [q5] at q4; exact q q4.2
          · exact q3 ⟨by omega, q4.2⟩
      rw [← er]
      simp (disch := omega) only [bk_182_37, bk_182_44, hZ, e2, q, dv_f0, dv_f1, dv_f2, dv_f3, dv_f4, dv_f5, dv_f6, dv_f7, dv_f8, dv_f9, dv_f10, dv_f11, dv_f12, dv_f13, dv_g0, dv_g1, dv_g2, dv_i0, dv_i1, dv_p0, dv_p1, dv_isc, dv_iscL, dv_r0, dv_r1, dv_r2, dv_r3, dv_r4, dv_r5, dv_r6, dv_r7, dv_r8, dv_r9, dv_r10, dv_r11, dv_r12, dv_r13, dv_r14, dv_r15, dv_w0, dv_w1, dv_w2, dv_w3, dv_w4, dv_w5, dv_w6, dv_w7, dv_w8, dv_w9, dv_w10, dv_w11, dv_w12, dv_w13, dv_w14, dv_w15, dvo_gfR, dvo_gfI, dvo_rd, dvo_isc, dvo_len, dup_t, dup_o, va_up_self, va_up_ne, drow_t, drow_o, Option.bind_some, Bool.cond_decide, am_oI_some, am_oV_some, am_oI_ite, am_oV_ite, am_bind_ite, Int.toNat_natCast, Int.toNat_zero, Int.reduceToNat, ite_true, ite_false, not_true_eq_false, not_false_eq_true, decide_true, decide_false, decide_eq_true_eq, Bool.false_eq_true, Nat.add_zero, am_rok1_0, am_rok1_1, cond_true, cond_false, am_w_nat1, true_or, or_true, false_or, or_false, true_and, and_true, false_and, and_false, Int.reduceEq, Int.reduceNeg, Int.reduceLT, Int.reduceLE, or_self, and_self, if_pos, if_neg]
  have e0 : drow D 2 (cr_s D 0) = D := by
    funext i
    unfold drow
    split
    · rename_i q
      rw [q]
      funext j
      exact if_neg (by omega)
    · rfl
  have key := loop_to (fun z : Nat => am_run am_ms 182 13 [am_R d, am_I z] [] (dv d (drow D 2 (cr_s D z)) h)) Z step
  have key' : am_run am_ms 182 13 [am_R d, am_I 0] [] (dv d D h) = am_run am_ms 182 13 [am_R d, am_I Z] [] (dv d (cr1 D Z) h) := by
    have := key
    simp only [e0] at this
    exact this
  have w1 := cr1_DI w.1
  have w2 := cr2_DI w1
  have w3 := cr3_DI w2
  have c2 := d_findHomes (d := d) (h := h) w1
  have c3 := d_greatestNumber (d := d) (h := h) w2.1.2.2.2.2.2.2
  have z1 : cr1 D Z 0 = D 0 := drow_o _ _ (by omega)
  have z3 : cr3 (cr2 (cr1 D Z) Z) 0 = D 0 := by unfold cr3 cr2 cr1; rw [dup_o _ _ _ (by omega), dup_o _ _ _ (by omega), drow_o _ _ (by omega), drow_o _ _ (by omega)]
  have c4 : am_cI 181 [am_R d] (dv d (cr3 (cr2 (cr1 D Z) Z)) h) = some ((cd_kv D : Int), dv d (cr3 (cr2 (cr1 D Z) Z)) h) := by
    have := c_keysWithValue d (cr3 (cr2 (cr1 D Z) Z)) h (by rw [z3]; omega) w3.1.2.2.2.2.2.2
    rw [this]
    have e : cd_kv (cr3 (cr2 (cr1 D Z) Z)) = cd_kv D := cd_kv_of (by unfold cr3 cr2 cr1; rw [dup_o _ _ _ (by omega), dup_o _ _ _ (by omega), drow_o _ _ (by omega), drow_o _ _ (by omega)]) (by unfold cr3 cr2 cr1; rw [dup_o _ _ _ (by omega), dup_o _ _ _ (by omega), drow_o _ _ (by omega), drow_o _ _ (by omega)])
    rw [← e]
    rfl
  have c5 := l_add (d := d) (h := h) w3.2.2 6 (-1) (cd_kv D)
  have e13 : cr2 (cr1 D Z) Z 1 = D 1 := by unfold cr2 cr1; rw [drow_o _ _ (by omega), drow_o _ _ (by omega)]
  unfold o_cr
  unfold cr3 at c4 c5 ⊢
  rw [e13] at c4 c5 ⊢
  rw [am_cI, en_182]
  simp (disch := omega) only [bk_182_0, bk_182_11, hZ, key', dv_f0, dv_f1, dv_f2, dv_f3, dv_f4, dv_f5, dv_f6, dv_f7, dv_f8, dv_f9, dv_f10, dv_f11, dv_f12, dv_f13, dv_g0, dv_g1, dv_g2, dv_i0, dv_i1, dv_p0, dv_p1, dv_isc, dv_iscL, dv_r0, dv_r1, dv_r2, dv_r3, dv_r4, dv_r5, dv_r6, dv_r7, dv_r8, dv_r9, dv_r10, dv_r11, dv_r12, dv_r13, dv_r14, dv_r15, dv_w0, dv_w1, dv_w2, dv_w3, dv_w4, dv_w5, dv_w6, dv_w7, dv_w8, dv_w9, dv_w10, dv_w11, dv_w12, dv_w13, dv_w14, dv_w15, dvo_gfR, dvo_gfI, dvo_rd, dvo_isc, dvo_len, dup_t, dup_o, va_up_self, va_up_ne, drow_t, drow_o, Option.bind_some, Bool.cond_decide, am_oI_some, am_oV_some, am_oI_ite, am_oV_ite, am_bind_ite, Int.toNat_natCast, Int.toNat_zero, Int.reduceToNat, ite_true, ite_false, not_true_eq_false, not_false_eq_true, decide_true, decide_false, decide_eq_true_eq, Bool.false_eq_true, Nat.add_zero, am_rok1_0, am_rok1_1, cond_true, cond_false, am_w_nat1, true_or, or_true, false_or, or_false, true_and, and_true, false_and, and_false, Int.reduceEq, Int.reduceNeg, Int.reduceLT, Int.reduceLE, or_self, and_self, if_pos, if_neg]
  rw [bk_182_13]
  simp (disch := omega) only [bk_182_50, bk_182_72, hZ, z1, c2, c3, c4, c5, e13, dv_f0, dv_f1, dv_f2, dv_f3, dv_f4, dv_f5, dv_f6, dv_f7, dv_f8, dv_f9, dv_f10, dv_f11, dv_f12, dv_f13, dv_g0, dv_g1, dv_g2, dv_i0, dv_i1, dv_p0, dv_p1, dv_isc, dv_iscL, dv_r0, dv_r1, dv_r2, dv_r3, dv_r4, dv_r5, dv_r6, dv_r7, dv_r8, dv_r9, dv_r10, dv_r11, dv_r12, dv_r13, dv_r14, dv_r15, dv_w0, dv_w1, dv_w2, dv_w3, dv_w4, dv_w5, dv_w6, dv_w7, dv_w8, dv_w9, dv_w10, dv_w11, dv_w12, dv_w13, dv_w14, dv_w15, dvo_gfR, dvo_gfI, dvo_rd, dvo_isc, dvo_len, dup_t, dup_o, va_up_self, va_up_ne, drow_t, drow_o, Option.bind_some, Bool.cond_decide, am_oI_some, am_oV_some, am_oI_ite, am_oV_ite, am_bind_ite, Int.toNat_natCast, Int.toNat_zero, Int.reduceToNat, ite_true, ite_false, not_true_eq_false, not_false_eq_true, decide_true, decide_false, decide_eq_true_eq, Bool.false_eq_true, Nat.add_zero, am_rok1_0, am_rok1_1, cond_true, cond_false, am_w_nat1, true_or, or_true, false_or, or_false, true_and, and_true, false_and, and_false, Int.reduceEq, Int.reduceNeg, Int.reduceLT, Int.reduceLE, or_self, and_self, if_pos, if_neg]
/-- a new drive by rules -/
def bg0 (D : Nat → Nat → Int) (R : Nat → Int) : Nat → Nat → Int := drow D 0 (fun j => if j = 2 then am_min (R 2) (R 3) else if j < 7 then R j else D 0 j)
def bg1 (D : Nat → Nat → Int) : Nat → Nat → Int := drow (drow (drow (drow (drow (drow D 1 (fl 8 0 (D 1))) 2 (fl 8 0 (D 2))) 3 (fl 8 0 (D 3))) 4 (fl 8 0 (D 4))) 5 (fl 8 0 (D 5))) 6 (fl 3 (-1) (D 6))
def o_bg (D : Nat → Nat → Int) (R : Nat → Int) : Nat → Nat → Int := la (dup (dup (bg1 (bg0 D R)) 16 0 0) 16 1 0) 128
end DRVD
