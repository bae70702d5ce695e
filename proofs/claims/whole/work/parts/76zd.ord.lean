/-! ===== order: the class's side ===== -/
/-- zone z can be cleaned and comes before zone q -/
def zah (D : Nat → Nat → Int) (p : Int) (q z : Nat) : Bool := cd_toC D z && decide (cd_score D q p < cd_score D z p ∨ (cd_score D z p = cd_score D q p ∧ z < q))
def zbf (D : Nat → Nat → Int) (Z : Nat) (p i : Int) (q : Nat) : Bool := cd_toC D q && decide ((cnt (zah D p q) Z : Int) = i)
section ORDC
variable {d Z : Nat} {D : Nat → Nat → Int} {h : am_H}
theorem s_zonesAhead (w : DW D Z) {q : Nat} (hq : q < 8) (p : Int) : am_cI 234 [am_R d, am_I p, am_I q] (dv d D h) = some ((cnt (zah D p q) Z : Int), dv d D h) := by
  have hZ := w.1
  have hZ8 := w.2.1
  have cq := d_scoreOf (d := d) (h := h) w hq p
  have step : ∀ (z : Nat) (v : am_V), z < Z → ∃ v' : am_V, am_run am_ms 234 13 [am_R d, am_I p, am_I q, am_I (cd_score D q p), am_I (cnt (zah D p q) z), am_I z, v] [] (dv d D h) = am_run am_ms 234 13 [am_R d, am_I p, am_I q, am_I (cd_score D q p), am_I (cnt (zah D p q) (z + 1)), am_I ((z + 1 : Nat) : Int), v'] [] (dv d D h) := by
    intro z v hz
    have hle := cnt_le (zah D p q) z
    rw [bk_234_13]
    by_cases e : z = q
    · have hc : zah D p q z = false := by
        unfold zah
        rw [decide_eq_false (fun t => by rw [e] at t; omega), Bool.and_false]
      rw [cnt_f hc]
      refine ⟨v, ?_⟩
      simp (disch := omega) only [bk_234_69, hZ, dv_f0, dv_f1, dv_f2, dv_f3, dv_f4, dv_f5, dv_f6, dv_f7, dv_f8, dv_f9, dv_f10, dv_f11, dv_f12, dv_f13, dv_g0, dv_g1, dv_g2, dv_i0, dv_i1, dv_p0, dv_p1, dv_isc, dv_iscL, dv_r0, dv_r1, dv_r2, dv_r3, dv_r4, dv_r5, dv_r6, dv_r7, dv_r8, dv_r9, dv_r10, dv_r11, dv_r12, dv_r13, dv_r14, dv_r15, Option.bind_some, Bool.cond_decide, am_oI_some, am_oV_some, am_oI_ite, am_oV_ite, am_bind_ite, Int.toNat_natCast, Int.toNat_zero, Int.reduceToNat, ite_true, ite_false, not_true_eq_false, not_false_eq_true, decide_true, decide_false, decide_eq_true_eq, Bool.false_eq_true, Nat.add_zero, am_rok1_0, am_rok1_1, cond_true, cond_false, am_w_nat1, true_or, or_true, false_or, or_false, true_and, and_true, false_and, and_false, Int.reduceEq, Int.reduceNeg, Int.reduceLT, Int.reduceLE, or_self, and_self, if_pos, if_neg]
    · have c1 := d_isToClean (d := d) (h := h) w (z := z) (by omega)
      have c2 := d_scoreOf (d := d) (h := h) w (z := z) (by omega) p
      cases e0 : cd_toC D z with
      | false =>
        rw [e0] at c1
        have hc : zah D p q z = false := by unfold zah; rw [e0]; rfl
        rw [cnt_f hc]
        refine ⟨v, ?_⟩
        simp (disch := omega) only [bk_234_69, hZ, c1, dv_f0, dv_f1, dv_f2, dv_f3, dv_f4, dv_f5, dv_f6, dv_f7, dv_f8, dv_f9, dv_f10, dv_f11, dv_f12, dv_f13, dv_g0, dv_g1, dv_g2, dv_i0, dv_i1, dv_p0, dv_p1, dv_isc, dv_iscL, dv_r0, dv_r1, dv_r2, dv_r3, dv_r4, dv_r5, dv_r6, dv_r7, dv_r8, dv_r9, dv_r10, dv_r11, dv_r12, dv_r13, dv_r14, dv_r15, Option.bind_some, Bool.cond_decide, am_oI_some, am_oV_some, am_oI_ite, am_oV_ite, am_bind_ite, Int.toNat_natCast, Int.toNat_zero, Int.reduceToNat, ite_true, ite_false, not_true_eq_false, not_false_eq_true, decide_true, decide_false, decide_eq_true_eq, Bool.false_eq_true, Nat.add_zero, am_rok1_0, am_rok1_1, cond_true, cond_false, am_w_nat1, true_or, or_true, false_or, or_false, true_and, and_true, false_and, and_false, Int.reduceEq, Int.reduceNeg, Int.reduceLT, Int.reduceLE, or_self, and_self, if_pos, if_neg]
      | true =>
        rw [e0] at c1
        have hcb : zah D p q z = decide (cd_score D q p < cd_score D z p ∨ (cd_score D z p = cd_score D q p ∧ z < q)) := by unfold zah; rw [e0]; rfl
        refine ⟨am_I (cd_score D z p), ?_⟩
        generalize cd_score D q p = sq at hcb ⊢
        generalize cd_score D z p = sz at hcb c2 ⊢
        by_cases e2 : sq < sz
        · rw [cnt_t (hcb.trans (decide_eq_true (Or.inl e2)))]
          simp (disch := omega) only [bk_234_40, bk_234_66, bk_234_69, hZ, c1, c2, dv_f0, dv_f1, dv_f2, dv_f3, dv_f4, dv_f5, dv_f6, dv_f7, dv_f8, dv_f9, dv_f10, dv_f11, dv_f12, dv_f13, dv_g0, dv_g1, dv_g2, dv_i0, dv_i1, dv_p0, dv_p1, dv_isc, dv_iscL, dv_r0, dv_r1, dv_r2, dv_r3, dv_r4, dv_r5, dv_r6, dv_r7, dv_r8, dv_r9, dv_r10, dv_r11, dv_r12, dv_r13, dv_r14, dv_r15, Option.bind_some, Bool.cond_decide, am_oI_some, am_oV_some, am_oI_ite, am_oV_ite, am_bind_ite, Int.toNat_natCast, Int.toNat_zero, Int.reduceToNat, ite_true, ite_false, not_true_eq_false, not_false_eq_true, decide_true, decide_false, decide_eq_true_eq, Bool.false_eq_true, Nat.add_zero, am_rok1_0, am_rok1_1, cond_true, cond_false, am_w_nat1, true_or, or_true, false_or, or_false, true_and, and_true, false_and, and_false, Int.reduceEq, Int.reduceNeg, Int.reduceLT, Int.reduceLE, or_self, and_self, if_pos, if_neg]
        · by_cases e3 : sz = sq
          · by_cases e4 : z < q
            · rw [cnt_t (hcb.trans (decide_eq_true (Or.inr ⟨e3, e4⟩)))]
              simp (disch := omega) only [bk_234_40, bk_234_66, bk_234_69, hZ, c1, c2, dv_f0, dv_f1, dv_f2, dv_f3, dv_f4, dv_f5, dv_f6, dv_f7, dv_f8, dv_f9, dv_f10, dv_f11, dv_f12, dv_f13, dv_g0, dv_g1, dv_g2, dv_i0, dv_i1, dv_p0, dv_p1, dv_isc, dv_iscL, dv_r0, dv_r1, dv_r2, dv_r3, dv_r4, dv_r5, dv_r6, dv_r7, dv_r8, dv_r9, dv_r10, dv_r11, dv_r12, dv_r13, dv_r14, dv_r15, Option.bind_some, Bool.cond_decide, am_oI_some, am_oV_some, am_oI_ite, am_oV_ite, am_bind_ite, Int.toNat_natCast, Int.toNat_zero, Int.reduceToNat, ite_true, ite_false, not_true_eq_false, not_false_eq_true, decide_true, decide_false, decide_eq_true_eq, Bool.false_eq_true, Nat.add_zero, am_rok1_0, am_rok1_1, cond_true, cond_false, am_w_nat1, true_or, or_true, false_or, or_false, true_and, and_true, false_and, and_false, Int.reduceEq, Int.reduceNeg, Int.reduceLT, Int.reduceLE, or_self, and_self, if_pos, if_neg]
            · rw [cnt_f (hcb.trans (decide_eq_false (by omega)))]
              simp (disch := omega) only [bk_234_40, bk_234_69, hZ, c1, c2, dv_f0, dv_f1, dv_f2, dv_f3, dv_f4, dv_f5, dv_f6, dv_f7, dv_f8, dv_f9, dv_f10, dv_f11, dv_f12, dv_f13, dv_g0, dv_g1, dv_g2, dv_i0, dv_i1, dv_p0, dv_p1, dv_isc, dv_iscL, dv_r0, dv_r1, dv_r2, dv_r3, dv_r4, dv_r5, dv_r6, dv_r7, dv_r8, dv_r9, dv_r10, dv_r11, dv_r12, dv_r13, dv_r14, dv_r15, Option.bind_some, Bool.cond_decide, am_oI_some, am_oV_some, am_oI_ite, am_oV_ite, am_bind_ite, Int.toNat_natCast, Int.toNat_zero, Int.reduceToNat, ite_true, ite_false, not_true_eq_false, not_false_eq_true, decide_true, decide_false, decide_eq_true_eq, Bool.false_eq_true, Nat.add_zero, am_rok1_0, am_rok1_1, cond_true, cond_false, am_w_nat1, true_or, or_true, false_or, or_false, true_and, and_true, false_and, and_false, Int.reduceEq, Int.reduceNeg, Int.reduceLT, Int.reduceLE, or_self, and_self, if_pos, if_neg]
          · rw [cnt_f (hcb.trans (decide_eq_false (by omega)))]
            simp (disch := omega) only [bk_234_40, bk_234_69, hZ, c1, c2, dv_f0, dv_f1, dv_f2, dv_f3, dv_f4, dv_f5, dv_f6, dv_f7, dv_f8, dv_f9, dv_f10, dv_f11, dv_f12, dv_f13, dv_g0, dv_g1, dv_g2, dv_i0, dv_i1, dv_p0, dv_p1, dv_isc, dv_iscL, dv_r0, dv_r1, dv_r2, dv_r3, dv_r4, dv_r5, dv_r6, dv_r7, dv_r8, dv_r9, dv_r10, dv_r11, dv_r12, dv_r13, dv_r14, dv_r15, Option.bind_some, Bool.cond_decide, am_oI_some, am_oV_some, am_oI_ite, am_oV_ite, am_bind_ite, Int.toNat_natCast, Int.toNat_zero, Int.reduceToNat, ite_true, ite_false, not_true_eq_false, not_false_eq_true, decide_true, decide_false, decide_eq_true_eq, Bool.false_eq_true, Nat.add_zero, am_rok1_0, am_rok1_1, cond_true, cond_false, am_w_nat1, true_or, or_true, false_or, or_false, true_and, and_true, false_and, and_false, Int.reduceEq, Int.reduceNeg, Int.reduceLT, Int.reduceLE, or_self, and_self, if_pos, if_neg]
  obtain ⟨v', key⟩ := loop_v (fun (z : Nat) (v : am_V) => am_run am_ms 234 13 [am_R d, am_I p, am_I q, am_I (cd_score D q p), am_I (cnt (zah D p q) z), am_I z, v] [] (dv d D h)) Z step (am_K 1)
  have key' : am_run am_ms 234 13 [am_R d, am_I p, am_I q, am_I (cd_score D q p), am_I 0, am_I 0, am_K 1] [] (dv d D h) = am_run am_ms 234 13 [am_R d, am_I p, am_I q, am_I (cd_score D q p), am_I (cnt (zah D p q) Z), am_I Z, v'] [] (dv d D h) := key
  rw [am_cI, en_234, bk_234_0]
  simp only [dv_isc, cq, Option.bind_some, Bool.cond_decide, am_oI_some, am_oV_some, am_oI_ite, am_oV_ite, am_bind_ite, Int.toNat_natCast, Int.toNat_zero, Int.reduceToNat, ite_true, ite_false, not_true_eq_false, not_false_eq_true, decide_true, decide_false, decide_eq_true_eq, Bool.false_eq_true, Nat.add_zero, am_rok1_0, am_rok1_1, cond_true, cond_false, am_w_nat1, true_or, or_true, false_or, or_false, true_and, and_true, false_and, and_false, Int.reduceEq, Int.reduceNeg, Int.reduceLT, Int.reduceLE, or_self, and_self]
  rw [key', bk_234_13]
  simp (disch := omega) only [bk_234_75, hZ, dv_f0, dv_f1, dv_f2, dv_f3, dv_f4, dv_f5, dv_f6, dv_f7, dv_f8, dv_f9, dv_f10, dv_f11, dv_f12, dv_f13, dv_g0, dv_g1, dv_g2, dv_i0, dv_i1, dv_p0, dv_p1, dv_isc, dv_iscL, dv_r0, dv_r1, dv_r2, dv_r3, dv_r4, dv_r5, dv_r6, dv_r7, dv_r8, dv_r9, dv_r10, dv_r11, dv_r12, dv_r13, dv_r14, dv_r15, Option.bind_some, Bool.cond_decide, am_oI_some, am_oV_some, am_oI_ite, am_oV_ite, am_bind_ite, Int.toNat_natCast, Int.toNat_zero, Int.reduceToNat, ite_true, ite_false, not_true_eq_false, not_false_eq_true, decide_true, decide_false, decide_eq_true_eq, Bool.false_eq_true, Nat.add_zero, am_rok1_0, am_rok1_1, cond_true, cond_false, am_w_nat1, true_or, or_true, false_or, or_false, true_and, and_true, false_and, and_false, Int.reduceEq, Int.reduceNeg, Int.reduceLT, Int.reduceLE, or_self, and_self, if_pos, if_neg]
theorem s_zbr_step (w : DW D Z) (p i : Int) {z : Nat} (hz : z < Z) (hf : zbf D Z p i z = false) : am_run am_ms 235 2 [am_R d, am_I p, am_I i, am_I z] [] (dv d D h) = am_run am_ms 235 2 [am_R d, am_I p, am_I i, am_I ((z + 1 : Nat) : Int)] [] (dv d D h) := by
  have hZ := w.1
  have hZ8 := w.2.1
  have c1 := d_isToClean (d := d) (h := h) w (z := z) (by omega)
  have c2 := s_zonesAhead (d := d) (h := h) w (q := z) (by omega) p
  rw [bk_235_2]
  cases e0 : cd_toC D z with
  | false =>
    rw [e0] at c1
    simp (disch := omega) only [bk_235_32, hZ, c1, dv_f0, dv_f1, dv_f2, dv_f3, dv_f4, dv_f5, dv_f6, dv_f7, dv_f8, dv_f9, dv_f10, dv_f11, dv_f12, dv_f13, dv_g0, dv_g1, dv_g2, dv_i0, dv_i1, dv_p0, dv_p1, dv_isc, dv_iscL, dv_r0, dv_r1, dv_r2, dv_r3, dv_r4, dv_r5, dv_r6, dv_r7, dv_r8, dv_r9, dv_r10, dv_r11, dv_r12, dv_r13, dv_r14, dv_r15, Option.bind_some, Bool.cond_decide, am_oI_some, am_oV_some, am_oI_ite, am_oV_ite, am_bind_ite, Int.toNat_natCast, Int.toNat_zero, Int.reduceToNat, ite_true, ite_false, not_true_eq_false, not_false_eq_true, decide_true, decide_false, decide_eq_true_eq, Bool.false_eq_true, Nat.add_zero, am_rok1_0, am_rok1_1, cond_true, cond_false, am_w_nat1, true_or, or_true, false_or, or_false, true_and, and_true, false_and, and_false, Int.reduceEq, Int.reduceNeg, Int.reduceLT, Int.reduceLE, or_self, and_self, if_pos, if_neg]
  | true =>
    rw [e0] at c1
    unfold zbf at hf
    rw [e0, Bool.true_and] at hf
    have hf := of_decide_eq_false hf
    simp (disch := omega) only [bk_235_26, bk_235_32, hZ, c1, c2, dv_f0, dv_f1, dv_f2, dv_f3, dv_f4, dv_f5, dv_f6, dv_f7, dv_f8, dv_f9, dv_f10, dv_f11, dv_f12, dv_f13, dv_g0, dv_g1, dv_g2, dv_i0, dv_i1, dv_p0, dv_p1, dv_isc, dv_iscL, dv_r0, dv_r1, dv_r2, dv_r3, dv_r4, dv_r5, dv_r6, dv_r7, dv_r8, dv_r9, dv_r10, dv_r11, dv_r12, dv_r13, dv_r14, dv_r15, Option.bind_some, Bool.cond_decide, am_oI_some, am_oV_some, am_oI_ite, am_oV_ite, am_bind_ite, Int.toNat_natCast, Int.toNat_zero, Int.reduceToNat, ite_true, ite_false, not_true_eq_false, not_false_eq_true, decide_true, decide_false, decide_eq_true_eq, Bool.false_eq_true, Nat.add_zero, am_rok1_0, am_rok1_1, cond_true, cond_false, am_w_nat1, true_or, or_true, false_or, or_false, true_and, and_true, false_and, and_false, Int.reduceEq, Int.reduceNeg, Int.reduceLT, Int.reduceLE, or_self, and_self, if_pos, if_neg]
theorem s_zbr_no (w : DW D Z) {p i : Int} (hno : ∀ z, z < Z → zbf D Z p i z = false) : am_cI 235 [am_R d, am_I p, am_I i] (dv d D h) = some (-1, dv d D h) := by
  have hZ := w.1
  have hZ8 := w.2.1
  have key : am_run am_ms 235 2 [am_R d, am_I p, am_I i, am_I 0] [] (dv d D h) = am_run am_ms 235 2 [am_R d, am_I p, am_I i, am_I Z] [] (dv d D h) := loop_to (fun z : Nat => am_run am_ms 235 2 [am_R d, am_I p, am_I i, am_I z] [] (dv d D h)) Z (fun z hz => s_zbr_step w p i hz (hno z hz))
  rw [am_cI, en_235, bk_235_0, key, bk_235_2]
  simp (disch := omega) only [bk_235_38, hZ, dv_f0, dv_f1, dv_f2, dv_f3, dv_f4, dv_f5, dv_f6, dv_f7, dv_f8, dv_f9, dv_f10, dv_f11, dv_f12, dv_f13, dv_g0, dv_g1, dv_g2, dv_i0, dv_i1, dv_p0, dv_p1, dv_isc, dv_iscL, dv_r0, dv_r1, dv_r2, dv_r3, dv_r4, dv_r5, dv_r6, dv_r7, dv_r8, dv_r9, dv_r10, dv_r11, dv_r12, dv_r13, dv_r14, dv_r15, Option.bind_some, Bool.cond_decide, am_oI_some, am_oV_some, am_oI_ite, am_oV_ite, am_bind_ite, Int.toNat_natCast, Int.toNat_zero, Int.reduceToNat, ite_true, ite_false, not_true_eq_false, not_false_eq_true, decide_true, decide_false, decide_eq_true_eq, Bool.false_eq_true, Nat.add_zero, am_rok1_0, am_rok1_1, cond_true, cond_false, am_w_nat1, true_or, or_true, false_or, or_false, true_and, and_true, false_and, and_false, Int.reduceEq, Int.reduceNeg, Int.reduceLT, Int.reduceLE, or_self, and_self, if_pos, if_neg]
theorem s_zbr_at (w : DW D Z) {p i : Int} {j : Nat} (j1 : j < Z) (j2 : zbf D Z p i j = true) (j3 : ∀ z, z < j → zbf D Z p i z = false) : am_cI 235 [am_R d, am_I p, am_I i] (dv d D h) = some ((j : Int), dv d D h) := by
  have hZ := w.1
  have hZ8 := w.2.1
  have key : am_run am_ms 235 2 [am_R d, am_I p, am_I i, am_I 0] [] (dv d D h) = am_run am_ms 235 2 [am_R d, am_I p, am_I i, am_I j] [] (dv d D h) := loop_to (fun z : Nat => am_run am_ms 235 2 [am_R d, am_I p, am_I i, am_I z] [] (dv d D h)) j (fun z hz => s_zbr_step w p i (by omega) (j3 z hz))
  have c1 := d_isToClean (d := d) (h := h) w (z := j) (by omega)
  have c2 := s_zonesAhead (d := d) (h := h) w (q := j) (by omega) p
  unfold zbf at j2
  rw [Bool.and_eq_true] at j2
  have e2 := of_decide_eq_true j2.2
  rw [j2.1] at c1
  rw [am_cI, en_235, bk_235_0, key, bk_235_2]
  simp (disch := omega) only [bk_235_26, hZ, c1, c2, dv_f0, dv_f1, dv_f2, dv_f3, dv_f4, dv_f5, dv_f6, dv_f7, dv_f8, dv_f9, dv_f10, dv_f11, dv_f12, dv_f13, dv_g0, dv_g1, dv_g2, dv_i0, dv_i1, dv_p0, dv_p1, dv_isc, dv_iscL, dv_r0, dv_r1, dv_r2, dv_r3, dv_r4, dv_r5, dv_r6, dv_r7, dv_r8, dv_r9, dv_r10, dv_r11, dv_r12, dv_r13, dv_r14, dv_r15, Option.bind_some, Bool.cond_decide, am_oI_some, am_oV_some, am_oI_ite, am_oV_ite, am_bind_ite, Int.toNat_natCast, Int.toNat_zero, Int.reduceToNat, ite_true, ite_false, not_true_eq_false, not_false_eq_true, decide_true, decide_false, decide_eq_true_eq, Bool.false_eq_true, Nat.add_zero, am_rok1_0, am_rok1_1, cond_true, cond_false, am_w_nat1, true_or, or_true, false_or, or_false, true_and, and_true, false_and, and_false, Int.reduceEq, Int.reduceNeg, Int.reduceLT, Int.reduceLE, or_self, and_self, if_pos, if_neg]
end ORDC
