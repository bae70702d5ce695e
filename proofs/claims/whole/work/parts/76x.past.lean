/-! ===== past: the class's side ===== -/
theorem cnt_t {P : Nat → Bool} {p : Nat} (e : P p = true) : cnt P (p + 1) = cnt P p + 1 := by
  show cnt P p + (if P p = true then 1 else 0) = _
  rw [if_pos e]
theorem cnt_f {P : Nat → Bool} {p : Nat} (e : P p = false) : cnt P (p + 1) = cnt P p := by
  show cnt P p + (if P p = true then 1 else 0) = _
  rw [e]
  rfl
/-- p's block is of q's key and stands before it -/
def cpb (D : Nat → Nat → Int) (q p : Nat) : Bool := cd_has D p && decide (D 7 p = D 7 q ∧ (D 9 q < D 9 p ∨ (D 9 p = D 9 q ∧ p < q)))
/-- the place that past answers -/
def cpf (D : Nat → Nat → Int) (k i : Int) (q : Nat) : Bool := cd_has D q && decide (D 7 q = k ∧ (cnt (cpb D q) 128 : Int) = i)
section PASTC
variable {d : Nat} {D : Nat → Nat → Int} {h : am_H}
theorem s_copiesAhead {q : Nat} (hq : q < 128) : am_cI 265 [am_R d, am_I q] (dv d D h) = some ((cnt (cpb D q) 128 : Int), dv d D h) := by
  have step : ∀ (p : Nat) (v : am_V), p < 128 → ∃ v' : am_V, am_run am_ms 265 12 [am_R d, am_I q, am_I (D 9 q), am_I (cnt (cpb D q) p), am_I p, v] [] (dv d D h) = am_run am_ms 265 12 [am_R d, am_I q, am_I (D 9 q), am_I (cnt (cpb D q) (p + 1)), am_I ((p + 1 : Nat) : Int), v'] [] (dv d D h) := by
    intro p v hp
    have c1 := c_hasBlock d D h p hp
    have hle := cnt_le (cpb D q) p
    rw [bk_265_12]
    cases e0 : cd_has D p with
    | false =>
      rw [e0] at c1
      have hc : cpb D q p = false := by unfold cpb; rw [e0]; rfl
      rw [cnt_f hc]
      refine ⟨v, ?_⟩
      simp (disch := omega) only [bk_265_75, c1, dv_f0, dv_f1, dv_f2, dv_f3, dv_f4, dv_f5, dv_f6, dv_f7, dv_f8, dv_f9, dv_f10, dv_f11, dv_f12, dv_f13, dv_g0, dv_g1, dv_g2, dv_i0, dv_i1, dv_p0, dv_p1, dv_isc, dv_iscL, dv_r0, dv_r1, dv_r2, dv_r3, dv_r4, dv_r5, dv_r6, dv_r7, dv_r8, dv_r9, dv_r10, dv_r11, dv_r12, dv_r13, dv_r14, dv_r15, Option.bind_some, Bool.cond_decide, am_oI_some, am_oV_some, am_oI_ite, am_oV_ite, am_bind_ite, Int.toNat_natCast, Int.toNat_zero, Int.reduceToNat, ite_true, ite_false, not_true_eq_false, not_false_eq_true, decide_true, decide_false, decide_eq_true_eq, Bool.false_eq_true, Nat.add_zero, am_rok1_0, am_rok1_1, cond_true, cond_false, am_w_nat1, true_or, or_true, false_or, or_false, true_and, and_true, false_and, and_false, Int.reduceEq, Int.reduceNeg, Int.reduceLT, Int.reduceLE, or_self, and_self, if_pos, if_neg]
    | true =>
      rw [e0] at c1
      have hcb : cpb D q p = decide (D 7 p = D 7 q ∧ (D 9 q < D 9 p ∨ (D 9 p = D 9 q ∧ p < q))) := by unfold cpb; rw [e0]; rfl
      by_cases e1 : D 7 p = D 7 q
      · by_cases e2 : D 9 q < D 9 p
        · rw [cnt_t (hcb.trans (decide_eq_true ⟨e1, Or.inl e2⟩))]
          refine ⟨am_I (D 9 p), ?_⟩
          simp (disch := omega) only [bk_265_41, bk_265_72, bk_265_75, c1, dv_f0, dv_f1, dv_f2, dv_f3, dv_f4, dv_f5, dv_f6, dv_f7, dv_f8, dv_f9, dv_f10, dv_f11, dv_f12, dv_f13, dv_g0, dv_g1, dv_g2, dv_i0, dv_i1, dv_p0, dv_p1, dv_isc, dv_iscL, dv_r0, dv_r1, dv_r2, dv_r3, dv_r4, dv_r5, dv_r6, dv_r7, dv_r8, dv_r9, dv_r10, dv_r11, dv_r12, dv_r13, dv_r14, dv_r15, Option.bind_some, Bool.cond_decide, am_oI_some, am_oV_some, am_oI_ite, am_oV_ite, am_bind_ite, Int.toNat_natCast, Int.toNat_zero, Int.reduceToNat, ite_true, ite_false, not_true_eq_false, not_false_eq_true, decide_true, decide_false, decide_eq_true_eq, Bool.false_eq_true, Nat.add_zero, am_rok1_0, am_rok1_1, cond_true, cond_false, am_w_nat1, true_or, or_true, false_or, or_false, true_and, and_true, false_and, and_false, Int.reduceEq, Int.reduceNeg, Int.reduceLT, Int.reduceLE, or_self, and_self, if_pos, if_neg]
        · by_cases e3 : D 9 p = D 9 q
          · by_cases e4 : p < q
            · rw [cnt_t (hcb.trans (decide_eq_true ⟨e1, Or.inr ⟨e3, e4⟩⟩))]
              refine ⟨am_I (D 9 p), ?_⟩
              simp (disch := omega) only [bk_265_41, bk_265_68, bk_265_72, bk_265_75, c1, dv_f0, dv_f1, dv_f2, dv_f3, dv_f4, dv_f5, dv_f6, dv_f7, dv_f8, dv_f9, dv_f10, dv_f11, dv_f12, dv_f13, dv_g0, dv_g1, dv_g2, dv_i0, dv_i1, dv_p0, dv_p1, dv_isc, dv_iscL, dv_r0, dv_r1, dv_r2, dv_r3, dv_r4, dv_r5, dv_r6, dv_r7, dv_r8, dv_r9, dv_r10, dv_r11, dv_r12, dv_r13, dv_r14, dv_r15, Option.bind_some, Bool.cond_decide, am_oI_some, am_oV_some, am_oI_ite, am_oV_ite, am_bind_ite, Int.toNat_natCast, Int.toNat_zero, Int.reduceToNat, ite_true, ite_false, not_true_eq_false, not_false_eq_true, decide_true, decide_false, decide_eq_true_eq, Bool.false_eq_true, Nat.add_zero, am_rok1_0, am_rok1_1, cond_true, cond_false, am_w_nat1, true_or, or_true, false_or, or_false, true_and, and_true, false_and, and_false, Int.reduceEq, Int.reduceNeg, Int.reduceLT, Int.reduceLE, or_self, and_self, if_pos, if_neg]
            · rw [cnt_f (hcb.trans (decide_eq_false (by omega)))]
              refine ⟨am_I (D 9 p), ?_⟩
              simp (disch := omega) only [bk_265_41, bk_265_68, bk_265_75, c1, dv_f0, dv_f1, dv_f2, dv_f3, dv_f4, dv_f5, dv_f6, dv_f7, dv_f8, dv_f9, dv_f10, dv_f11, dv_f12, dv_f13, dv_g0, dv_g1, dv_g2, dv_i0, dv_i1, dv_p0, dv_p1, dv_isc, dv_iscL, dv_r0, dv_r1, dv_r2, dv_r3, dv_r4, dv_r5, dv_r6, dv_r7, dv_r8, dv_r9, dv_r10, dv_r11, dv_r12, dv_r13, dv_r14, dv_r15, Option.bind_some, Bool.cond_decide, am_oI_some, am_oV_some, am_oI_ite, am_oV_ite, am_bind_ite, Int.toNat_natCast, Int.toNat_zero, Int.reduceToNat, ite_true, ite_false, not_true_eq_false, not_false_eq_true, decide_true, decide_false, decide_eq_true_eq, Bool.false_eq_true, Nat.add_zero, am_rok1_0, am_rok1_1, cond_true, cond_false, am_w_nat1, true_or, or_true, false_or, or_false, true_and, and_true, false_and, and_false, Int.reduceEq, Int.reduceNeg, Int.reduceLT, Int.reduceLE, or_self, and_self, if_pos, if_neg]
          · rw [cnt_f (hcb.trans (decide_eq_false (by omega)))]
            refine ⟨am_I (D 9 p), ?_⟩
            simp (disch := omega) only [bk_265_41, bk_265_75, c1, dv_f0, dv_f1, dv_f2, dv_f3, dv_f4, dv_f5, dv_f6, dv_f7, dv_f8, dv_f9, dv_f10, dv_f11, dv_f12, dv_f13, dv_g0, dv_g1, dv_g2, dv_i0, dv_i1, dv_p0, dv_p1, dv_isc, dv_iscL, dv_r0, dv_r1, dv_r2, dv_r3, dv_r4, dv_r5, dv_r6, dv_r7, dv_r8, dv_r9, dv_r10, dv_r11, dv_r12, dv_r13, dv_r14, dv_r15, Option.bind_some, Bool.cond_decide, am_oI_some, am_oV_some, am_oI_ite, am_oV_ite, am_bind_ite, Int.toNat_natCast, Int.toNat_zero, Int.reduceToNat, ite_true, ite_false, not_true_eq_false, not_false_eq_true, decide_true, decide_false, decide_eq_true_eq, Bool.false_eq_true, Nat.add_zero, am_rok1_0, am_rok1_1, cond_true, cond_false, am_w_nat1, true_or, or_true, false_or, or_false, true_and, and_true, false_and, and_false, Int.reduceEq, Int.reduceNeg, Int.reduceLT, Int.reduceLE, or_self, and_self, if_pos, if_neg]
      · rw [cnt_f (hcb.trans (decide_eq_false (by omega)))]
        refine ⟨v, ?_⟩
        simp (disch := omega) only [bk_265_41, bk_265_75, c1, dv_f0, dv_f1, dv_f2, dv_f3, dv_f4, dv_f5, dv_f6, dv_f7, dv_f8, dv_f9, dv_f10, dv_f11, dv_f12, dv_f13, dv_g0, dv_g1, dv_g2, dv_i0, dv_i1, dv_p0, dv_p1, dv_isc, dv_iscL, dv_r0, dv_r1, dv_r2, dv_r3, dv_r4, dv_r5, dv_r6, dv_r7, dv_r8, dv_r9, dv_r10, dv_r11, dv_r12, dv_r13, dv_r14, dv_r15, Option.bind_some, Bool.cond_decide, am_oI_some, am_oV_some, am_oI_ite, am_oV_ite, am_bind_ite, Int.toNat_natCast, Int.toNat_zero, Int.reduceToNat, ite_true, ite_false, not_true_eq_false, not_false_eq_true, decide_true, decide_false, decide_eq_true_eq, Bool.false_eq_true, Nat.add_zero, am_rok1_0, am_rok1_1, cond_true, cond_false, am_w_nat1, true_or, or_true, false_or, or_false, true_and, and_true, false_and, and_false, Int.reduceEq, Int.reduceNeg, Int.reduceLT, Int.reduceLE, or_self, and_self, if_pos, if_neg]
  obtain ⟨v', key⟩ := loop_v (fun (p : Nat) (v : am_V) => am_run am_ms 265 12 [am_R d, am_I q, am_I (D 9 q), am_I (cnt (cpb D q) p), am_I p, v] [] (dv d D h)) 128 step (am_K 1)
  have key' : am_run am_ms 265 12 [am_R d, am_I q, am_I (D 9 q), am_I 0, am_I 0, am_K 1] [] (dv d D h) = am_run am_ms 265 12 [am_R d, am_I q, am_I (D 9 q), am_I (cnt (cpb D q) 128), am_I 128, v'] [] (dv d D h) := key
  rw [am_cI, en_265, bk_265_0]
  simp (disch := omega) only [dv_f9, dv_r9, Option.bind_some, Bool.cond_decide, am_oI_some, am_oV_some, am_oI_ite, am_oV_ite, am_bind_ite, Int.toNat_natCast, Int.toNat_zero, Int.reduceToNat, ite_true, ite_false, not_true_eq_false, not_false_eq_true, decide_true, decide_false, decide_eq_true_eq, Bool.false_eq_true, Nat.add_zero, am_rok1_0, am_rok1_1, cond_true, cond_false, am_w_nat1, true_or, or_true, false_or, or_false, true_and, and_true, false_and, and_false, Int.reduceEq, Int.reduceNeg, Int.reduceLT, Int.reduceLE, or_self, and_self]
  rw [key', bk_265_12]
  simp (disch := omega) only [bk_265_81, dv_f0, dv_f1, dv_f2, dv_f3, dv_f4, dv_f5, dv_f6, dv_f7, dv_f8, dv_f9, dv_f10, dv_f11, dv_f12, dv_f13, dv_g0, dv_g1, dv_g2, dv_i0, dv_i1, dv_p0, dv_p1, dv_isc, dv_iscL, dv_r0, dv_r1, dv_r2, dv_r3, dv_r4, dv_r5, dv_r6, dv_r7, dv_r8, dv_r9, dv_r10, dv_r11, dv_r12, dv_r13, dv_r14, dv_r15, Option.bind_some, Bool.cond_decide, am_oI_some, am_oV_some, am_oI_ite, am_oV_ite, am_bind_ite, Int.toNat_natCast, Int.toNat_zero, Int.reduceToNat, ite_true, ite_false, not_true_eq_false, not_false_eq_true, decide_true, decide_false, decide_eq_true_eq, Bool.false_eq_true, Nat.add_zero, am_rok1_0, am_rok1_1, cond_true, cond_false, am_w_nat1, true_or, or_true, false_or, or_false, true_and, and_true, false_and, and_false, Int.reduceEq, Int.reduceNeg, Int.reduceLT, Int.reduceLE, or_self, and_self, if_pos, if_neg]
theorem s_cbr_step (k i : Int) {p : Nat} (hp : p < 128) (hf : cpf D k i p = false) : am_run am_ms 266 2 [am_R d, am_I k, am_I i, am_I p] [] (dv d D h) = am_run am_ms 266 2 [am_R d, am_I k, am_I i, am_I ((p + 1 : Nat) : Int)] [] (dv d D h) := by
  have c1 := c_hasBlock d D h p hp
  have c2 := s_copiesAhead (d := d) (D := D) (h := h) hp
  rw [bk_266_2]
  cases e0 : cd_has D p with
  | false =>
    rw [e0] at c1
    simp (disch := omega) only [bk_266_38, c1, dv_f0, dv_f1, dv_f2, dv_f3, dv_f4, dv_f5, dv_f6, dv_f7, dv_f8, dv_f9, dv_f10, dv_f11, dv_f12, dv_f13, dv_g0, dv_g1, dv_g2, dv_i0, dv_i1, dv_p0, dv_p1, dv_isc, dv_iscL, dv_r0, dv_r1, dv_r2, dv_r3, dv_r4, dv_r5, dv_r6, dv_r7, dv_r8, dv_r9, dv_r10, dv_r11, dv_r12, dv_r13, dv_r14, dv_r15, Option.bind_some, Bool.cond_decide, am_oI_some, am_oV_some, am_oI_ite, am_oV_ite, am_bind_ite, Int.toNat_natCast, Int.toNat_zero, Int.reduceToNat, ite_true, ite_false, not_true_eq_false, not_false_eq_true, decide_true, decide_false, decide_eq_true_eq, Bool.false_eq_true, Nat.add_zero, am_rok1_0, am_rok1_1, cond_true, cond_false, am_w_nat1, true_or, or_true, false_or, or_false, true_and, and_true, false_and, and_false, Int.reduceEq, Int.reduceNeg, Int.reduceLT, Int.reduceLE, or_self, and_self, if_pos, if_neg]
  | true =>
    rw [e0] at c1
    unfold cpf at hf
    rw [e0, Bool.true_and] at hf
    have hf := of_decide_eq_false hf
    by_cases e1 : D 7 p = k
    · have e2 : ¬ (cnt (cpb D p) 128 : Int) = i := fun q => hf ⟨e1, q⟩
      simp (disch := omega) only [bk_266_28, bk_266_38, c1, c2, dv_f0, dv_f1, dv_f2, dv_f3, dv_f4, dv_f5, dv_f6, dv_f7, dv_f8, dv_f9, dv_f10, dv_f11, dv_f12, dv_f13, dv_g0, dv_g1, dv_g2, dv_i0, dv_i1, dv_p0, dv_p1, dv_isc, dv_iscL, dv_r0, dv_r1, dv_r2, dv_r3, dv_r4, dv_r5, dv_r6, dv_r7, dv_r8, dv_r9, dv_r10, dv_r11, dv_r12, dv_r13, dv_r14, dv_r15, Option.bind_some, Bool.cond_decide, am_oI_some, am_oV_some, am_oI_ite, am_oV_ite, am_bind_ite, Int.toNat_natCast, Int.toNat_zero, Int.reduceToNat, ite_true, ite_false, not_true_eq_false, not_false_eq_true, decide_true, decide_false, decide_eq_true_eq, Bool.false_eq_true, Nat.add_zero, am_rok1_0, am_rok1_1, cond_true, cond_false, am_w_nat1, true_or, or_true, false_or, or_false, true_and, and_true, false_and, and_false, Int.reduceEq, Int.reduceNeg, Int.reduceLT, Int.reduceLE, or_self, and_self, if_pos, if_neg]
    · simp (disch := omega) only [bk_266_38, c1, dv_f0, dv_f1, dv_f2, dv_f3, dv_f4, dv_f5, dv_f6, dv_f7, dv_f8, dv_f9, dv_f10, dv_f11, dv_f12, dv_f13, dv_g0, dv_g1, dv_g2, dv_i0, dv_i1, dv_p0, dv_p1, dv_isc, dv_iscL, dv_r0, dv_r1, dv_r2, dv_r3, dv_r4, dv_r5, dv_r6, dv_r7, dv_r8, dv_r9, dv_r10, dv_r11, dv_r12, dv_r13, dv_r14, dv_r15, Option.bind_some, Bool.cond_decide, am_oI_some, am_oV_some, am_oI_ite, am_oV_ite, am_bind_ite, Int.toNat_natCast, Int.toNat_zero, Int.reduceToNat, ite_true, ite_false, not_true_eq_false, not_false_eq_true, decide_true, decide_false, decide_eq_true_eq, Bool.false_eq_true, Nat.add_zero, am_rok1_0, am_rok1_1, cond_true, cond_false, am_w_nat1, true_or, or_true, false_or, or_false, true_and, and_true, false_and, and_false, Int.reduceEq, Int.reduceNeg, Int.reduceLT, Int.reduceLE, or_self, and_self, if_pos, if_neg]
theorem s_cbr_no {k i : Int} (hno : ∀ p, p < 128 → cpf D k i p = false) : am_cI 266 [am_R d, am_I k, am_I i] (dv d D h) = some (-1, dv d D h) := by
  have key : am_run am_ms 266 2 [am_R d, am_I k, am_I i, am_I 0] [] (dv d D h) = am_run am_ms 266 2 [am_R d, am_I k, am_I i, am_I 128] [] (dv d D h) := loop_to (fun p : Nat => am_run am_ms 266 2 [am_R d, am_I k, am_I i, am_I p] [] (dv d D h)) 128 (fun p hp => s_cbr_step k i hp (hno p hp))
  rw [am_cI, en_266, bk_266_0, key, bk_266_2]
  simp (disch := omega) only [bk_266_44, dv_f0, dv_f1, dv_f2, dv_f3, dv_f4, dv_f5, dv_f6, dv_f7, dv_f8, dv_f9, dv_f10, dv_f11, dv_f12, dv_f13, dv_g0, dv_g1, dv_g2, dv_i0, dv_i1, dv_p0, dv_p1, dv_isc, dv_iscL, dv_r0, dv_r1, dv_r2, dv_r3, dv_r4, dv_r5, dv_r6, dv_r7, dv_r8, dv_r9, dv_r10, dv_r11, dv_r12, dv_r13, dv_r14, dv_r15, Option.bind_some, Bool.cond_decide, am_oI_some, am_oV_some, am_oI_ite, am_oV_ite, am_bind_ite, Int.toNat_natCast, Int.toNat_zero, Int.reduceToNat, ite_true, ite_false, not_true_eq_false, not_false_eq_true, decide_true, decide_false, decide_eq_true_eq, Bool.false_eq_true, Nat.add_zero, am_rok1_0, am_rok1_1, cond_true, cond_false, am_w_nat1, true_or, or_true, false_or, or_false, true_and, and_true, false_and, and_false, Int.reduceEq, Int.reduceNeg, Int.reduceLT, Int.reduceLE, or_self, and_self, if_pos, if_neg]
theorem s_cbr_at {k i : Int} {j : Nat} (j1 : j < 128) (j2 : cpf D k i j = true) (j3 : ∀ p, p < j → cpf D k i p = false) : am_cI 266 [am_R d, am_I k, am_I i] (dv d D h) = some ((j : Int), dv d D h) := by
  have key : am_run am_ms 266 2 [am_R d, am_I k, am_I i, am_I 0] [] (dv d D h) = am_run am_ms 266 2 [am_R d, am_I k, am_I i, am_I j] [] (dv d D h) := loop_to (fun p : Nat => am_run am_ms 266 2 [am_R d, am_I k, am_I i, am_I p] [] (dv d D h)) j (fun p hp => s_cbr_step k i (by omega) (j3 p hp))
  have c1 := c_hasBlock d D h j j1
  have c2 := s_copiesAhead (d := d) (D := D) (h := h) j1
  unfold cpf at j2
  rw [Bool.and_eq_true] at j2
  have hj := of_decide_eq_true j2.2
  rw [j2.1] at c1
  have e1 := hj.1
  have e2 := hj.2
  rw [am_cI, en_266, bk_266_0, key, bk_266_2]
  simp (disch := omega) only [bk_266_28, c1, c2, dv_f0, dv_f1, dv_f2, dv_f3, dv_f4, dv_f5, dv_f6, dv_f7, dv_f8, dv_f9, dv_f10, dv_f11, dv_f12, dv_f13, dv_g0, dv_g1, dv_g2, dv_i0, dv_i1, dv_p0, dv_p1, dv_isc, dv_iscL, dv_r0, dv_r1, dv_r2, dv_r3, dv_r4, dv_r5, dv_r6, dv_r7, dv_r8, dv_r9, dv_r10, dv_r11, dv_r12, dv_r13, dv_r14, dv_r15, Option.bind_some, Bool.cond_decide, am_oI_some, am_oV_some, am_oI_ite, am_oV_ite, am_bind_ite, Int.toNat_natCast, Int.toNat_zero, Int.reduceToNat, ite_true, ite_false, not_true_eq_false, not_false_eq_true, decide_true, decide_false, decide_eq_true_eq, Bool.false_eq_true, Nat.add_zero, am_rok1_0, am_rok1_1, cond_true, cond_false, am_w_nat1, true_or, or_true, false_or, or_false, true_and, and_true, false_and, and_false, Int.reduceEq, Int.reduceNeg, Int.reduceLT, Int.reduceLE, or_self, and_self, if_pos, if_neg]
end PASTC
