/-! ===== what the class's drive does: learning, zones taken ===== -/
/-- a block is learnt -/
def ln (D : Nat → Nat → Int) (p : Nat) : Nat → Nat → Int :=
  dup (dup (dup D 10 (D 7 p).toNat (if D 10 (D 7 p).toNat = -1 ∨ D 9 (D 10 (D 7 p).toNat).toNat < D 9 p ∨ (D 9 p = D 9 (D 10 (D 7 p).toNat).toNat ∧ (p : Int) < D 10 (D 7 p).toNat) then (p : Int) else D 10 (D 7 p).toNat)) 11 (D 7 p).toNat (if D 10 (D 7 p).toNat = -1 then D 9 p else am_min (D 11 (D 7 p).toNat) (D 9 p))) 12 (D 7 p).toNat (am_w (D 12 (D 7 p).toNat + 1))
/-- all forgotten -/
def la0 (D : Nat → Nat → Int) : Nat → Nat → Int := drow (drow (drow D 10 (fl 32 (-1) (D 10))) 11 (fl 32 0 (D 11))) 12 (fl 32 0 (D 12))
def la (D : Nat → Nat → Int) : Nat → Nat → Nat → Int
  | 0 => la0 D
  | n + 1 => if cd_has D n = true then ln (la D n) n else la D n
theorem ln_o (D : Nat → Nat → Int) (p : Nat) {r : Nat} (hr : r < 10 ∨ 12 < r) : ln D p r = D r := by
  unfold ln
  rw [dup_o _ _ _ (by omega), dup_o _ _ _ (by omega), dup_o _ _ _ (by omega)]
theorem la_o (D : Nat → Nat → Int) {r : Nat} (hr : r < 10 ∨ 12 < r) : ∀ n, la D n r = D r := by
  intro n
  induction n with
  | zero =>
    show la0 D r = D r
    unfold la0
    rw [drow_o _ _ (by omega), drow_o _ _ (by omega), drow_o _ _ (by omega)]
  | succ n ih =>
    unfold la
    split
    · rw [ln_o _ _ hr, ih]
    · exact ih
theorem cd_has_of {D E : Nat → Nat → Int} (h0 : D 0 = E 0) (h3 : D 3 = E 3) (p : Nat) : cd_has D p = cd_has E p := by unfold cd_has; rw [h0, h3]
theorem ln_10 {D : Nat → Nat → Int} {p : Nat} (hp : p < 128) (h : ∀ k, k < 32 → D 10 k = -1 ∨ (0 ≤ D 10 k ∧ D 10 k < 128)) : ∀ k, k < 32 → ln D p 10 k = -1 ∨ (0 ≤ ln D p 10 k ∧ ln D p 10 k < 128) := by
  intro k hk
  have e : ln D p 10 k = if k = (D 7 p).toNat then (if D 10 (D 7 p).toNat = -1 ∨ D 9 (D 10 (D 7 p).toNat).toNat < D 9 p ∨ (D 9 p = D 9 (D 10 (D 7 p).toNat).toNat ∧ (p : Int) < D 10 (D 7 p).toNat) then (p : Int) else D 10 (D 7 p).toNat) else D 10 k := by
    unfold ln
    rw [dup_o _ _ _ (by omega), dup_o _ _ _ (by omega), dup_t]
    rfl
  rw [e]
  split
  · rename_i e1
    split
    · omega
    · rw [← e1]; exact h k hk
  · exact h k hk
theorem la_10 (D : Nat → Nat → Int) : ∀ n, n ≤ 128 → ∀ k, k < 32 → la D n 10 k = -1 ∨ (0 ≤ la D n 10 k ∧ la D n 10 k < 128) := by
  intro n
  induction n with
  | zero =>
    intro _ k hk
    left
    show la0 D 10 k = -1
    unfold la0
    rw [drow_o _ _ (by omega), drow_o _ _ (by omega), drow_t]
    exact if_pos hk
  | succ n ih =>
    intro hn
    unfold la
    split
    · exact ln_10 (by omega) (ih (by omega))
    · exact ih (by omega)
theorem cd_has_lt {D : Nat → Nat → Int} {Z : Nat} (w : DW D Z) {p : Nat} (hp : p < 128) (h : cd_has D p = true) : 0 ≤ D 7 p ∧ D 7 p < 32 := by
  have := of_decide_eq_true (h : decide _ = true)
  have h5 := w.2.2.2.2.2.1 (p / 16) (p % 16) (by omega) this.2
  rw [show 16 * (p / 16) + p % 16 = p by omega] at h5
  exact h5
section DRV5
variable {d : Nat} {D : Nat → Nat → Int} {h : am_H} {Z : Nat}
theorem d_learn (hl : ∀ k, k < 32 → D 10 k = -1 ∨ (0 ≤ D 10 k ∧ D 10 k < 128)) {p : Nat} (hp : p < 128) (hk : 0 ≤ D 7 p ∧ D 7 p < 32) : am_cV 66 [am_R d, am_I p] (dv d D h) = some (dv d (ln D p) h) := by
  unfold ln
  obtain ⟨K, hK⟩ : ∃ K : Nat, D 7 p = K := ⟨(D 7 p).toNat, by omega⟩
  rw [hK, Int.toNat_natCast]
  have h10 := hl K (by omega)
  by_cases h1 : D 10 K = -1
  · rw [am_cV]; simp (disch := omega) only [en_66, bk_66_0, bk_66_20, bk_66_42, bk_66_45, bk_66_70, bk_66_73, bk_66_80, bk_66_96, hK, h1, dv_f0, dv_f1, dv_f2, dv_f3, dv_f4, dv_f5, dv_f6, dv_f7, dv_f8, dv_f9, dv_f10, dv_f11, dv_f12, dv_f13, dv_g0, dv_g1, dv_g2, dv_i0, dv_i1, dv_p0, dv_p1, dv_isc, dv_iscL, dv_r0, dv_r1, dv_r2, dv_r3, dv_r4, dv_r5, dv_r6, dv_r7, dv_r8, dv_r9, dv_r10, dv_r11, dv_r12, dv_r13, dv_r14, dv_r15, dv_w0, dv_w1, dv_w2, dv_w3, dv_w4, dv_w5, dv_w6, dv_w7, dv_w8, dv_w9, dv_w10, dv_w11, dv_w12, dv_w13, dv_w14, dv_w15, dup_t, dup_o, va_up_self, va_up_ne, drow_t, drow_o, Option.bind_some, Bool.cond_decide, am_oI_some, am_oV_some, am_oI_ite, am_oV_ite, am_bind_ite, Int.toNat_natCast, Int.toNat_zero, Int.reduceToNat, ite_true, ite_false, not_true_eq_false, not_false_eq_true, decide_true, decide_false, decide_eq_true_eq, Bool.false_eq_true, Nat.add_zero, am_rok1_0, am_rok1_1, cond_true, cond_false, am_w_nat1, true_or, or_true, false_or, or_false, true_and, and_true, false_and, and_false, Int.reduceEq, Int.reduceNeg, Int.reduceLT, Int.reduceLE, or_self, and_self, if_pos, if_neg]
  · have h2 : 0 ≤ D 10 K ∧ D 10 K < 128 := h10.resolve_left h1
    by_cases h3 : D 9 (D 10 K).toNat < D 9 p
    · rw [am_cV]; simp (disch := omega) only [en_66, bk_66_0, bk_66_20, bk_66_42, bk_66_45, bk_66_70, bk_66_73, bk_66_80, bk_66_96, hK, h1, h3, dv_f0, dv_f1, dv_f2, dv_f3, dv_f4, dv_f5, dv_f6, dv_f7, dv_f8, dv_f9, dv_f10, dv_f11, dv_f12, dv_f13, dv_g0, dv_g1, dv_g2, dv_i0, dv_i1, dv_p0, dv_p1, dv_isc, dv_iscL, dv_r0, dv_r1, dv_r2, dv_r3, dv_r4, dv_r5, dv_r6, dv_r7, dv_r8, dv_r9, dv_r10, dv_r11, dv_r12, dv_r13, dv_r14, dv_r15, dv_w0, dv_w1, dv_w2, dv_w3, dv_w4, dv_w5, dv_w6, dv_w7, dv_w8, dv_w9, dv_w10, dv_w11, dv_w12, dv_w13, dv_w14, dv_w15, dup_t, dup_o, va_up_self, va_up_ne, drow_t, drow_o, Option.bind_some, Bool.cond_decide, am_oI_some, am_oV_some, am_oI_ite, am_oV_ite, am_bind_ite, Int.toNat_natCast, Int.toNat_zero, Int.reduceToNat, ite_true, ite_false, not_true_eq_false, not_false_eq_true, decide_true, decide_false, decide_eq_true_eq, Bool.false_eq_true, Nat.add_zero, am_rok1_0, am_rok1_1, cond_true, cond_false, am_w_nat1, true_or, or_true, false_or, or_false, true_and, and_true, false_and, and_false, Int.reduceEq, Int.reduceNeg, Int.reduceLT, Int.reduceLE, or_self, and_self, if_pos, if_neg]
    · by_cases h4 : D 9 p = D 9 (D 10 K).toNat
      · by_cases h5 : (p : Int) < D 10 K
        · rw [am_cV]; simp (disch := omega) only [en_66, bk_66_0, bk_66_20, bk_66_42, bk_66_45, bk_66_70, bk_66_73, bk_66_80, bk_66_96, hK, h1, h3, h4, h5, dv_f0, dv_f1, dv_f2, dv_f3, dv_f4, dv_f5, dv_f6, dv_f7, dv_f8, dv_f9, dv_f10, dv_f11, dv_f12, dv_f13, dv_g0, dv_g1, dv_g2, dv_i0, dv_i1, dv_p0, dv_p1, dv_isc, dv_iscL, dv_r0, dv_r1, dv_r2, dv_r3, dv_r4, dv_r5, dv_r6, dv_r7, dv_r8, dv_r9, dv_r10, dv_r11, dv_r12, dv_r13, dv_r14, dv_r15, dv_w0, dv_w1, dv_w2, dv_w3, dv_w4, dv_w5, dv_w6, dv_w7, dv_w8, dv_w9, dv_w10, dv_w11, dv_w12, dv_w13, dv_w14, dv_w15, dup_t, dup_o, va_up_self, va_up_ne, drow_t, drow_o, Option.bind_some, Bool.cond_decide, am_oI_some, am_oV_some, am_oI_ite, am_oV_ite, am_bind_ite, Int.toNat_natCast, Int.toNat_zero, Int.reduceToNat, ite_true, ite_false, not_true_eq_false, not_false_eq_true, decide_true, decide_false, decide_eq_true_eq, Bool.false_eq_true, Nat.add_zero, am_rok1_0, am_rok1_1, cond_true, cond_false, am_w_nat1, true_or, or_true, false_or, or_false, true_and, and_true, false_and, and_false, Int.reduceEq, Int.reduceNeg, Int.reduceLT, Int.reduceLE, or_self, and_self, if_pos, if_neg]
        · have e : dup D 10 K (D 10 K) = D := dup_self D 10 K
          rw [if_neg (by omega), e]
          rw [am_cV]; simp (disch := omega) only [en_66, bk_66_0, bk_66_20, bk_66_42, bk_66_45, bk_66_70, bk_66_73, bk_66_80, bk_66_96, hK, h1, dv_f0, dv_f1, dv_f2, dv_f3, dv_f4, dv_f5, dv_f6, dv_f7, dv_f8, dv_f9, dv_f10, dv_f11, dv_f12, dv_f13, dv_g0, dv_g1, dv_g2, dv_i0, dv_i1, dv_p0, dv_p1, dv_isc, dv_iscL, dv_r0, dv_r1, dv_r2, dv_r3, dv_r4, dv_r5, dv_r6, dv_r7, dv_r8, dv_r9, dv_r10, dv_r11, dv_r12, dv_r13, dv_r14, dv_r15, dv_w0, dv_w1, dv_w2, dv_w3, dv_w4, dv_w5, dv_w6, dv_w7, dv_w8, dv_w9, dv_w10, dv_w11, dv_w12, dv_w13, dv_w14, dv_w15, dup_t, dup_o, va_up_self, va_up_ne, drow_t, drow_o, Option.bind_some, Bool.cond_decide, am_oI_some, am_oV_some, am_oI_ite, am_oV_ite, am_bind_ite, Int.toNat_natCast, Int.toNat_zero, Int.reduceToNat, ite_true, ite_false, not_true_eq_false, not_false_eq_true, decide_true, decide_false, decide_eq_true_eq, Bool.false_eq_true, Nat.add_zero, am_rok1_0, am_rok1_1, cond_true, cond_false, am_w_nat1, true_or, or_true, false_or, or_false, true_and, and_true, false_and, and_false, Int.reduceEq, Int.reduceNeg, Int.reduceLT, Int.reduceLE, or_self, and_self, if_pos, if_neg]
      · have e : dup D 10 K (D 10 K) = D := dup_self D 10 K
        rw [if_neg (by omega), e]
        rw [am_cV]; simp (disch := omega) only [en_66, bk_66_0, bk_66_20, bk_66_42, bk_66_45, bk_66_70, bk_66_73, bk_66_80, bk_66_96, hK, h1, dv_f0, dv_f1, dv_f2, dv_f3, dv_f4, dv_f5, dv_f6, dv_f7, dv_f8, dv_f9, dv_f10, dv_f11, dv_f12, dv_f13, dv_g0, dv_g1, dv_g2, dv_i0, dv_i1, dv_p0, dv_p1, dv_isc, dv_iscL, dv_r0, dv_r1, dv_r2, dv_r3, dv_r4, dv_r5, dv_r6, dv_r7, dv_r8, dv_r9, dv_r10, dv_r11, dv_r12, dv_r13, dv_r14, dv_r15, dv_w0, dv_w1, dv_w2, dv_w3, dv_w4, dv_w5, dv_w6, dv_w7, dv_w8, dv_w9, dv_w10, dv_w11, dv_w12, dv_w13, dv_w14, dv_w15, dup_t, dup_o, va_up_self, va_up_ne, drow_t, drow_o, Option.bind_some, Bool.cond_decide, am_oI_some, am_oV_some, am_oI_ite, am_oV_ite, am_bind_ite, Int.toNat_natCast, Int.toNat_zero, Int.reduceToNat, ite_true, ite_false, not_true_eq_false, not_false_eq_true, decide_true, decide_false, decide_eq_true_eq, Bool.false_eq_true, Nat.add_zero, am_rok1_0, am_rok1_1, cond_true, cond_false, am_w_nat1, true_or, or_true, false_or, or_false, true_and, and_true, false_and, and_false, Int.reduceEq, Int.reduceNeg, Int.reduceLT, Int.reduceLE, or_self, and_self, if_pos, if_neg]
theorem d_learnAll (w : DW D Z) : am_cV 67 [am_R d] (dv d D h) = some (dv d (la D 128) h) := by
  have step : ∀ n : Nat, n < 128 → am_run am_ms 67 26 [am_R d, am_I n] [] (dv d (la D n) h) = am_run am_ms 67 26 [am_R d, am_I ((n + 1 : Nat) : Int)] [] (dv d (la D (n + 1)) h) := by
    intro n hn
    have c1 := c_hasBlock d (la D n) h n hn
    rw [cd_has_of (la_o D (by omega) n) (la_o D (by omega) n)] at c1
    have e7 := la_o D (r := 7) (by omega) n
    rw [bk_67_26, la]
    cases e : cd_has D n with
    | false =>
      rw [e] at c1
      simp (disch := omega) only [bk_67_46, bk_67_52, c1, dv_f0, dv_f1, dv_f2, dv_f3, dv_f4, dv_f5, dv_f6, dv_f7, dv_f8, dv_f9, dv_f10, dv_f11, dv_f12, dv_f13, dv_g0, dv_g1, dv_g2, dv_i0, dv_i1, dv_p0, dv_p1, dv_isc, dv_iscL, dv_r0, dv_r1, dv_r2, dv_r3, dv_r4, dv_r5, dv_r6, dv_r7, dv_r8, dv_r9, dv_r10, dv_r11, dv_r12, dv_r13, dv_r14, dv_r15, dv_w0, dv_w1, dv_w2, dv_w3, dv_w4, dv_w5, dv_w6, dv_w7, dv_w8, dv_w9, dv_w10, dv_w11, dv_w12, dv_w13, dv_w14, dv_w15, dup_t, dup_o, va_up_self, va_up_ne, drow_t, drow_o, Option.bind_some, Bool.cond_decide, am_oI_some, am_oV_some, am_oI_ite, am_oV_ite, am_bind_ite, Int.toNat_natCast, Int.toNat_zero, Int.reduceToNat, ite_true, ite_false, not_true_eq_false, not_false_eq_true, decide_true, decide_false, decide_eq_true_eq, Bool.false_eq_true, Nat.add_zero, am_rok1_0, am_rok1_1, cond_true, cond_false, am_w_nat1, true_or, or_true, false_or, or_false, true_and, and_true, false_and, and_false, Int.reduceEq, Int.reduceNeg, Int.reduceLT, Int.reduceLE, or_self, and_self, if_pos, if_neg]
    | true =>
      rw [e] at c1
      have c2 := d_learn (d := d) (h := h) (la_10 D n (by omega)) (p := n) hn (by rw [e7]; exact cd_has_lt w hn e)
      simp (disch := omega) only [bk_67_46, bk_67_52, c1, c2, dv_f0, dv_f1, dv_f2, dv_f3, dv_f4, dv_f5, dv_f6, dv_f7, dv_f8, dv_f9, dv_f10, dv_f11, dv_f12, dv_f13, dv_g0, dv_g1, dv_g2, dv_i0, dv_i1, dv_p0, dv_p1, dv_isc, dv_iscL, dv_r0, dv_r1, dv_r2, dv_r3, dv_r4, dv_r5, dv_r6, dv_r7, dv_r8, dv_r9, dv_r10, dv_r11, dv_r12, dv_r13, dv_r14, dv_r15, dv_w0, dv_w1, dv_w2, dv_w3, dv_w4, dv_w5, dv_w6, dv_w7, dv_w8, dv_w9, dv_w10, dv_w11, dv_w12, dv_w13, dv_w14, dv_w15, dup_t, dup_o, va_up_self, va_up_ne, drow_t, drow_o, Option.bind_some, Bool.cond_decide, am_oI_some, am_oV_some, am_oI_ite, am_oV_ite, am_bind_ite, Int.toNat_natCast, Int.toNat_zero, Int.reduceToNat, ite_true, ite_false, not_true_eq_false, not_false_eq_true, decide_true, decide_false, decide_eq_true_eq, Bool.false_eq_true, Nat.add_zero, am_rok1_0, am_rok1_1, cond_true, cond_false, am_w_nat1, true_or, or_true, false_or, or_false, true_and, and_true, false_and, and_false, Int.reduceEq, Int.reduceNeg, Int.reduceLT, Int.reduceLE, or_self, and_self, if_pos, if_neg]
  have key : am_run am_ms 67 26 [am_R d, am_I 0] [] (dv d (la0 D) h) = am_run am_ms 67 26 [am_R d, am_I 128] [] (dv d (la D 128) h) := loop_to (fun n : Nat => am_run am_ms 67 26 [am_R d, am_I n] [] (dv d (la D n) h)) 128 step
  have key' := key
  unfold la0 at key'
  rw [am_cV, en_67, bk_67_0]
  simp (disch := omega) only [d_fill10, d_fill11, d_fill12, key', dv_f0, dv_f1, dv_f2, dv_f3, dv_f4, dv_f5, dv_f6, dv_f7, dv_f8, dv_f9, dv_f10, dv_f11, dv_f12, dv_f13, dv_g0, dv_g1, dv_g2, dv_i0, dv_i1, dv_p0, dv_p1, dv_isc, dv_iscL, dv_r0, dv_r1, dv_r2, dv_r3, dv_r4, dv_r5, dv_r6, dv_r7, dv_r8, dv_r9, dv_r10, dv_r11, dv_r12, dv_r13, dv_r14, dv_r15, dv_w0, dv_w1, dv_w2, dv_w3, dv_w4, dv_w5, dv_w6, dv_w7, dv_w8, dv_w9, dv_w10, dv_w11, dv_w12, dv_w13, dv_w14, dv_w15, dup_t, dup_o, va_up_self, va_up_ne, drow_t, drow_o, Option.bind_some, Bool.cond_decide, am_oI_some, am_oV_some, am_oI_ite, am_oV_ite, am_bind_ite, Int.toNat_natCast, Int.toNat_zero, Int.reduceToNat, ite_true, ite_false, not_true_eq_false, not_false_eq_true, decide_true, decide_false, decide_eq_true_eq, Bool.false_eq_true, Nat.add_zero, am_rok1_0, am_rok1_1, cond_true, cond_false, am_w_nat1, true_or, or_true, false_or, or_false, true_and, and_true, false_and, and_false, Int.reduceEq, Int.reduceNeg, Int.reduceLT, Int.reduceLE, or_self, and_self, if_pos, if_neg]
  rw [bk_67_26]
  simp (disch := omega) only [bk_67_46, bk_67_52, dv_f0, dv_f1, dv_f2, dv_f3, dv_f4, dv_f5, dv_f6, dv_f7, dv_f8, dv_f9, dv_f10, dv_f11, dv_f12, dv_f13, dv_g0, dv_g1, dv_g2, dv_i0, dv_i1, dv_p0, dv_p1, dv_isc, dv_iscL, dv_r0, dv_r1, dv_r2, dv_r3, dv_r4, dv_r5, dv_r6, dv_r7, dv_r8, dv_r9, dv_r10, dv_r11, dv_r12, dv_r13, dv_r14, dv_r15, dv_w0, dv_w1, dv_w2, dv_w3, dv_w4, dv_w5, dv_w6, dv_w7, dv_w8, dv_w9, dv_w10, dv_w11, dv_w12, dv_w13, dv_w14, dv_w15, dup_t, dup_o, va_up_self, va_up_ne, drow_t, drow_o, Option.bind_some, Bool.cond_decide, am_oI_some, am_oV_some, am_oI_ite, am_oV_ite, am_bind_ite, Int.toNat_natCast, Int.toNat_zero, Int.reduceToNat, ite_true, ite_false, not_true_eq_false, not_false_eq_true, decide_true, decide_false, decide_eq_true_eq, Bool.false_eq_true, Nat.add_zero, am_rok1_0, am_rok1_1, cond_true, cond_false, am_w_nat1, true_or, or_true, false_or, or_false, true_and, and_true, false_and, and_false, Int.reduceEq, Int.reduceNeg, Int.reduceLT, Int.reduceLE, or_self, and_self, if_pos, if_neg]
/-- the zone to be finished for want of active ones -/
def cd_act (D : Nat → Nat → Int) (z : Nat) : Bool := decide (D 2 z = 1 ∨ D 2 z = 2)
def cd_mp (D : Nat → Nat → Int) (Z : Nat) : Int := bst (cd_act D) (fun z b => decide (D 3 b < D 3 z)) Z
def cd_zf (D : Nat → Nat → Int) (Z : Nat) : Int := if fnd (fun z => cd_act D z && decide (cd_so D z = -1)) Z = -1 then cd_mp D Z else fnd (fun z => cd_act D z && decide (cd_so D z = -1)) Z
/-- the empty zone that was reset least -/
def cd_ez (D : Nat → Nat → Int) (Z : Nat) : Int := bst (fun z => decide (D 2 z = 0)) (fun z b => decide (D 4 z < D 4 b)) Z
/-- the open zone left longest -/
def cd_oz (D : Nat → Nat → Int) (Z : Nat) : Int := bst (fun z => decide (D 2 z = 1)) (fun z b => decide (D 5 z < D 5 b)) Z
theorem d_emptyZoneLeastReset (w : DW D Z) : am_cI 92 [am_R d] (dv d D h) = some (cd_ez D Z, dv d D h) := by
  have hZ := w.1
  have hZ8 := w.2.1
  have step : ∀ z, z < Z → am_run am_ms 92 4 [am_R d, am_I (cd_ez D z), am_I z] [] (dv d D h) = am_run am_ms 92 4 [am_R d, am_I (cd_ez D (z + 1)), am_I ((z + 1 : Nat) : Int)] [] (dv d D h) := by
    intro z hz
    have hb : -1 ≤ cd_ez D z ∧ cd_ez D z < z := bst_le _ _ z
    have ez : cd_ez D (z + 1) = if D 2 z = 0 then (if cd_ez D z = -1 ∨ D 4 z < D 4 (cd_ez D z).toNat then (z : Int) else cd_ez D z) else cd_ez D z := by
      unfold cd_ez
      conv => lhs; unfold bst
      simp only [decide_eq_true_eq]
    rw [bk_92_4, ez]
    by_cases e : D 2 z = 0
    · by_cases e1 : cd_ez D z = -1
      · simp (disch := omega) only [bk_92_28, bk_92_43, bk_92_45, bk_92_51, hZ, e, e1, dv_f0, dv_f1, dv_f2, dv_f3, dv_f4, dv_f5, dv_f6, dv_f7, dv_f8, dv_f9, dv_f10, dv_f11, dv_f12, dv_f13, dv_g0, dv_g1, dv_g2, dv_i0, dv_i1, dv_p0, dv_p1, dv_isc, dv_iscL, dv_r0, dv_r1, dv_r2, dv_r3, dv_r4, dv_r5, dv_r6, dv_r7, dv_r8, dv_r9, dv_r10, dv_r11, dv_r12, dv_r13, dv_r14, dv_r15, Option.bind_some, Bool.cond_decide, am_oI_some, am_oV_some, am_oI_ite, am_oV_ite, am_bind_ite, Int.toNat_natCast, Int.toNat_zero, Int.reduceToNat, ite_true, ite_false, not_true_eq_false, not_false_eq_true, decide_true, decide_false, decide_eq_true_eq, Bool.false_eq_true, Nat.add_zero, am_rok1_0, am_rok1_1, cond_true, cond_false, am_w_nat1, true_or, or_true, false_or, or_false, true_and, and_true, false_and, and_false, Int.reduceEq, Int.reduceNeg, Int.reduceLT, Int.reduceLE, or_self, and_self, if_pos, if_neg]
      · by_cases e2 : D 4 z < D 4 (cd_ez D z).toNat
        · simp (disch := omega) only [bk_92_28, bk_92_43, bk_92_45, bk_92_51, hZ, e, e1, e2, dv_f0, dv_f1, dv_f2, dv_f3, dv_f4, dv_f5, dv_f6, dv_f7, dv_f8, dv_f9, dv_f10, dv_f11, dv_f12, dv_f13, dv_g0, dv_g1, dv_g2, dv_i0, dv_i1, dv_p0, dv_p1, dv_isc, dv_iscL, dv_r0, dv_r1, dv_r2, dv_r3, dv_r4, dv_r5, dv_r6, dv_r7, dv_r8, dv_r9, dv_r10, dv_r11, dv_r12, dv_r13, dv_r14, dv_r15, Option.bind_some, Bool.cond_decide, am_oI_some, am_oV_some, am_oI_ite, am_oV_ite, am_bind_ite, Int.toNat_natCast, Int.toNat_zero, Int.reduceToNat, ite_true, ite_false, not_true_eq_false, not_false_eq_true, decide_true, decide_false, decide_eq_true_eq, Bool.false_eq_true, Nat.add_zero, am_rok1_0, am_rok1_1, cond_true, cond_false, am_w_nat1, true_or, or_true, false_or, or_false, true_and, and_true, false_and, and_false, Int.reduceEq, Int.reduceNeg, Int.reduceLT, Int.reduceLE, or_self, and_self, if_pos, if_neg]
        · simp (disch := omega) only [bk_92_28, bk_92_43, bk_92_45, bk_92_51, hZ, e, e1, e2, dv_f0, dv_f1, dv_f2, dv_f3, dv_f4, dv_f5, dv_f6, dv_f7, dv_f8, dv_f9, dv_f10, dv_f11, dv_f12, dv_f13, dv_g0, dv_g1, dv_g2, dv_i0, dv_i1, dv_p0, dv_p1, dv_isc, dv_iscL, dv_r0, dv_r1, dv_r2, dv_r3, dv_r4, dv_r5, dv_r6, dv_r7, dv_r8, dv_r9, dv_r10, dv_r11, dv_r12, dv_r13, dv_r14, dv_r15, Option.bind_some, Bool.cond_decide, am_oI_some, am_oV_some, am_oI_ite, am_oV_ite, am_bind_ite, Int.toNat_natCast, Int.toNat_zero, Int.reduceToNat, ite_true, ite_false, not_true_eq_false, not_false_eq_true, decide_true, decide_false, decide_eq_true_eq, Bool.false_eq_true, Nat.add_zero, am_rok1_0, am_rok1_1, cond_true, cond_false, am_w_nat1, true_or, or_true, false_or, or_false, true_and, and_true, false_and, and_false, Int.reduceEq, Int.reduceNeg, Int.reduceLT, Int.reduceLE, or_self, and_self, if_pos, if_neg]
    · simp (disch := omega) only [bk_92_28, bk_92_43, bk_92_45, bk_92_51, hZ, e, dv_f0, dv_f1, dv_f2, dv_f3, dv_f4, dv_f5, dv_f6, dv_f7, dv_f8, dv_f9, dv_f10, dv_f11, dv_f12, dv_f13, dv_g0, dv_g1, dv_g2, dv_i0, dv_i1, dv_p0, dv_p1, dv_isc, dv_iscL, dv_r0, dv_r1, dv_r2, dv_r3, dv_r4, dv_r5, dv_r6, dv_r7, dv_r8, dv_r9, dv_r10, dv_r11, dv_r12, dv_r13, dv_r14, dv_r15, Option.bind_some, Bool.cond_decide, am_oI_some, am_oV_some, am_oI_ite, am_oV_ite, am_bind_ite, Int.toNat_natCast, Int.toNat_zero, Int.reduceToNat, ite_true, ite_false, not_true_eq_false, not_false_eq_true, decide_true, decide_false, decide_eq_true_eq, Bool.false_eq_true, Nat.add_zero, am_rok1_0, am_rok1_1, cond_true, cond_false, am_w_nat1, true_or, or_true, false_or, or_false, true_and, and_true, false_and, and_false, Int.reduceEq, Int.reduceNeg, Int.reduceLT, Int.reduceLE, or_self, and_self, if_pos, if_neg]
  have key : am_run am_ms 92 4 [am_R d, am_I (-1), am_I 0] [] (dv d D h) = am_run am_ms 92 4 [am_R d, am_I (cd_ez D Z), am_I Z] [] (dv d D h) := loop_to (fun z : Nat => am_run am_ms 92 4 [am_R d, am_I (cd_ez D z), am_I z] [] (dv d D h)) Z step
  rw [am_cI, en_92, bk_92_0, key, bk_92_4]
  simp (disch := omega) only [bk_92_28, bk_92_43, bk_92_45, bk_92_51, hZ, dv_f0, dv_f1, dv_f2, dv_f3, dv_f4, dv_f5, dv_f6, dv_f7, dv_f8, dv_f9, dv_f10, dv_f11, dv_f12, dv_f13, dv_g0, dv_g1, dv_g2, dv_i0, dv_i1, dv_p0, dv_p1, dv_isc, dv_iscL, dv_r0, dv_r1, dv_r2, dv_r3, dv_r4, dv_r5, dv_r6, dv_r7, dv_r8, dv_r9, dv_r10, dv_r11, dv_r12, dv_r13, dv_r14, dv_r15, Option.bind_some, Bool.cond_decide, am_oI_some, am_oV_some, am_oI_ite, am_oV_ite, am_bind_ite, Int.toNat_natCast, Int.toNat_zero, Int.reduceToNat, ite_true, ite_false, not_true_eq_false, not_false_eq_true, decide_true, decide_false, decide_eq_true_eq, Bool.false_eq_true, Nat.add_zero, am_rok1_0, am_rok1_1, cond_true, cond_false, am_w_nat1, true_or, or_true, false_or, or_false, true_and, and_true, false_and, and_false, Int.reduceEq, Int.reduceNeg, Int.reduceLT, Int.reduceLE, or_self, and_self, if_pos, if_neg]
theorem d_openZoneLeftLongest (w : DW D Z) : am_cI 94 [am_R d] (dv d D h) = some (cd_oz D Z, dv d D h) := by
  have hZ := w.1
  have hZ8 := w.2.1
  have step : ∀ z, z < Z → am_run am_ms 94 4 [am_R d, am_I (cd_oz D z), am_I z] [] (dv d D h) = am_run am_ms 94 4 [am_R d, am_I (cd_oz D (z + 1)), am_I ((z + 1 : Nat) : Int)] [] (dv d D h) := by
    intro z hz
    have hb : -1 ≤ cd_oz D z ∧ cd_oz D z < z := bst_le _ _ z
    have ez : cd_oz D (z + 1) = if D 2 z = 1 then (if cd_oz D z = -1 ∨ D 5 z < D 5 (cd_oz D z).toNat then (z : Int) else cd_oz D z) else cd_oz D z := by
      unfold cd_oz
      conv => lhs; unfold bst
      simp only [decide_eq_true_eq]
    rw [bk_94_4, ez]
    by_cases e : D 2 z = 1
    · by_cases e1 : cd_oz D z = -1
      · simp (disch := omega) only [bk_94_26, bk_94_44, bk_94_46, bk_94_52, hZ, e, e1, dv_f0, dv_f1, dv_f2, dv_f3, dv_f4, dv_f5, dv_f6, dv_f7, dv_f8, dv_f9, dv_f10, dv_f11, dv_f12, dv_f13, dv_g0, dv_g1, dv_g2, dv_i0, dv_i1, dv_p0, dv_p1, dv_isc, dv_iscL, dv_r0, dv_r1, dv_r2, dv_r3, dv_r4, dv_r5, dv_r6, dv_r7, dv_r8, dv_r9, dv_r10, dv_r11, dv_r12, dv_r13, dv_r14, dv_r15, Option.bind_some, Bool.cond_decide, am_oI_some, am_oV_some, am_oI_ite, am_oV_ite, am_bind_ite, Int.toNat_natCast, Int.toNat_zero, Int.reduceToNat, ite_true, ite_false, not_true_eq_false, not_false_eq_true, decide_true, decide_false, decide_eq_true_eq, Bool.false_eq_true, Nat.add_zero, am_rok1_0, am_rok1_1, cond_true, cond_false, am_w_nat1, true_or, or_true, false_or, or_false, true_and, and_true, false_and, and_false, Int.reduceEq, Int.reduceNeg, Int.reduceLT, Int.reduceLE, or_self, and_self, if_pos, if_neg]
      · by_cases e2 : D 5 z < D 5 (cd_oz D z).toNat
        · simp (disch := omega) only [bk_94_26, bk_94_44, bk_94_46, bk_94_52, hZ, e, e1, e2, dv_f0, dv_f1, dv_f2, dv_f3, dv_f4, dv_f5, dv_f6, dv_f7, dv_f8, dv_f9, dv_f10, dv_f11, dv_f12, dv_f13, dv_g0, dv_g1, dv_g2, dv_i0, dv_i1, dv_p0, dv_p1, dv_isc, dv_iscL, dv_r0, dv_r1, dv_r2, dv_r3, dv_r4, dv_r5, dv_r6, dv_r7, dv_r8, dv_r9, dv_r10, dv_r11, dv_r12, dv_r13, dv_r14, dv_r15, Option.bind_some, Bool.cond_decide, am_oI_some, am_oV_some, am_oI_ite, am_oV_ite, am_bind_ite, Int.toNat_natCast, Int.toNat_zero, Int.reduceToNat, ite_true, ite_false, not_true_eq_false, not_false_eq_true, decide_true, decide_false, decide_eq_true_eq, Bool.false_eq_true, Nat.add_zero, am_rok1_0, am_rok1_1, cond_true, cond_false, am_w_nat1, true_or, or_true, false_or, or_false, true_and, and_true, false_and, and_false, Int.reduceEq, Int.reduceNeg, Int.reduceLT, Int.reduceLE, or_self, and_self, if_pos, if_neg]
        · simp (disch := omega) only [bk_94_26, bk_94_44, bk_94_46, bk_94_52, hZ, e, e1, e2, dv_f0, dv_f1, dv_f2, dv_f3, dv_f4, dv_f5, dv_f6, dv_f7, dv_f8, dv_f9, dv_f10, dv_f11, dv_f12, dv_f13, dv_g0, dv_g1, dv_g2, dv_i0, dv_i1, dv_p0, dv_p1, dv_isc, dv_iscL, dv_r0, dv_r1, dv_r2, dv_r3, dv_r4, dv_r5, dv_r6, dv_r7, dv_r8, dv_r9, dv_r10, dv_r11, dv_r12, dv_r13, dv_r14, dv_r15, Option.bind_some, Bool.cond_decide, am_oI_some, am_oV_some, am_oI_ite, am_oV_ite, am_bind_ite, Int.toNat_natCast, Int.toNat_zero, Int.reduceToNat, ite_true, ite_false, not_true_eq_false, not_false_eq_true, decide_true, decide_false, decide_eq_true_eq, Bool.false_eq_true, Nat.add_zero, am_rok1_0, am_rok1_1, cond_true, cond_false, am_w_nat1, true_or, or_true, false_or, or_false, true_and, and_true, false_and, and_false, Int.reduceEq, Int.reduceNeg, Int.reduceLT, Int.reduceLE, or_self, and_self, if_pos, if_neg]
    · simp (disch := omega) only [bk_94_26, bk_94_44, bk_94_46, bk_94_52, hZ, e, dv_f0, dv_f1, dv_f2, dv_f3, dv_f4, dv_f5, dv_f6, dv_f7, dv_f8, dv_f9, dv_f10, dv_f11, dv_f12, dv_f13, dv_g0, dv_g1, dv_g2, dv_i0, dv_i1, dv_p0, dv_p1, dv_isc, dv_iscL, dv_r0, dv_r1, dv_r2, dv_r3, dv_r4, dv_r5, dv_r6, dv_r7, dv_r8, dv_r9, dv_r10, dv_r11, dv_r12, dv_r13, dv_r14, dv_r15, Option.bind_some, Bool.cond_decide, am_oI_some, am_oV_some, am_oI_ite, am_oV_ite, am_bind_ite, Int.toNat_natCast, Int.toNat_zero, Int.reduceToNat, ite_true, ite_false, not_true_eq_false, not_false_eq_true, decide_true, decide_false, decide_eq_true_eq, Bool.false_eq_true, Nat.add_zero, am_rok1_0, am_rok1_1, cond_true, cond_false, am_w_nat1, true_or, or_true, false_or, or_false, true_and, and_true, false_and, and_false, Int.reduceEq, Int.reduceNeg, Int.reduceLT, Int.reduceLE, or_self, and_self, if_pos, if_neg]
  have key : am_run am_ms 94 4 [am_R d, am_I (-1), am_I 0] [] (dv d D h) = am_run am_ms 94 4 [am_R d, am_I (cd_oz D Z), am_I Z] [] (dv d D h) := loop_to (fun z : Nat => am_run am_ms 94 4 [am_R d, am_I (cd_oz D z), am_I z] [] (dv d D h)) Z step
  rw [am_cI, en_94, bk_94_0, key, bk_94_4]
  simp (disch := omega) only [bk_94_26, bk_94_44, bk_94_46, bk_94_52, hZ, dv_f0, dv_f1, dv_f2, dv_f3, dv_f4, dv_f5, dv_f6, dv_f7, dv_f8, dv_f9, dv_f10, dv_f11, dv_f12, dv_f13, dv_g0, dv_g1, dv_g2, dv_i0, dv_i1, dv_p0, dv_p1, dv_isc, dv_iscL, dv_r0, dv_r1, dv_r2, dv_r3, dv_r4, dv_r5, dv_r6, dv_r7, dv_r8, dv_r9, dv_r10, dv_r11, dv_r12, dv_r13, dv_r14, dv_r15, Option.bind_some, Bool.cond_decide, am_oI_some, am_oV_some, am_oI_ite, am_oV_ite, am_bind_ite, Int.toNat_natCast, Int.toNat_zero, Int.reduceToNat, ite_true, ite_false, not_true_eq_false, not_false_eq_true, decide_true, decide_false, decide_eq_true_eq, Bool.false_eq_true, Nat.add_zero, am_rok1_0, am_rok1_1, cond_true, cond_false, am_w_nat1, true_or, or_true, false_or, or_false, true_and, and_true, false_and, and_false, Int.reduceEq, Int.reduceNeg, Int.reduceLT, Int.reduceLE, or_self, and_self, if_pos, if_neg]
theorem d_zoneToFinish (w : DW D Z) : am_cI 89 [am_R d] (dv d D h) = some (cd_zf D Z, dv d D h) := by
  have hZ := w.1
  have hZ8 := w.2.1
  have ca : ∀ z, z < Z → am_cI 87 [am_R d, am_I z] (dv d D h) = some (if cd_act D z = true then 1 else 0, dv d D h) := by
    intro z hz
    have := c_isActive d D h z (by omega)
    unfold cd_act
    simp only [decide_eq_true_eq]
    exact this
  have cs := fun z => d_streamOf (d := d) (h := h) w z
  have step : ∀ z, z < Z → (cd_act D z && decide (cd_so D z = -1)) = false → am_run am_ms 89 4 [am_R d, am_I (cd_mp D z), am_I z] [] (dv d D h) = am_run am_ms 89 4 [am_R d, am_I (cd_mp D (z + 1)), am_I ((z + 1 : Nat) : Int)] [] (dv d D h) := by
    intro z hz hno
    have c1 := ca z hz
    have hb : -1 ≤ cd_mp D z ∧ cd_mp D z < z := bst_le _ _ z
    have ez : cd_mp D (z + 1) = if cd_act D z = true then (if cd_mp D z = -1 ∨ D 3 (cd_mp D z).toNat < D 3 z then (z : Int) else cd_mp D z) else cd_mp D z := by
      unfold cd_mp
      conv => lhs; unfold bst
      simp only [decide_eq_true_eq]
    rw [bk_89_4, ez]
    cases e : cd_act D z with
    | false =>
      rw [e] at c1
      simp (disch := omega) only [bk_89_28, bk_89_33, bk_89_53, bk_89_55, bk_89_61, hZ, c1, dv_f0, dv_f1, dv_f2, dv_f3, dv_f4, dv_f5, dv_f6, dv_f7, dv_f8, dv_f9, dv_f10, dv_f11, dv_f12, dv_f13, dv_g0, dv_g1, dv_g2, dv_i0, dv_i1, dv_p0, dv_p1, dv_isc, dv_iscL, dv_r0, dv_r1, dv_r2, dv_r3, dv_r4, dv_r5, dv_r6, dv_r7, dv_r8, dv_r9, dv_r10, dv_r11, dv_r12, dv_r13, dv_r14, dv_r15, Option.bind_some, Bool.cond_decide, am_oI_some, am_oV_some, am_oI_ite, am_oV_ite, am_bind_ite, Int.toNat_natCast, Int.toNat_zero, Int.reduceToNat, ite_true, ite_false, not_true_eq_false, not_false_eq_true, decide_true, decide_false, decide_eq_true_eq, Bool.false_eq_true, Nat.add_zero, am_rok1_0, am_rok1_1, cond_true, cond_false, am_w_nat1, true_or, or_true, false_or, or_false, true_and, and_true, false_and, and_false, Int.reduceEq, Int.reduceNeg, Int.reduceLT, Int.reduceLE, or_self, and_self, if_pos, if_neg]
    | true =>
      rw [e] at c1 hno
      have hs : ¬ cd_so D z = -1 := by
        intro q
        rw [q] at hno
        exact absurd hno (by decide)
      by_cases e1 : cd_mp D z = -1
      · simp (disch := omega) only [bk_89_28, bk_89_33, bk_89_53, bk_89_55, bk_89_61, hZ, c1, cs, hs, e1, dv_f0, dv_f1, dv_f2, dv_f3, dv_f4, dv_f5, dv_f6, dv_f7, dv_f8, dv_f9, dv_f10, dv_f11, dv_f12, dv_f13, dv_g0, dv_g1, dv_g2, dv_i0, dv_i1, dv_p0, dv_p1, dv_isc, dv_iscL, dv_r0, dv_r1, dv_r2, dv_r3, dv_r4, dv_r5, dv_r6, dv_r7, dv_r8, dv_r9, dv_r10, dv_r11, dv_r12, dv_r13, dv_r14, dv_r15, Option.bind_some, Bool.cond_decide, am_oI_some, am_oV_some, am_oI_ite, am_oV_ite, am_bind_ite, Int.toNat_natCast, Int.toNat_zero, Int.reduceToNat, ite_true, ite_false, not_true_eq_false, not_false_eq_true, decide_true, decide_false, decide_eq_true_eq, Bool.false_eq_true, Nat.add_zero, am_rok1_0, am_rok1_1, cond_true, cond_false, am_w_nat1, true_or, or_true, false_or, or_false, true_and, and_true, false_and, and_false, Int.reduceEq, Int.reduceNeg, Int.reduceLT, Int.reduceLE, or_self, and_self, if_pos, if_neg]
      · by_cases e2 : D 3 (cd_mp D z).toNat < D 3 z
        · simp (disch := omega) only [bk_89_28, bk_89_33, bk_89_53, bk_89_55, bk_89_61, hZ, c1, cs, hs, e1, e2, dv_f0, dv_f1, dv_f2, dv_f3, dv_f4, dv_f5, dv_f6, dv_f7, dv_f8, dv_f9, dv_f10, dv_f11, dv_f12, dv_f13, dv_g0, dv_g1, dv_g2, dv_i0, dv_i1, dv_p0, dv_p1, dv_isc, dv_iscL, dv_r0, dv_r1, dv_r2, dv_r3, dv_r4, dv_r5, dv_r6, dv_r7, dv_r8, dv_r9, dv_r10, dv_r11, dv_r12, dv_r13, dv_r14, dv_r15, Option.bind_some, Bool.cond_decide, am_oI_some, am_oV_some, am_oI_ite, am_oV_ite, am_bind_ite, Int.toNat_natCast, Int.toNat_zero, Int.reduceToNat, ite_true, ite_false, not_true_eq_false, not_false_eq_true, decide_true, decide_false, decide_eq_true_eq, Bool.false_eq_true, Nat.add_zero, am_rok1_0, am_rok1_1, cond_true, cond_false, am_w_nat1, true_or, or_true, false_or, or_false, true_and, and_true, false_and, and_false, Int.reduceEq, Int.reduceNeg, Int.reduceLT, Int.reduceLE, or_self, and_self, if_pos, if_neg]
        · simp (disch := omega) only [bk_89_28, bk_89_33, bk_89_53, bk_89_55, bk_89_61, hZ, c1, cs, hs, e1, e2, dv_f0, dv_f1, dv_f2, dv_f3, dv_f4, dv_f5, dv_f6, dv_f7, dv_f8, dv_f9, dv_f10, dv_f11, dv_f12, dv_f13, dv_g0, dv_g1, dv_g2, dv_i0, dv_i1, dv_p0, dv_p1, dv_isc, dv_iscL, dv_r0, dv_r1, dv_r2, dv_r3, dv_r4, dv_r5, dv_r6, dv_r7, dv_r8, dv_r9, dv_r10, dv_r11, dv_r12, dv_r13, dv_r14, dv_r15, Option.bind_some, Bool.cond_decide, am_oI_some, am_oV_some, am_oI_ite, am_oV_ite, am_bind_ite, Int.toNat_natCast, Int.toNat_zero, Int.reduceToNat, ite_true, ite_false, not_true_eq_false, not_false_eq_true, decide_true, decide_false, decide_eq_true_eq, Bool.false_eq_true, Nat.add_zero, am_rok1_0, am_rok1_1, cond_true, cond_false, am_w_nat1, true_or, or_true, false_or, or_false, true_and, and_true, false_and, and_false, Int.reduceEq, Int.reduceNeg, Int.reduceLT, Int.reduceLE, or_self, and_self, if_pos, if_neg]
  unfold cd_zf
  rcases first_or (fun z => cd_act D z && decide (cd_so D z = -1)) Z with hno | ⟨k, k1, k2, k3⟩
  · have key : am_run am_ms 89 4 [am_R d, am_I (-1), am_I 0] [] (dv d D h) = am_run am_ms 89 4 [am_R d, am_I (cd_mp D Z), am_I Z] [] (dv d D h) := loop_to (fun z : Nat => am_run am_ms 89 4 [am_R d, am_I (cd_mp D z), am_I z] [] (dv d D h)) Z (fun z hz => step z hz (hno z hz))
    rw [fnd_none hno, if_pos rfl]
    rw [am_cI, en_89, bk_89_0, key, bk_89_4]
    simp (disch := omega) only [bk_89_28, bk_89_33, bk_89_53, bk_89_55, bk_89_61, hZ, dv_f0, dv_f1, dv_f2, dv_f3, dv_f4, dv_f5, dv_f6, dv_f7, dv_f8, dv_f9, dv_f10, dv_f11, dv_f12, dv_f13, dv_g0, dv_g1, dv_g2, dv_i0, dv_i1, dv_p0, dv_p1, dv_isc, dv_iscL, dv_r0, dv_r1, dv_r2, dv_r3, dv_r4, dv_r5, dv_r6, dv_r7, dv_r8, dv_r9, dv_r10, dv_r11, dv_r12, dv_r13, dv_r14, dv_r15, Option.bind_some, Bool.cond_decide, am_oI_some, am_oV_some, am_oI_ite, am_oV_ite, am_bind_ite, Int.toNat_natCast, Int.toNat_zero, Int.reduceToNat, ite_true, ite_false, not_true_eq_false, not_false_eq_true, decide_true, decide_false, decide_eq_true_eq, Bool.false_eq_true, Nat.add_zero, am_rok1_0, am_rok1_1, cond_true, cond_false, am_w_nat1, true_or, or_true, false_or, or_false, true_and, and_true, false_and, and_false, Int.reduceEq, Int.reduceNeg, Int.reduceLT, Int.reduceLE, or_self, and_self, if_pos, if_neg]
  · have key : am_run am_ms 89 4 [am_R d, am_I (-1), am_I 0] [] (dv d D h) = am_run am_ms 89 4 [am_R d, am_I (cd_mp D k), am_I k] [] (dv d D h) := loop_to (fun z : Nat => am_run am_ms 89 4 [am_R d, am_I (cd_mp D z), am_I z] [] (dv d D h)) k (fun z hz => step z (by omega) (k3 z hz))
    rw [fnd_at k2 k3 Z k1, if_neg (by omega)]
    have k2' : cd_act D k = true ∧ cd_so D k = -1 := by
      rw [Bool.and_eq_true, decide_eq_true_eq] at k2
      exact k2
    have c1 := ca k k1
    rw [k2'.1] at c1
    rw [am_cI, en_89, bk_89_0, key, bk_89_4]
    simp (disch := omega) only [bk_89_28, bk_89_33, bk_89_53, bk_89_55, bk_89_61, hZ, c1, cs, k2', dv_f0, dv_f1, dv_f2, dv_f3, dv_f4, dv_f5, dv_f6, dv_f7, dv_f8, dv_f9, dv_f10, dv_f11, dv_f12, dv_f13, dv_g0, dv_g1, dv_g2, dv_i0, dv_i1, dv_p0, dv_p1, dv_isc, dv_iscL, dv_r0, dv_r1, dv_r2, dv_r3, dv_r4, dv_r5, dv_r6, dv_r7, dv_r8, dv_r9, dv_r10, dv_r11, dv_r12, dv_r13, dv_r14, dv_r15, Option.bind_some, Bool.cond_decide, am_oI_some, am_oV_some, am_oI_ite, am_oV_ite, am_bind_ite, Int.toNat_natCast, Int.toNat_zero, Int.reduceToNat, ite_true, ite_false, not_true_eq_false, not_false_eq_true, decide_true, decide_false, decide_eq_true_eq, Bool.false_eq_true, Nat.add_zero, am_rok1_0, am_rok1_1, cond_true, cond_false, am_w_nat1, true_or, or_true, false_or, or_false, true_and, and_true, false_and, and_false, Int.reduceEq, Int.reduceNeg, Int.reduceLT, Int.reduceLE, or_self, and_self, if_pos, if_neg]
end DRV5
