/-! ===== most: the key with most blocks ===== -/
def kbB (f : Nat → Int) (n : Nat) : Int := if n = 0 then -1 else if f (wn f n) = 0 then -1 else (wn f n : Int)
def kbC (f : Nat → Int) (n : Nat) : Int := if n = 0 then 0 else f (wn f n)
theorem wn_s (f : Nat → Int) (n : Nat) : wn f (n + 1) = if f (wn f n) < f n then n else wn f n := rfl
theorem kb_up {f : Nat → Int} {n : Nat} (h0 : ∀ k, k < 32 → 0 ≤ f k) (hn : n < 32) (e : kbC f n < f n) : kbB f (n + 1) = n ∧ kbC f (n + 1) = f n := by
  unfold kbC at e
  have hf := h0 n hn
  by_cases q : n = 0
  · rw [if_pos q] at e
    unfold kbB kbC
    rw [q] at e ⊢
    rw [wn_1, if_neg (by omega), if_neg (by omega), if_neg (by omega)]
    exact ⟨rfl, rfl⟩
  · rw [if_neg q] at e
    have hw := h0 (wn f n) (by have := wn_le f n; omega)
    unfold kbB kbC
    rw [wn_s, if_pos e, if_neg (by omega), if_neg (by omega), if_neg (by omega)]
    exact ⟨rfl, rfl⟩
theorem kb_st {f : Nat → Int} {n : Nat} (h0 : ∀ k, k < 32 → 0 ≤ f k) (hn : n < 32) (e : ¬ kbC f n < f n) : kbB f (n + 1) = kbB f n ∧ kbC f (n + 1) = kbC f n := by
  unfold kbC at e
  have hf := h0 n hn
  by_cases q : n = 0
  · rw [if_pos q] at e
    unfold kbB kbC
    rw [q] at e hf ⊢
    have e0 : f 0 = 0 := by omega
    rw [wn_1, if_neg (show ¬ 0 + 1 = 0 by omega), if_neg (show ¬ 0 + 1 = 0 by omega), if_pos e0, e0]
    exact ⟨rfl, rfl⟩
  · rw [if_neg q] at e
    unfold kbB kbC
    rw [wn_s, if_neg e, if_neg (show ¬ n + 1 = 0 by omega), if_neg (show ¬ n + 1 = 0 by omega), if_neg q, if_neg q]
    exact ⟨rfl, rfl⟩
theorem wn_max (f : Nat → Int) : ∀ n j, j < n → f j ≤ f (wn f n) := by
  intro n
  induction n with
  | zero => intro j hj; omega
  | succ n ih =>
    intro j hj
    rw [wn_s]
    by_cases e : f (wn f n) < f n
    · rw [if_pos e]
      by_cases q : j = n
      · rw [q]; omega
      · have := ih j (by omega); omega
    · rw [if_neg e]
      by_cases q : j = n
      · rw [q]; omega
      · exact ih j (by omega)
section COMC
variable {d Z x : Nat} {D : Nat → Nat → Int} {h : am_H}
theorem s_common (h0 : ∀ k, k < 32 → 0 ≤ D 12 k) : am_cI 289 [am_R d] (dv d D h) = some (kbB (D 12) 32, dv d D h) := by
  have step : ∀ k : Nat, k < 32 → am_run am_ms 289 6 [am_R d, am_I (kbB (D 12) k), am_I (kbC (D 12) k), am_I k] [] (dv d D h) = am_run am_ms 289 6 [am_R d, am_I (kbB (D 12) (k + 1)), am_I (kbC (D 12) (k + 1)), am_I ((k + 1 : Nat) : Int)] [] (dv d D h) := by
    intro k hk
    rw [bk_289_6]
    by_cases e : kbC (D 12) k < D 12 k
    · rw [(kb_up h0 hk e).1, (kb_up h0 hk e).2]
      simp (disch := omega) only [bk_289_29, bk_289_31, dv_f0, dv_f1, dv_f2, dv_f3, dv_f4, dv_f5, dv_f6, dv_f7, dv_f8, dv_f9, dv_f10, dv_f11, dv_f12, dv_f13, dv_g0, dv_g1, dv_g2, dv_i0, dv_i1, dv_p0, dv_p1, dv_isc, dv_iscL, dv_r0, dv_r1, dv_r2, dv_r3, dv_r4, dv_r5, dv_r6, dv_r7, dv_r8, dv_r9, dv_r10, dv_r11, dv_r12, dv_r13, dv_r14, dv_r15, Option.bind_some, Bool.cond_decide, am_oI_some, am_oV_some, am_oI_ite, am_oV_ite, am_bind_ite, Int.toNat_natCast, Int.toNat_zero, Int.reduceToNat, ite_true, ite_false, not_true_eq_false, not_false_eq_true, decide_true, decide_false, decide_eq_true_eq, Bool.false_eq_true, Nat.add_zero, am_rok1_0, am_rok1_1, cond_true, cond_false, am_w_nat1, true_or, or_true, false_or, or_false, true_and, and_true, false_and, and_false, Int.reduceEq, Int.reduceNeg, Int.reduceLT, Int.reduceLE, or_self, and_self, if_pos, if_neg]
    · rw [(kb_st h0 hk e).1, (kb_st h0 hk e).2]
      simp (disch := omega) only [bk_289_31, dv_f0, dv_f1, dv_f2, dv_f3, dv_f4, dv_f5, dv_f6, dv_f7, dv_f8, dv_f9, dv_f10, dv_f11, dv_f12, dv_f13, dv_g0, dv_g1, dv_g2, dv_i0, dv_i1, dv_p0, dv_p1, dv_isc, dv_iscL, dv_r0, dv_r1, dv_r2, dv_r3, dv_r4, dv_r5, dv_r6, dv_r7, dv_r8, dv_r9, dv_r10, dv_r11, dv_r12, dv_r13, dv_r14, dv_r15, Option.bind_some, Bool.cond_decide, am_oI_some, am_oV_some, am_oI_ite, am_oV_ite, am_bind_ite, Int.toNat_natCast, Int.toNat_zero, Int.reduceToNat, ite_true, ite_false, not_true_eq_false, not_false_eq_true, decide_true, decide_false, decide_eq_true_eq, Bool.false_eq_true, Nat.add_zero, am_rok1_0, am_rok1_1, cond_true, cond_false, am_w_nat1, true_or, or_true, false_or, or_false, true_and, and_true, false_and, and_false, Int.reduceEq, Int.reduceNeg, Int.reduceLT, Int.reduceLE, or_self, and_self, if_pos, if_neg]
  have key : am_run am_ms 289 6 [am_R d, am_I (-1), am_I 0, am_I 0] [] (dv d D h) = am_run am_ms 289 6 [am_R d, am_I (kbB (D 12) 32), am_I (kbC (D 12) 32), am_I 32] [] (dv d D h) := loop_to (fun k : Nat => am_run am_ms 289 6 [am_R d, am_I (kbB (D 12) k), am_I (kbC (D 12) k), am_I k] [] (dv d D h)) 32 step
  rw [am_cI, en_289, bk_289_0, key, bk_289_6]
  simp (disch := omega) only [bk_289_37, dv_f0, dv_f1, dv_f2, dv_f3, dv_f4, dv_f5, dv_f6, dv_f7, dv_f8, dv_f9, dv_f10, dv_f11, dv_f12, dv_f13, dv_g0, dv_g1, dv_g2, dv_i0, dv_i1, dv_p0, dv_p1, dv_isc, dv_iscL, dv_r0, dv_r1, dv_r2, dv_r3, dv_r4, dv_r5, dv_r6, dv_r7, dv_r8, dv_r9, dv_r10, dv_r11, dv_r12, dv_r13, dv_r14, dv_r15, Option.bind_some, Bool.cond_decide, am_oI_some, am_oV_some, am_oI_ite, am_oV_ite, am_bind_ite, Int.toNat_natCast, Int.toNat_zero, Int.reduceToNat, ite_true, ite_false, not_true_eq_false, not_false_eq_true, decide_true, decide_false, decide_eq_true_eq, Bool.false_eq_true, Nat.add_zero, am_rok1_0, am_rok1_1, cond_true, cond_false, am_w_nat1, true_or, or_true, false_or, or_false, true_and, and_true, false_and, and_false, Int.reduceEq, Int.reduceNeg, Int.reduceLT, Int.reduceLE, or_self, and_self, if_pos, if_neg]
end COMC
