/-! ===== most: sets of zones ===== -/
theorem or_0 : ∀ X : Fin 256, am_or ((X.val : Nat) : Int) 0 = ((X.val : Nat) : Int) := by decide +kernel
def bitz (P : Nat → Bool) : Nat → Int
  | 0 => 0
  | n + 1 => if P n = true then am_or (bitz P n) (am_shl 1 (n : Int)) else bitz P n
theorem bitz_r (P : Nat → Bool) : ∀ n, n ≤ 8 → 0 ≤ bitz P n ∧ bitz P n < 256 := by
  intro n
  induction n with
  | zero => intro _; exact ⟨Int.le_refl 0, by show (0 : Int) < 256; omega⟩
  | succ n ih =>
    intro hn
    have h1 := ih (by omega)
    unfold bitz
    split
    · exact (bits_at h1.1 h1.2 (a := n) (by omega)).2
    · exact h1
theorem or_z {X : Int} (h0 : 0 ≤ X) (h1 : X < 256) : am_or X 0 = X := by
  obtain ⟨n, rfl⟩ : ∃ n : Nat, X = n := ⟨X.toNat, by omega⟩
  exact or_0 ⟨n, by omega⟩
section BITS
variable {d mo Z : Nat} {D N M Ad : Nat → Nat → Int} {h g : am_H}
theorem s_bits (w : DW D Z) (s : Int) : am_cI 286 [am_R d, am_I s] (dv d D h) = some (bitz (fun z => decide (D 2 z = s)) Z, dv d D h) := by
  have hZ := w.1
  have hZ8 := w.2.1
  have step : ∀ z : Nat, z < Z → am_run am_ms 286 4 [am_R d, am_I s, am_I (bitz (fun z => decide (D 2 z = s)) z), am_I z] [] (dv d D h) = am_run am_ms 286 4 [am_R d, am_I s, am_I (bitz (fun z => decide (D 2 z = s)) (z + 1)), am_I ((z + 1 : Nat) : Int)] [] (dv d D h) := by
    intro z hz
    have es : bitz (fun z => decide (D 2 z = s)) (z + 1) = if decide (D 2 z = s) = true then am_or (bitz (fun z => decide (D 2 z = s)) z) (am_shl 1 (z : Int)) else bitz (fun z => decide (D 2 z = s)) z := rfl
    rw [es]
    clear es
    generalize bitz (fun z => decide (D 2 z = s)) z = B
    rw [bk_286_4]
    by_cases e : D 2 z = s
    · rw [if_pos (decide_eq_true e)]
      simp (disch := omega) only [bk_286_26, bk_286_30, hZ, dv_f0, dv_f1, dv_f2, dv_f3, dv_f4, dv_f5, dv_f6, dv_f7, dv_f8, dv_f9, dv_f10, dv_f11, dv_f12, dv_f13, dv_g0, dv_g1, dv_g2, dv_i0, dv_i1, dv_p0, dv_p1, dv_isc, dv_iscL, dv_r0, dv_r1, dv_r2, dv_r3, dv_r4, dv_r5, dv_r6, dv_r7, dv_r8, dv_r9, dv_r10, dv_r11, dv_r12, dv_r13, dv_r14, dv_r15, Option.bind_some, Bool.cond_decide, am_oI_some, am_oV_some, am_oI_ite, am_oV_ite, am_bind_ite, Int.toNat_natCast, Int.toNat_zero, Int.reduceToNat, ite_true, ite_false, not_true_eq_false, not_false_eq_true, decide_true, decide_false, decide_eq_true_eq, Bool.false_eq_true, Nat.add_zero, am_rok1_0, am_rok1_1, cond_true, cond_false, am_w_nat1, true_or, or_true, false_or, or_false, true_and, and_true, false_and, and_false, Int.reduceEq, Int.reduceNeg, Int.reduceLT, Int.reduceLE, or_self, and_self, if_pos, if_neg]
    · rw [if_neg (fun t => e (of_decide_eq_true t))]
      simp (disch := omega) only [bk_286_30, hZ, dv_f0, dv_f1, dv_f2, dv_f3, dv_f4, dv_f5, dv_f6, dv_f7, dv_f8, dv_f9, dv_f10, dv_f11, dv_f12, dv_f13, dv_g0, dv_g1, dv_g2, dv_i0, dv_i1, dv_p0, dv_p1, dv_isc, dv_iscL, dv_r0, dv_r1, dv_r2, dv_r3, dv_r4, dv_r5, dv_r6, dv_r7, dv_r8, dv_r9, dv_r10, dv_r11, dv_r12, dv_r13, dv_r14, dv_r15, Option.bind_some, Bool.cond_decide, am_oI_some, am_oV_some, am_oI_ite, am_oV_ite, am_bind_ite, Int.toNat_natCast, Int.toNat_zero, Int.reduceToNat, ite_true, ite_false, not_true_eq_false, not_false_eq_true, decide_true, decide_false, decide_eq_true_eq, Bool.false_eq_true, Nat.add_zero, am_rok1_0, am_rok1_1, cond_true, cond_false, am_w_nat1, true_or, or_true, false_or, or_false, true_and, and_true, false_and, and_false, Int.reduceEq, Int.reduceNeg, Int.reduceLT, Int.reduceLE, or_self, and_self, if_pos, if_neg]
  have key : am_run am_ms 286 4 [am_R d, am_I s, am_I 0, am_I 0] [] (dv d D h) = am_run am_ms 286 4 [am_R d, am_I s, am_I (bitz (fun z => decide (D 2 z = s)) Z), am_I Z] [] (dv d D h) := loop_to (fun z : Nat => am_run am_ms 286 4 [am_R d, am_I s, am_I (bitz (fun z => decide (D 2 z = s)) z), am_I z] [] (dv d D h)) Z step
  rw [am_cI, en_286, bk_286_0, key, bk_286_4]
  simp (disch := omega) only [bk_286_36, hZ, dv_f0, dv_f1, dv_f2, dv_f3, dv_f4, dv_f5, dv_f6, dv_f7, dv_f8, dv_f9, dv_f10, dv_f11, dv_f12, dv_f13, dv_g0, dv_g1, dv_g2, dv_i0, dv_i1, dv_p0, dv_p1, dv_isc, dv_iscL, dv_r0, dv_r1, dv_r2, dv_r3, dv_r4, dv_r5, dv_r6, dv_r7, dv_r8, dv_r9, dv_r10, dv_r11, dv_r12, dv_r13, dv_r14, dv_r15, Option.bind_some, Bool.cond_decide, am_oI_some, am_oV_some, am_oI_ite, am_oV_ite, am_bind_ite, Int.toNat_natCast, Int.toNat_zero, Int.reduceToNat, ite_true, ite_false, not_true_eq_false, not_false_eq_true, decide_true, decide_false, decide_eq_true_eq, Bool.false_eq_true, Nat.add_zero, am_rok1_0, am_rok1_1, cond_true, cond_false, am_w_nat1, true_or, or_true, false_or, or_false, true_and, and_true, false_and, and_false, Int.reduceEq, Int.reduceNeg, Int.reduceLT, Int.reduceLE, or_self, and_self, if_pos, if_neg]
end BITS
