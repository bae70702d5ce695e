/-! ===== most: the zone reset most often ===== -/
def wn (f : Nat → Int) : Nat → Nat
  | 0 => 0
  | n + 1 => if f (wn f n) < f n then n else wn f n
theorem wn_le (f : Nat → Int) (n : Nat) : wn f n ≤ n := by
  induction n with
  | zero => exact Nat.le_refl 0
  | succ n ih =>
    unfold wn
    split
    · omega
    · omega
theorem wn_1 (f : Nat → Int) : wn f 1 = 0 := by
  show (if f 0 < f 0 then 0 else 0) = 0
  split <;> rfl
section WORN
variable {d mo Z : Nat} {D N M Ad : Nat → Nat → Int} {h g : am_H}
theorem s_worn (w : DW D Z) (hZ1 : 1 ≤ Z) : am_cI 284 [am_R d] (dv d D h) = some ((wn (D 4) Z : Int), dv d D h) := by
  have hZ := w.1
  have hZ8 := w.2.1
  have step : ∀ j : Nat, j < Z - 1 → am_run am_ms 284 4 [am_R d, am_I (wn (D 4) (j + 1)), am_I ((j + 1 : Nat) : Int)] [] (dv d D h) = am_run am_ms 284 4 [am_R d, am_I (wn (D 4) (j + 1 + 1)), am_I ((j + 1 + 1 : Nat) : Int)] [] (dv d D h) := by
    intro j hj
    have hle := wn_le (D 4) (j + 1)
    have es : wn (D 4) (j + 1 + 1) = if D 4 (wn (D 4) (j + 1)) < D 4 (j + 1) then j + 1 else wn (D 4) (j + 1) := rfl
    rw [es]
    clear es
    generalize wn (D 4) (j + 1) = B at hle ⊢
    generalize e1 : j + 1 = z at hle ⊢
    rw [bk_284_4]
    by_cases e : D 4 B < D 4 z
    · rw [if_pos e]
      simp (disch := omega) only [bk_284_26, bk_284_31, hZ, dv_f0, dv_f1, dv_f2, dv_f3, dv_f4, dv_f5, dv_f6, dv_f7, dv_f8, dv_f9, dv_f10, dv_f11, dv_f12, dv_f13, dv_g0, dv_g1, dv_g2, dv_i0, dv_i1, dv_p0, dv_p1, dv_isc, dv_iscL, dv_r0, dv_r1, dv_r2, dv_r3, dv_r4, dv_r5, dv_r6, dv_r7, dv_r8, dv_r9, dv_r10, dv_r11, dv_r12, dv_r13, dv_r14, dv_r15, Option.bind_some, Bool.cond_decide, am_oI_some, am_oV_some, am_oI_ite, am_oV_ite, am_bind_ite, Int.toNat_natCast, Int.toNat_zero, Int.reduceToNat, ite_true, ite_false, not_true_eq_false, not_false_eq_true, decide_true, decide_false, decide_eq_true_eq, Bool.false_eq_true, Nat.add_zero, am_rok1_0, am_rok1_1, cond_true, cond_false, am_w_nat1, true_or, or_true, false_or, or_false, true_and, and_true, false_and, and_false, Int.reduceEq, Int.reduceNeg, Int.reduceLT, Int.reduceLE, or_self, and_self, if_pos, if_neg]
    · rw [if_neg e]
      simp (disch := omega) only [bk_284_26, bk_284_31, hZ, dv_f0, dv_f1, dv_f2, dv_f3, dv_f4, dv_f5, dv_f6, dv_f7, dv_f8, dv_f9, dv_f10, dv_f11, dv_f12, dv_f13, dv_g0, dv_g1, dv_g2, dv_i0, dv_i1, dv_p0, dv_p1, dv_isc, dv_iscL, dv_r0, dv_r1, dv_r2, dv_r3, dv_r4, dv_r5, dv_r6, dv_r7, dv_r8, dv_r9, dv_r10, dv_r11, dv_r12, dv_r13, dv_r14, dv_r15, Option.bind_some, Bool.cond_decide, am_oI_some, am_oV_some, am_oI_ite, am_oV_ite, am_bind_ite, Int.toNat_natCast, Int.toNat_zero, Int.reduceToNat, ite_true, ite_false, not_true_eq_false, not_false_eq_true, decide_true, decide_false, decide_eq_true_eq, Bool.false_eq_true, Nat.add_zero, am_rok1_0, am_rok1_1, cond_true, cond_false, am_w_nat1, true_or, or_true, false_or, or_false, true_and, and_true, false_and, and_false, Int.reduceEq, Int.reduceNeg, Int.reduceLT, Int.reduceLE, or_self, and_self, if_pos, if_neg]
  have key := loop_to (fun j : Nat => am_run am_ms 284 4 [am_R d, am_I (wn (D 4) (j + 1)), am_I ((j + 1 : Nat) : Int)] [] (dv d D h)) (Z - 1) step
  have key' : am_run am_ms 284 4 [am_R d, am_I 0, am_I 1] [] (dv d D h) = am_run am_ms 284 4 [am_R d, am_I (wn (D 4) Z), am_I Z] [] (dv d D h) := by
    have k2 := key
    (try dsimp only at k2)
    rw [show Z - 1 + 1 = Z by omega, show 0 + 1 = 1 from rfl, wn_1] at k2
    exact k2
  rw [am_cI, en_284, bk_284_0, key', bk_284_4]
  simp (disch := omega) only [bk_284_37, hZ, dv_f0, dv_f1, dv_f2, dv_f3, dv_f4, dv_f5, dv_f6, dv_f7, dv_f8, dv_f9, dv_f10, dv_f11, dv_f12, dv_f13, dv_g0, dv_g1, dv_g2, dv_i0, dv_i1, dv_p0, dv_p1, dv_isc, dv_iscL, dv_r0, dv_r1, dv_r2, dv_r3, dv_r4, dv_r5, dv_r6, dv_r7, dv_r8, dv_r9, dv_r10, dv_r11, dv_r12, dv_r13, dv_r14, dv_r15, Option.bind_some, Bool.cond_decide, am_oI_some, am_oV_some, am_oI_ite, am_oV_ite, am_bind_ite, Int.toNat_natCast, Int.toNat_zero, Int.reduceToNat, ite_true, ite_false, not_true_eq_false, not_false_eq_true, decide_true, decide_false, decide_eq_true_eq, Bool.false_eq_true, Nat.add_zero, am_rok1_0, am_rok1_1, cond_true, cond_false, am_w_nat1, true_or, or_true, false_or, or_false, true_and, and_true, false_and, and_false, Int.reduceEq, Int.reduceNeg, Int.reduceLT, Int.reduceLE, or_self, and_self, if_pos, if_neg]
theorem m_worn (iv : IV N Z 3) (rl : RL N Ad true (fun _ => 0) 0 8) (f30 : M 3 0 = Z) (pk : ∀ g, mv mo M g = mv mo (drow M 8 (pack Ad)) g) : am_cI 292 [am_R mo] (mv mo M g) = some ((wn (N 4) Z : Int), mv mo M g) := by
  have hZ8 := iv.pw.2.1
  have hZ1 : 1 ≤ Z := by have := iv.1.2.1; omega
  have r4 : ∀ z : Nat, z < 8 → am_rd (mv mo M g) (mo + 8) 0 (16 + (z : Int)) = some (N 4 z) := fun z hz => by
    have r := mr4 (m := mo) (M := M) (A := Ad) (h := g) (c := 8) (by omega) (z := z) hz
    rw [← pk, rl.1.2.2.2.1] at r
    exact r
  have step : ∀ j : Nat, j < Z - 1 → am_run am_ms 292 4 [am_R mo, am_I (wn (N 4) (j + 1)), am_I ((j + 1 : Nat) : Int)] [] (mv mo M g) = am_run am_ms 292 4 [am_R mo, am_I (wn (N 4) (j + 1 + 1)), am_I ((j + 1 + 1 : Nat) : Int)] [] (mv mo M g) := by
    intro j hj
    have hle := wn_le (N 4) (j + 1)
    have es : wn (N 4) (j + 1 + 1) = if N 4 (wn (N 4) (j + 1)) < N 4 (j + 1) then j + 1 else wn (N 4) (j + 1) := rfl
    rw [es]
    clear es
    generalize wn (N 4) (j + 1) = B at hle ⊢
    generalize e1 : j + 1 = z at hle ⊢
    rw [bk_292_4]
    by_cases e : N 4 B < N 4 z
    · rw [if_pos e]
      simp (disch := omega) only [bk_292_27, bk_292_37, mv_f0_6, mv_f0_15, mv_r3, f30, nte16, r4, Option.bind_some, Bool.cond_decide, am_oI_some, am_oV_some, am_oI_ite, am_oV_ite, am_bind_ite, Int.toNat_natCast, Int.toNat_zero, Int.reduceToNat, ite_true, ite_false, not_true_eq_false, not_false_eq_true, decide_true, decide_false, decide_eq_true_eq, Bool.false_eq_true, Nat.add_zero, am_rok1_0, am_rok1_1, cond_true, cond_false, am_w_nat1, true_or, or_true, false_or, or_false, true_and, and_true, false_and, and_false, Int.reduceEq, Int.reduceNeg, Int.reduceLT, Int.reduceLE, or_self, and_self, if_pos, if_neg]
    · rw [if_neg e]
      simp (disch := omega) only [bk_292_27, bk_292_37, mv_f0_6, mv_f0_15, mv_r3, f30, nte16, r4, Option.bind_some, Bool.cond_decide, am_oI_some, am_oV_some, am_oI_ite, am_oV_ite, am_bind_ite, Int.toNat_natCast, Int.toNat_zero, Int.reduceToNat, ite_true, ite_false, not_true_eq_false, not_false_eq_true, decide_true, decide_false, decide_eq_true_eq, Bool.false_eq_true, Nat.add_zero, am_rok1_0, am_rok1_1, cond_true, cond_false, am_w_nat1, true_or, or_true, false_or, or_false, true_and, and_true, false_and, and_false, Int.reduceEq, Int.reduceNeg, Int.reduceLT, Int.reduceLE, or_self, and_self, if_pos, if_neg]
  have key := loop_to (fun j : Nat => am_run am_ms 292 4 [am_R mo, am_I (wn (N 4) (j + 1)), am_I ((j + 1 : Nat) : Int)] [] (mv mo M g)) (Z - 1) step
  have key' : am_run am_ms 292 4 [am_R mo, am_I 0, am_I 1] [] (mv mo M g) = am_run am_ms 292 4 [am_R mo, am_I (wn (N 4) Z), am_I Z] [] (mv mo M g) := by
    have k2 := key
    (try dsimp only at k2)
    rw [show Z - 1 + 1 = Z by omega, show 0 + 1 = 1 from rfl, wn_1] at k2
    exact k2
  rw [am_cI, en_292, bk_292_0, key', bk_292_4]
  simp (disch := omega) only [bk_292_43, mv_f0_6, mv_r3, f30, Option.bind_some, Bool.cond_decide, am_oI_some, am_oV_some, am_oI_ite, am_oV_ite, am_bind_ite, Int.toNat_natCast, Int.toNat_zero, Int.reduceToNat, ite_true, ite_false, not_true_eq_false, not_false_eq_true, decide_true, decide_false, decide_eq_true_eq, Bool.false_eq_true, Nat.add_zero, am_rok1_0, am_rok1_1, cond_true, cond_false, am_w_nat1, true_or, or_true, false_or, or_false, true_and, and_true, false_and, and_false, Int.reduceEq, Int.reduceNeg, Int.reduceLT, Int.reduceLE, or_self, and_self, if_pos, if_neg]
end WORN
