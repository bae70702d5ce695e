/-! ===== step ===== -/
section STEP
variable {x mo n m : Nat} {A : Nat → Nat} {N P K T S : Nat → Nat → Int} {HD : Nat → Nat → Nat → Int} {M : Nat → Nat → Int} {h g : am_H}
theorem zs_rr {s : Nat} (hs : s < 4) : am_rr (zv x N P K T S m A h) (x + 12) (s : Int) = some (some (x + 91 + 4 * s)) := by
  unfold am_rr
  rw [zv_in (i := 12) (by omega)]
  show (if 0 ≤ (s : Int) ∧ (s : Int) < (4 : Nat) then some (if (s : Int).toNat < 4 then some (x + 91 + 4 * (s : Int).toNat) else none) else none) = _
  rw [if_pos ⟨by omega, by omega⟩, Int.toNat_natCast, if_pos hs]
theorem zs_c {s : Nat} (hs : s < 4) : am_isc (zv x N P K T S m A h) (x + 91 + 4 * s) 5 = some () := by
  rcases (show s = 0 ∨ s = 1 ∨ s = 2 ∨ s = 3 by omega) with e | e | e | e
  · rw [e, show x + 91 + 4 * 0 = x + 91 by omega]; exact zv_c91
  · rw [e, show x + 91 + 4 * 1 = x + 95 by omega]; exact zv_c95
  · rw [e, show x + 91 + 4 * 2 = x + 99 by omega]; exact zv_c99
  · rw [e, show x + 91 + 4 * 3 = x + 103 by omega]; exact zv_c103
theorem zs_n {s : Nat} (hs : s < 4) : am_gfI (zv x N P K T S m A h) (x + 91 + 4 * s) 5 3 = some (S 0 (17 + s)) := by
  rcases (show s = 0 ∨ s = 1 ∨ s = 2 ∨ s = 3 by omega) with e | e | e | e
  · rw [e, show x + 91 + 4 * 0 = x + 91 by omega]; exact zv_f91_3
  · rw [e, show x + 91 + 4 * 1 = x + 95 by omega]; exact zv_f95_3
  · rw [e, show x + 91 + 4 * 2 = x + 99 by omega]; exact zv_f99_3
  · rw [e, show x + 91 + 4 * 3 = x + 103 by omega]; exact zv_f103_3
theorem zs_f0 {s : Nat} (hs : s < 4) : am_gfR (zv x N P K T S m A h) (x + 91 + 4 * s) 5 0 = some (x + 92 + 4 * s) := by
  rcases (show s = 0 ∨ s = 1 ∨ s = 2 ∨ s = 3 by omega) with e | e | e | e
  · rw [e, show x + 91 + 4 * 0 = x + 91 by omega, show x + 92 + 4 * 0 = x + 92 by omega]; exact zv_f91_0
  · rw [e, show x + 91 + 4 * 1 = x + 95 by omega, show x + 92 + 4 * 1 = x + 96 by omega]; exact zv_f95_0
  · rw [e, show x + 91 + 4 * 2 = x + 99 by omega, show x + 92 + 4 * 2 = x + 100 by omega]; exact zv_f99_0
  · rw [e, show x + 91 + 4 * 3 = x + 103 by omega, show x + 92 + 4 * 3 = x + 104 by omega]; exact zv_f103_0
theorem zs_f1 {s : Nat} (hs : s < 4) : am_gfR (zv x N P K T S m A h) (x + 91 + 4 * s) 5 1 = some (x + 93 + 4 * s) := by
  rcases (show s = 0 ∨ s = 1 ∨ s = 2 ∨ s = 3 by omega) with e | e | e | e
  · rw [e, show x + 91 + 4 * 0 = x + 91 by omega, show x + 93 + 4 * 0 = x + 93 by omega]; exact zv_f91_1
  · rw [e, show x + 91 + 4 * 1 = x + 95 by omega, show x + 93 + 4 * 1 = x + 97 by omega]; exact zv_f95_1
  · rw [e, show x + 91 + 4 * 2 = x + 99 by omega, show x + 93 + 4 * 2 = x + 101 by omega]; exact zv_f99_1
  · rw [e, show x + 91 + 4 * 3 = x + 103 by omega, show x + 93 + 4 * 3 = x + 105 by omega]; exact zv_f103_1
theorem zs_f2 {s : Nat} (hs : s < 4) : am_gfR (zv x N P K T S m A h) (x + 91 + 4 * s) 5 2 = some (x + 94 + 4 * s) := by
  rcases (show s = 0 ∨ s = 1 ∨ s = 2 ∨ s = 3 by omega) with e | e | e | e
  · rw [e, show x + 91 + 4 * 0 = x + 91 by omega, show x + 94 + 4 * 0 = x + 94 by omega]; exact zv_f91_2
  · rw [e, show x + 91 + 4 * 1 = x + 95 by omega, show x + 94 + 4 * 1 = x + 98 by omega]; exact zv_f95_2
  · rw [e, show x + 91 + 4 * 2 = x + 99 by omega, show x + 94 + 4 * 2 = x + 102 by omega]; exact zv_f99_2
  · rw [e, show x + 91 + 4 * 3 = x + 103 by omega, show x + 94 + 4 * 3 = x + 106 by omega]; exact zv_f103_2
theorem zs_r0 {s j : Nat} (hs : s < 4) (hj : j < 16) : am_rd (zv x N P K T S m A h) (x + 92 + 4 * s) 0 (j : Int) = some (S (10 + 3 * s) j) := by
  have h0 : (0 : Int) ≤ (j : Int) := by omega
  have h1 : (j : Int) < 16 := by omega
  rcases (show s = 0 ∨ s = 1 ∨ s = 2 ∨ s = 3 by omega) with e | e | e | e
  · rw [e, show x + 92 + 4 * 0 = x + 92 by omega]; exact zv_r10 h0 h1
  · rw [e, show x + 92 + 4 * 1 = x + 96 by omega]; exact zv_r13 h0 h1
  · rw [e, show x + 92 + 4 * 2 = x + 100 by omega]; exact zv_r16 h0 h1
  · rw [e, show x + 92 + 4 * 3 = x + 104 by omega]; exact zv_r19 h0 h1
theorem zs_r1 {s j : Nat} (hs : s < 4) (hj : j < 16) : am_rd (zv x N P K T S m A h) (x + 93 + 4 * s) 0 (j : Int) = some (S (10 + 3 * s + 1) j) := by
  have h0 : (0 : Int) ≤ (j : Int) := by omega
  have h1 : (j : Int) < 16 := by omega
  rcases (show s = 0 ∨ s = 1 ∨ s = 2 ∨ s = 3 by omega) with e | e | e | e
  · rw [e, show x + 93 + 4 * 0 = x + 93 by omega]; exact zv_r11 h0 h1
  · rw [e, show x + 93 + 4 * 1 = x + 97 by omega]; exact zv_r14 h0 h1
  · rw [e, show x + 93 + 4 * 2 = x + 101 by omega]; exact zv_r17 h0 h1
  · rw [e, show x + 93 + 4 * 3 = x + 105 by omega]; exact zv_r20 h0 h1
theorem zs_r2 {s j : Nat} (hs : s < 4) (hj : j < 16) : am_rd (zv x N P K T S m A h) (x + 94 + 4 * s) 0 (j : Int) = some (S (10 + 3 * s + 2) j) := by
  have h0 : (0 : Int) ≤ (j : Int) := by omega
  have h1 : (j : Int) < 16 := by omega
  rcases (show s = 0 ∨ s = 1 ∨ s = 2 ∨ s = 3 by omega) with e | e | e | e
  · rw [e, show x + 94 + 4 * 0 = x + 94 by omega]; exact zv_r12 h0 h1
  · rw [e, show x + 94 + 4 * 1 = x + 98 by omega]; exact zv_r15 h0 h1
  · rw [e, show x + 94 + 4 * 2 = x + 102 by omega]; exact zv_r18 h0 h1
  · rw [e, show x + 94 + 4 * 3 = x + 106 by omega]; exact zv_r21 h0 h1
theorem sc_in {s j c : Nat} (hs : s < 4) (hj : (j : Int) < S 0 (17 + s)) (hn : S 0 (17 + s) ≤ 16) (hc : c < 3) : am_cI 216 [am_R (x + 91 + 4 * s), am_I j, am_I c] (zv x N P K T S m A h) = some (S (10 + 3 * s + c) j, (zv x N P K T S m A h)) := by
  have hj16 : j < 16 := by omega
  have hj0 : ¬ (j : Int) < 0 := by omega
  have f3 := zs_n (x := x) (N := N) (P := P) (K := K) (T := T) (S := S) (m := m) (A := A) (h := h) hs
  have f0 := zs_f0 (x := x) (N := N) (P := P) (K := K) (T := T) (S := S) (m := m) (A := A) (h := h) hs
  have f1 := zs_f1 (x := x) (N := N) (P := P) (K := K) (T := T) (S := S) (m := m) (A := A) (h := h) hs
  have f2 := zs_f2 (x := x) (N := N) (P := P) (K := K) (T := T) (S := S) (m := m) (A := A) (h := h) hs
  have r0 := zs_r0 (x := x) (N := N) (P := P) (K := K) (T := T) (S := S) (m := m) (A := A) (h := h) hs hj16
  have r1 := zs_r1 (x := x) (N := N) (P := P) (K := K) (T := T) (S := S) (m := m) (A := A) (h := h) hs hj16
  have r2 := zs_r2 (x := x) (N := N) (P := P) (K := K) (T := T) (S := S) (m := m) (A := A) (h := h) hs hj16
  rcases (show c = 0 ∨ c = 1 ∨ c = 2 by omega) with e | e | e
  · have et : am_tsw 16 49 0 2 #[28, 35, 42] (c : Int) = 44 := by rw [e]; rfl
    rw [show S (10 + 3 * s + c) = S (10 + 3 * s) by rw [e, Nat.add_zero]]
    rw [am_cI]; simp only [en_216, bk_216_0, bk_216_12, bk_216_15, bk_216_16, bk_216_44, bk_216_51, bk_216_58, bk_216_65, hj0, hj, et, f3, f0, r0, Option.bind_some, Bool.cond_decide, am_oI_some, am_oV_some, am_oI_ite, am_oV_ite, am_bind_ite, Int.toNat_natCast, Int.toNat_zero, Int.reduceToNat, ite_true, ite_false, not_true_eq_false, not_false_eq_true, decide_true, decide_false, decide_eq_true_eq, Bool.false_eq_true, Nat.add_zero, am_rok1_0, am_rok1_1, cond_true, cond_false, am_w_nat1, true_or, or_true, false_or, or_false, true_and, and_true, false_and, and_false, Int.reduceEq, Int.reduceNeg, Int.reduceLT, Int.reduceLE, or_self, and_self]
  · have et : am_tsw 16 49 0 2 #[28, 35, 42] (c : Int) = 51 := by rw [e]; rfl
    rw [show S (10 + 3 * s + c) = S (10 + 3 * s + 1) by rw [e]]
    rw [am_cI]; simp only [en_216, bk_216_0, bk_216_12, bk_216_15, bk_216_16, bk_216_44, bk_216_51, bk_216_58, bk_216_65, hj0, hj, et, f3, f1, r1, Option.bind_some, Bool.cond_decide, am_oI_some, am_oV_some, am_oI_ite, am_oV_ite, am_bind_ite, Int.toNat_natCast, Int.toNat_zero, Int.reduceToNat, ite_true, ite_false, not_true_eq_false, not_false_eq_true, decide_true, decide_false, decide_eq_true_eq, Bool.false_eq_true, Nat.add_zero, am_rok1_0, am_rok1_1, cond_true, cond_false, am_w_nat1, true_or, or_true, false_or, or_false, true_and, and_true, false_and, and_false, Int.reduceEq, Int.reduceNeg, Int.reduceLT, Int.reduceLE, or_self, and_self]
  · have et : am_tsw 16 49 0 2 #[28, 35, 42] (c : Int) = 58 := by rw [e]; rfl
    rw [show S (10 + 3 * s + c) = S (10 + 3 * s + 2) by rw [e]]
    rw [am_cI]; simp only [en_216, bk_216_0, bk_216_12, bk_216_15, bk_216_16, bk_216_44, bk_216_51, bk_216_58, bk_216_65, hj0, hj, et, f3, f2, r2, Option.bind_some, Bool.cond_decide, am_oI_some, am_oV_some, am_oI_ite, am_oV_ite, am_bind_ite, Int.toNat_natCast, Int.toNat_zero, Int.reduceToNat, ite_true, ite_false, not_true_eq_false, not_false_eq_true, decide_true, decide_false, decide_eq_true_eq, Bool.false_eq_true, Nat.add_zero, am_rok1_0, am_rok1_1, cond_true, cond_false, am_w_nat1, true_or, or_true, false_or, or_false, true_and, and_true, false_and, and_false, Int.reduceEq, Int.reduceNeg, Int.reduceLT, Int.reduceLE, or_self, and_self]
theorem sc_out {s : Nat} (hs : s < 4) {i b : Int} (hb : ¬ (0 ≤ i ∧ i < S 0 (17 + s) ∧ 0 ≤ b ∧ b ≤ 2)) : am_cI 216 [am_R (x + 91 + 4 * s), am_I i, am_I b] (zv x N P K T S m A h) = some (-1000000, (zv x N P K T S m A h)) := by
  have f3 := zs_n (x := x) (N := N) (P := P) (K := K) (T := T) (S := S) (m := m) (A := A) (h := h) hs
  by_cases e0 : i < 0
  · rw [am_cI]; simp only [en_216, bk_216_0, bk_216_12, bk_216_15, bk_216_16, bk_216_44, bk_216_51, bk_216_58, bk_216_65, e0, Option.bind_some, Bool.cond_decide, am_oI_some, am_oV_some, am_oI_ite, am_oV_ite, am_bind_ite, Int.toNat_natCast, Int.toNat_zero, Int.reduceToNat, ite_true, ite_false, not_true_eq_false, not_false_eq_true, decide_true, decide_false, decide_eq_true_eq, Bool.false_eq_true, Nat.add_zero, am_rok1_0, am_rok1_1, cond_true, cond_false, am_w_nat1, true_or, or_true, false_or, or_false, true_and, and_true, false_and, and_false, Int.reduceEq, Int.reduceNeg, Int.reduceLT, Int.reduceLE, or_self, and_self]
  · by_cases e1 : i < S 0 (17 + s)
    · have et : am_tsw 16 49 0 2 #[28, 35, 42] b = 65 := by unfold am_tsw; rw [if_pos (by omega)]; rfl
      rw [am_cI]; simp only [en_216, bk_216_0, bk_216_12, bk_216_15, bk_216_16, bk_216_44, bk_216_51, bk_216_58, bk_216_65, e0, e1, et, f3, Option.bind_some, Bool.cond_decide, am_oI_some, am_oV_some, am_oI_ite, am_oV_ite, am_bind_ite, Int.toNat_natCast, Int.toNat_zero, Int.reduceToNat, ite_true, ite_false, not_true_eq_false, not_false_eq_true, decide_true, decide_false, decide_eq_true_eq, Bool.false_eq_true, Nat.add_zero, am_rok1_0, am_rok1_1, cond_true, cond_false, am_w_nat1, true_or, or_true, false_or, or_false, true_and, and_true, false_and, and_false, Int.reduceEq, Int.reduceNeg, Int.reduceLT, Int.reduceLE, or_self, and_self]
    · rw [am_cI]; simp only [en_216, bk_216_0, bk_216_12, bk_216_15, bk_216_16, bk_216_44, bk_216_51, bk_216_58, bk_216_65, e0, e1, f3, Option.bind_some, Bool.cond_decide, am_oI_some, am_oV_some, am_oI_ite, am_oV_ite, am_bind_ite, Int.toNat_natCast, Int.toNat_zero, Int.reduceToNat, ite_true, ite_false, not_true_eq_false, not_false_eq_true, decide_true, decide_false, decide_eq_true_eq, Bool.false_eq_true, Nat.add_zero, am_rok1_0, am_rok1_1, cond_true, cond_false, am_w_nat1, true_or, or_true, false_or, or_false, true_and, and_true, false_and, and_false, Int.reduceEq, Int.reduceNeg, Int.reduceLT, Int.reduceLE, or_self, and_self]
theorem c_isScript (a : Int) : am_cI 215 [am_R x, am_I a] (zv x N P K T S m A h) = some (if 0 ≤ a ∧ a < S 0 0 then 1 else 0, (zv x N P K T S m A h)) := by
  by_cases e0 : a < 0
  · rw [am_cI]; simp (disch := omega) only [en_215, bk_215_0, bk_215_16, bk_215_17, zv_c0, zv_f0_0, zv_f0_1, zv_f0_2, zv_f0_3, zv_f0_4, zv_f0_5, zv_f0_6, zv_f0_7, zv_f0_8, zv_f0_9, zv_f0_10, zv_f0_11, zv_c1, zv_f1_0, zv_f1_1, zv_c3, zv_f3_0, zv_f3_1, zv_f3_2, zv_f3_3, zv_f3_4, zv_f3_5, zv_f3_6, zv_f3_7, zv_f3_8, zv_f3_9, zv_c7, zv_f7_0, zv_f7_1, zv_f7_2, zv_f7_3, zv_c67, zv_f67_0, zv_f67_1, zv_f67_2, zv_f67_3, zv_f67_4, zv_f67_5, zv_f67_6, zv_f67_7, zv_c86, zv_f86_0, zv_c87, zv_f87_0, zv_f87_1, zv_f87_2, zv_c89, zv_f89_0, zv_c91, zv_f91_0, zv_f91_1, zv_f91_2, zv_f91_3, zv_c95, zv_f95_0, zv_f95_1, zv_f95_2, zv_f95_3, zv_c99, zv_f99_0, zv_f99_1, zv_f99_2, zv_f99_3, zv_c103, zv_f103_0, zv_f103_1, zv_f103_2, zv_f103_3, zv_r1, zv_r2, zv_r3, zv_r4, zv_r5, zv_r6, zv_r7, zv_r8, zv_r9, zv_r10, zv_r11, zv_r12, zv_r13, zv_r14, zv_r15, zv_r16, zv_r17, zv_r18, zv_r19, zv_r20, zv_r21, zv_l1, zv_l2, zv_l3, zv_l4, zv_l5, zv_l6, zv_l7, zv_l8, zv_l9, zv_l10, zv_l11, zv_l12, zv_l13, zv_l14, zv_l15, zv_l16, zv_l17, zv_l18, zv_l19, zv_l20, zv_l21, zv_p0_3, zv_p0_7, zv_p1_1, zv_w1, zv_p3_3, zv_p3_7, zv_p3_8, zv_p3_9, zv_w2, zv_w3, zv_w4, zv_p7_3, zv_w5, zv_w6, zv_w7, zv_w8, zv_p67_3, zv_p67_4, zv_p67_5, zv_p67_6, zv_p67_7, zv_p86_0, zv_p87_1, zv_p87_2, zv_p89_0, zv_w9, zv_p91_3, zv_w10, zv_w11, zv_w12, zv_p95_3, zv_w13, zv_w14, zv_w15, zv_p99_3, zv_w16, zv_w17, zv_w18, zv_p103_3, zv_w19, zv_w20, zv_w21, zN_c, zN_cL, zN_f0, zN_f1, zN_f2, zN_f3, zN_f4, zN_f5, zN_f6, zN_f7, zN_f8, zN_f9, zN_f10, zN_f11, zN_f12, zN_f13, zN_i1, zN_r0, zN_r1, zN_r2, zN_r3, zN_r4, zN_r5, zN_r6, zN_r7, zN_r8, zN_r9, zN_r10, zN_r11, zN_r12, zN_w0, zP_c, zK_c, zT_c, zT_cL, zT_f0, zT_f1, zT_f2, zT_f3, zT_f4, zT_f5, zT_f6, zT_f7, zT_f8, zT_f9, zT_f10, zT_f11, zT_f12, zT_f13, zT_i1, zT_r0, zT_r1, zT_r2, zT_r3, zT_r4, zT_r5, zT_r6, zT_r7, zT_r8, zT_r9, zT_r10, zT_r11, zT_r12, zT_w0, dup_t, dup_o, va_up_self, va_up_ne, drow_t, drow_o, Option.bind_some, Bool.cond_decide, am_oI_some, am_oV_some, am_oI_ite, am_oV_ite, am_bind_ite, Int.toNat_natCast, Int.toNat_zero, Int.reduceToNat, ite_true, ite_false, not_true_eq_false, not_false_eq_true, decide_true, decide_false, decide_eq_true_eq, Bool.false_eq_true, Nat.add_zero, am_rok1_0, am_rok1_1, cond_true, cond_false, am_w_nat1, true_or, or_true, false_or, or_false, true_and, and_true, false_and, and_false, Int.reduceEq, Int.reduceNeg, Int.reduceLT, Int.reduceLE, or_self, and_self, if_pos, if_neg]
  · by_cases e1 : S 0 0 ≤ a
    · rw [am_cI]; simp (disch := omega) only [en_215, bk_215_0, bk_215_16, bk_215_17, zv_c0, zv_f0_0, zv_f0_1, zv_f0_2, zv_f0_3, zv_f0_4, zv_f0_5, zv_f0_6, zv_f0_7, zv_f0_8, zv_f0_9, zv_f0_10, zv_f0_11, zv_c1, zv_f1_0, zv_f1_1, zv_c3, zv_f3_0, zv_f3_1, zv_f3_2, zv_f3_3, zv_f3_4, zv_f3_5, zv_f3_6, zv_f3_7, zv_f3_8, zv_f3_9, zv_c7, zv_f7_0, zv_f7_1, zv_f7_2, zv_f7_3, zv_c67, zv_f67_0, zv_f67_1, zv_f67_2, zv_f67_3, zv_f67_4, zv_f67_5, zv_f67_6, zv_f67_7, zv_c86, zv_f86_0, zv_c87, zv_f87_0, zv_f87_1, zv_f87_2, zv_c89, zv_f89_0, zv_c91, zv_f91_0, zv_f91_1, zv_f91_2, zv_f91_3, zv_c95, zv_f95_0, zv_f95_1, zv_f95_2, zv_f95_3, zv_c99, zv_f99_0, zv_f99_1, zv_f99_2, zv_f99_3, zv_c103, zv_f103_0, zv_f103_1, zv_f103_2, zv_f103_3, zv_r1, zv_r2, zv_r3, zv_r4, zv_r5, zv_r6, zv_r7, zv_r8, zv_r9, zv_r10, zv_r11, zv_r12, zv_r13, zv_r14, zv_r15, zv_r16, zv_r17, zv_r18, zv_r19, zv_r20, zv_r21, zv_l1, zv_l2, zv_l3, zv_l4, zv_l5, zv_l6, zv_l7, zv_l8, zv_l9, zv_l10, zv_l11, zv_l12, zv_l13, zv_l14, zv_l15, zv_l16, zv_l17, zv_l18, zv_l19, zv_l20, zv_l21, zv_p0_3, zv_p0_7, zv_p1_1, zv_w1, zv_p3_3, zv_p3_7, zv_p3_8, zv_p3_9, zv_w2, zv_w3, zv_w4, zv_p7_3, zv_w5, zv_w6, zv_w7, zv_w8, zv_p67_3, zv_p67_4, zv_p67_5, zv_p67_6, zv_p67_7, zv_p86_0, zv_p87_1, zv_p87_2, zv_p89_0, zv_w9, zv_p91_3, zv_w10, zv_w11, zv_w12, zv_p95_3, zv_w13, zv_w14, zv_w15, zv_p99_3, zv_w16, zv_w17, zv_w18, zv_p103_3, zv_w19, zv_w20, zv_w21, zN_c, zN_cL, zN_f0, zN_f1, zN_f2, zN_f3, zN_f4, zN_f5, zN_f6, zN_f7, zN_f8, zN_f9, zN_f10, zN_f11, zN_f12, zN_f13, zN_i1, zN_r0, zN_r1, zN_r2, zN_r3, zN_r4, zN_r5, zN_r6, zN_r7, zN_r8, zN_r9, zN_r10, zN_r11, zN_r12, zN_w0, zP_c, zK_c, zT_c, zT_cL, zT_f0, zT_f1, zT_f2, zT_f3, zT_f4, zT_f5, zT_f6, zT_f7, zT_f8, zT_f9, zT_f10, zT_f11, zT_f12, zT_f13, zT_i1, zT_r0, zT_r1, zT_r2, zT_r3, zT_r4, zT_r5, zT_r6, zT_r7, zT_r8, zT_r9, zT_r10, zT_r11, zT_r12, zT_w0, dup_t, dup_o, va_up_self, va_up_ne, drow_t, drow_o, Option.bind_some, Bool.cond_decide, am_oI_some, am_oV_some, am_oI_ite, am_oV_ite, am_bind_ite, Int.toNat_natCast, Int.toNat_zero, Int.reduceToNat, ite_true, ite_false, not_true_eq_false, not_false_eq_true, decide_true, decide_false, decide_eq_true_eq, Bool.false_eq_true, Nat.add_zero, am_rok1_0, am_rok1_1, cond_true, cond_false, am_w_nat1, true_or, or_true, false_or, or_false, true_and, and_true, false_and, and_false, Int.reduceEq, Int.reduceNeg, Int.reduceLT, Int.reduceLE, or_self, and_self, if_pos, if_neg]
    · rw [am_cI]; simp (disch := omega) only [en_215, bk_215_0, bk_215_16, bk_215_17, zv_c0, zv_f0_0, zv_f0_1, zv_f0_2, zv_f0_3, zv_f0_4, zv_f0_5, zv_f0_6, zv_f0_7, zv_f0_8, zv_f0_9, zv_f0_10, zv_f0_11, zv_c1, zv_f1_0, zv_f1_1, zv_c3, zv_f3_0, zv_f3_1, zv_f3_2, zv_f3_3, zv_f3_4, zv_f3_5, zv_f3_6, zv_f3_7, zv_f3_8, zv_f3_9, zv_c7, zv_f7_0, zv_f7_1, zv_f7_2, zv_f7_3, zv_c67, zv_f67_0, zv_f67_1, zv_f67_2, zv_f67_3, zv_f67_4, zv_f67_5, zv_f67_6, zv_f67_7, zv_c86, zv_f86_0, zv_c87, zv_f87_0, zv_f87_1, zv_f87_2, zv_c89, zv_f89_0, zv_c91, zv_f91_0, zv_f91_1, zv_f91_2, zv_f91_3, zv_c95, zv_f95_0, zv_f95_1, zv_f95_2, zv_f95_3, zv_c99, zv_f99_0, zv_f99_1, zv_f99_2, zv_f99_3, zv_c103, zv_f103_0, zv_f103_1, zv_f103_2, zv_f103_3, zv_r1, zv_r2, zv_r3, zv_r4, zv_r5, zv_r6, zv_r7, zv_r8, zv_r9, zv_r10, zv_r11, zv_r12, zv_r13, zv_r14, zv_r15, zv_r16, zv_r17, zv_r18, zv_r19, zv_r20, zv_r21, zv_l1, zv_l2, zv_l3, zv_l4, zv_l5, zv_l6, zv_l7, zv_l8, zv_l9, zv_l10, zv_l11, zv_l12, zv_l13, zv_l14, zv_l15, zv_l16, zv_l17, zv_l18, zv_l19, zv_l20, zv_l21, zv_p0_3, zv_p0_7, zv_p1_1, zv_w1, zv_p3_3, zv_p3_7, zv_p3_8, zv_p3_9, zv_w2, zv_w3, zv_w4, zv_p7_3, zv_w5, zv_w6, zv_w7, zv_w8, zv_p67_3, zv_p67_4, zv_p67_5, zv_p67_6, zv_p67_7, zv_p86_0, zv_p87_1, zv_p87_2, zv_p89_0, zv_w9, zv_p91_3, zv_w10, zv_w11, zv_w12, zv_p95_3, zv_w13, zv_w14, zv_w15, zv_p99_3, zv_w16, zv_w17, zv_w18, zv_p103_3, zv_w19, zv_w20, zv_w21, zN_c, zN_cL, zN_f0, zN_f1, zN_f2, zN_f3, zN_f4, zN_f5, zN_f6, zN_f7, zN_f8, zN_f9, zN_f10, zN_f11, zN_f12, zN_f13, zN_i1, zN_r0, zN_r1, zN_r2, zN_r3, zN_r4, zN_r5, zN_r6, zN_r7, zN_r8, zN_r9, zN_r10, zN_r11, zN_r12, zN_w0, zP_c, zK_c, zT_c, zT_cL, zT_f0, zT_f1, zT_f2, zT_f3, zT_f4, zT_f5, zT_f6, zT_f7, zT_f8, zT_f9, zT_f10, zT_f11, zT_f12, zT_f13, zT_i1, zT_r0, zT_r1, zT_r2, zT_r3, zT_r4, zT_r5, zT_r6, zT_r7, zT_r8, zT_r9, zT_r10, zT_r11, zT_r12, zT_w0, dup_t, dup_o, va_up_self, va_up_ne, drow_t, drow_o, Option.bind_some, Bool.cond_decide, am_oI_some, am_oV_some, am_oI_ite, am_oV_ite, am_bind_ite, Int.toNat_natCast, Int.toNat_zero, Int.reduceToNat, ite_true, ite_false, not_true_eq_false, not_false_eq_true, decide_true, decide_false, decide_eq_true_eq, Bool.false_eq_true, Nat.add_zero, am_rok1_0, am_rok1_1, cond_true, cond_false, am_w_nat1, true_or, or_true, false_or, or_false, true_and, and_true, false_and, and_false, Int.reduceEq, Int.reduceNeg, Int.reduceLT, Int.reduceLE, or_self, and_self, if_pos, if_neg]
theorem m_isScript (h0 : 0 ≤ M 0 12) (h1 : M 0 12 ≤ 4) (a : Int) : am_cI 218 [am_R mo, am_I a] (mv mo M g) = some (if 0 ≤ a ∧ a < M 0 12 then 1 else 0, mv mo M g) := by
  have d1 := m_isIn a 0 (am_w (M 0 12 - 1)) (mv mo M g)
  have ew : am_w (M 0 12 - 1) = M 0 12 - 1 := am_w_id (by omega) (by omega)
  have ec : (0 ≤ a ∧ a ≤ am_w (M 0 12 - 1)) ↔ (0 ≤ a ∧ a < M 0 12) := by rw [ew]; omega
  clear ew
  by_cases e : 0 ≤ a ∧ a < M 0 12
  · rw [if_pos (ec.mpr e)] at d1
    clear ec
    rw [if_pos e, am_cI]; simp only [en_218, bk_218_0, mv_f0_12, d1, Option.bind_some, Bool.cond_decide, am_oI_some, am_oV_some, am_oI_ite, am_oV_ite, am_bind_ite, Int.toNat_natCast, Int.toNat_zero, Int.reduceToNat, ite_true, ite_false, not_true_eq_false, not_false_eq_true, decide_true, decide_false, decide_eq_true_eq, Bool.false_eq_true, Nat.add_zero, am_rok1_0, am_rok1_1, cond_true, cond_false, am_w_nat1, true_or, or_true, false_or, or_false, true_and, and_true, false_and, and_false, Int.reduceEq, Int.reduceNeg, Int.reduceLT, Int.reduceLE, or_self, and_self]
  · rw [if_neg (fun q => e (ec.mp q))] at d1
    clear ec
    rw [if_neg e, am_cI]; simp only [en_218, bk_218_0, mv_f0_12, d1, Option.bind_some, Bool.cond_decide, am_oI_some, am_oV_some, am_oI_ite, am_oV_ite, am_bind_ite, Int.toNat_natCast, Int.toNat_zero, Int.reduceToNat, ite_true, ite_false, not_true_eq_false, not_false_eq_true, decide_true, decide_false, decide_eq_true_eq, Bool.false_eq_true, Nat.add_zero, am_rok1_0, am_rok1_1, cond_true, cond_false, am_w_nat1, true_or, or_true, false_or, or_false, true_and, and_true, false_and, and_false, Int.reduceEq, Int.reduceNeg, Int.reduceLT, Int.reduceLE, or_self, and_self]
theorem scx {s i b : Nat} (hs : s < 4) (hi : i < 16) (hb : b < 3) : am_w (am_w (3 * am_w (am_w (16 * (s : Int)) + (i : Int))) + (b : Int)) = ((48 * s + 3 * i + b : Nat) : Int) := by
  rw [am_w_id (x := 16 * (s : Int)) (by omega) (by omega), am_w_id (x := 16 * (s : Int) + (i : Int)) (by omega) (by omega), am_w_id (x := 3 * (16 * (s : Int) + (i : Int))) (by omega) (by omega), am_w_id (by omega) (by omega)]
  omega
theorem lk_step (w : WR n m N K S HD M) (a i b : Int) : LK 217 219 [am_I a, am_I i, am_I b] x mo n m A N P K T S HD M := by
  intro h g
  have c1 := c_isScript (x := x) (N := N) (P := P) (K := K) (T := T) (S := S) (m := m) (A := A) (h := h) a
  have hmk := MK_f M (j := 0) (by omega) 0
  obtain ⟨⟨s0, s4, s12⟩, ws⟩ := w.2.1
  have m12 : dup M 0 0 0 0 12 = S 0 0 := by rw [dup_t, va_up_ne _ _ (by omega)]; exact s12
  have d1 := m_isScript (mo := mo) (M := dup M 0 0 0) (g := g) (by omega) (by omega) a
  rw [m12] at d1
  by_cases e : 0 ≤ a ∧ a < S 0 0
  · rw [if_pos e] at c1 d1
    obtain ⟨s, rfl⟩ : ∃ s : Nat, a = s := ⟨a.toNat, by omega⟩
    have hs : s < 4 := by omega
    obtain ⟨⟨n1, n16, m6⟩, wi⟩ := ws s e.2
    have rr := zs_rr (x := x) (N := N) (P := P) (K := K) (T := T) (S := S) (m := m) (A := A) (h := h) hs
    have rc := zs_c (x := x) (N := N) (P := P) (K := K) (T := T) (S := S) (m := m) (A := A) (h := h) hs
    have r6 := mv_r6 (m := mo) (M := dup M 0 0 0) (h := g) (j := (s : Int)) (by omega) (by omega)
    rw [Int.toNat_natCast, dup_o _ _ _ (show (6 : Nat) ≠ 0 by omega), m6] at r6
    have d2 := m_isIn i 0 (am_w (S 0 (17 + s) - 1)) (mv mo (dup M 0 0 0) g)
    have d3 := m_isIn b 0 2 (mv mo (dup M 0 0 0) g)
    have ec : (0 ≤ i ∧ i ≤ am_w (S 0 (17 + s) - 1)) ↔ (0 ≤ i ∧ i < S 0 (17 + s)) := by rw [am_w_id (x := S 0 (17 + s) - 1) (by omega) (by omega)]; omega
    by_cases e1 : 0 ≤ i ∧ i < S 0 (17 + s)
    · rw [if_pos (ec.mpr e1)] at d2
      clear ec
      by_cases e2 : 0 ≤ b ∧ b ≤ 2
      · rw [if_pos e2] at d3
        obtain ⟨j, rfl⟩ : ∃ j : Nat, i = j := ⟨i.toNat, by omega⟩
        obtain ⟨c, rfl⟩ : ∃ c : Nat, b = c := ⟨b.toNat, by omega⟩
        have hj : j < 16 := by omega
        have hc : c < 3 := by omega
        have c2 := sc_in (x := x) (N := N) (P := P) (K := K) (T := T) (S := S) (m := m) (A := A) (h := h) hs e1.2 n16 hc
        have wv := (wi j e1.2).1
        have ev : M 5 (48 * s + 3 * j + c) = S (10 + 3 * s + c) j := by
          rcases (show c = 0 ∨ c = 1 ∨ c = 2 by omega) with q | q | q
          · rw [q, Nat.add_zero, Nat.add_zero]; exact wv.1
          · rw [q, show 10 + 3 * s + 1 = 11 + 3 * s by omega]; exact wv.2.1
          · rw [q, show 10 + 3 * s + 2 = 12 + 3 * s by omega]; exact wv.2.2
        have r5 := mv_r5 (m := mo) (M := dup M 0 0 0) (h := g) (j := ((48 * s + 3 * j + c : Nat) : Int)) (by omega) (by omega)
        rw [Int.toNat_natCast, dup_o _ _ _ (show (5 : Nat) ≠ 0 by omega), ev] at r5
        refine ⟨S (10 + 3 * s + c) j, dup M 0 0 0, ?_, ?_, hmk⟩
        · rw [am_cI]; simp only [en_217, bk_217_0, bk_217_22, bk_217_24, zv_c0, zv_f0_2, c1, rr, rc, c2, Option.bind_some, Bool.cond_decide, am_oI_some, am_oV_some, am_oI_ite, am_oV_ite, am_bind_ite, Int.toNat_natCast, Int.toNat_zero, Int.reduceToNat, ite_true, ite_false, not_true_eq_false, not_false_eq_true, decide_true, decide_false, decide_eq_true_eq, Bool.false_eq_true, Nat.add_zero, am_rok1_0, am_rok1_1, cond_true, cond_false, am_w_nat1, true_or, or_true, false_or, or_false, true_and, and_true, false_and, and_false, Int.reduceEq, Int.reduceNeg, Int.reduceLT, Int.reduceLE, or_self, and_self]
        · rw [am_cI]; simp only [en_219, bk_219_0, bk_219_22, bk_219_43, bk_219_47, mv_p0_0, mv_c0, mv_f0_9, mv_f0_8, d1, r6, d2, d3, scx hs hj hc, r5, Option.bind_some, Bool.cond_decide, am_oI_some, am_oV_some, am_oI_ite, am_oV_ite, am_bind_ite, Int.toNat_natCast, Int.toNat_zero, Int.reduceToNat, ite_true, ite_false, not_true_eq_false, not_false_eq_true, decide_true, decide_false, decide_eq_true_eq, Bool.false_eq_true, Nat.add_zero, am_rok1_0, am_rok1_1, cond_true, cond_false, am_w_nat1, true_or, or_true, false_or, or_false, true_and, and_true, false_and, and_false, Int.reduceEq, Int.reduceNeg, Int.reduceLT, Int.reduceLE, or_self, and_self]
      · rw [if_neg e2] at d3
        have c2 := sc_out (x := x) (N := N) (P := P) (K := K) (T := T) (S := S) (m := m) (A := A) (h := h) hs (i := i) (b := b) (fun q => e2 q.2.2)
        refine ⟨-1000000, dup M 0 0 0, ?_, ?_, hmk⟩
        · rw [am_cI]; simp only [en_217, bk_217_0, bk_217_22, bk_217_24, zv_c0, zv_f0_2, c1, rr, rc, c2, Option.bind_some, Bool.cond_decide, am_oI_some, am_oV_some, am_oI_ite, am_oV_ite, am_bind_ite, Int.toNat_natCast, Int.toNat_zero, Int.reduceToNat, ite_true, ite_false, not_true_eq_false, not_false_eq_true, decide_true, decide_false, decide_eq_true_eq, Bool.false_eq_true, Nat.add_zero, am_rok1_0, am_rok1_1, cond_true, cond_false, am_w_nat1, true_or, or_true, false_or, or_false, true_and, and_true, false_and, and_false, Int.reduceEq, Int.reduceNeg, Int.reduceLT, Int.reduceLE, or_self, and_self]
        · rw [am_cI]; simp only [en_219, bk_219_0, bk_219_22, bk_219_43, bk_219_47, mv_p0_0, mv_c0, mv_f0_9, d1, r6, d2, d3, Option.bind_some, Bool.cond_decide, am_oI_some, am_oV_some, am_oI_ite, am_oV_ite, am_bind_ite, Int.toNat_natCast, Int.toNat_zero, Int.reduceToNat, ite_true, ite_false, not_true_eq_false, not_false_eq_true, decide_true, decide_false, decide_eq_true_eq, Bool.false_eq_true, Nat.add_zero, am_rok1_0, am_rok1_1, cond_true, cond_false, am_w_nat1, true_or, or_true, false_or, or_false, true_and, and_true, false_and, and_false, Int.reduceEq, Int.reduceNeg, Int.reduceLT, Int.reduceLE, or_self, and_self]
    · rw [if_neg (fun q => e1 (ec.mp q))] at d2
      clear ec
      have c2 := sc_out (x := x) (N := N) (P := P) (K := K) (T := T) (S := S) (m := m) (A := A) (h := h) hs (i := i) (b := b) (fun q => e1 ⟨q.1, q.2.1⟩)
      refine ⟨-1000000, dup M 0 0 0, ?_, ?_, hmk⟩
      · rw [am_cI]; simp only [en_217, bk_217_0, bk_217_22, bk_217_24, zv_c0, zv_f0_2, c1, rr, rc, c2, Option.bind_some, Bool.cond_decide, am_oI_some, am_oV_some, am_oI_ite, am_oV_ite, am_bind_ite, Int.toNat_natCast, Int.toNat_zero, Int.reduceToNat, ite_true, ite_false, not_true_eq_false, not_false_eq_true, decide_true, decide_false, decide_eq_true_eq, Bool.false_eq_true, Nat.add_zero, am_rok1_0, am_rok1_1, cond_true, cond_false, am_w_nat1, true_or, or_true, false_or, or_false, true_and, and_true, false_and, and_false, Int.reduceEq, Int.reduceNeg, Int.reduceLT, Int.reduceLE, or_self, and_self]
      · rw [am_cI]; simp only [en_219, bk_219_0, bk_219_22, bk_219_43, bk_219_47, mv_p0_0, mv_c0, mv_f0_9, d1, r6, d2, Option.bind_some, Bool.cond_decide, am_oI_some, am_oV_some, am_oI_ite, am_oV_ite, am_bind_ite, Int.toNat_natCast, Int.toNat_zero, Int.reduceToNat, ite_true, ite_false, not_true_eq_false, not_false_eq_true, decide_true, decide_false, decide_eq_true_eq, Bool.false_eq_true, Nat.add_zero, am_rok1_0, am_rok1_1, cond_true, cond_false, am_w_nat1, true_or, or_true, false_or, or_false, true_and, and_true, false_and, and_false, Int.reduceEq, Int.reduceNeg, Int.reduceLT, Int.reduceLE, or_self, and_self]
  · rw [if_neg e] at c1 d1
    refine ⟨-1000000, dup M 0 0 0, ?_, ?_, hmk⟩
    · rw [am_cI]; simp only [en_217, bk_217_0, bk_217_22, bk_217_24, zv_c0, c1, Option.bind_some, Bool.cond_decide, am_oI_some, am_oV_some, am_oI_ite, am_oV_ite, am_bind_ite, Int.toNat_natCast, Int.toNat_zero, Int.reduceToNat, ite_true, ite_false, not_true_eq_false, not_false_eq_true, decide_true, decide_false, decide_eq_true_eq, Bool.false_eq_true, Nat.add_zero, am_rok1_0, am_rok1_1, cond_true, cond_false, am_w_nat1, true_or, or_true, false_or, or_false, true_and, and_true, false_and, and_false, Int.reduceEq, Int.reduceNeg, Int.reduceLT, Int.reduceLE, or_self, and_self]
    · rw [am_cI]; simp only [en_219, bk_219_0, bk_219_22, bk_219_43, bk_219_47, mv_p0_0, mv_c0, d1, Option.bind_some, Bool.cond_decide, am_oI_some, am_oV_some, am_oI_ite, am_oV_ite, am_bind_ite, Int.toNat_natCast, Int.toNat_zero, Int.reduceToNat, ite_true, ite_false, not_true_eq_false, not_false_eq_true, decide_true, decide_false, decide_eq_true_eq, Bool.false_eq_true, Nat.add_zero, am_rok1_0, am_rok1_1, cond_true, cond_false, am_w_nat1, true_or, or_true, false_or, or_false, true_and, and_true, false_and, and_false, Int.reduceEq, Int.reduceNeg, Int.reduceLT, Int.reduceLE, or_self, and_self]
end STEP
