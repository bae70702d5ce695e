/-! ===== acts undone, images ===== -/
section UNDO
variable {x mo lo n m Z : Nat} {A : Nat → Nat} {N P K T S M : Nat → Nat → Int} {HD : Nat → Nat → Nat → Int} {h g : am_H}
theorem zk_copy : am_cV 77 [am_R (x + 49), am_R (x + 13)] (zv x N P K T S m A h) = some (zv x N P N T S m A h) := by
  have c := d_copyFrom (d := x + 49) (e := x + 13) (D := K) (E := N) (h := (zv x N P K T S m A h)) (by omega)
  rw [zv_dN, zv_dK, zv_dK] at c
  exact c
theorem zn_copy : am_cV 77 [am_R (x + 13), am_R (x + 49)] (zv x N P K T S m A h) = some (zv x K P K T S m A h) := by
  have c := d_copyFrom (d := x + 13) (e := x + 49) (D := N) (E := K) (h := (zv x N P K T S m A h)) (by omega)
  rw [zv_dK, zv_dN, zv_dN] at c
  exact c
theorem zt_copy : am_cV 77 [am_R (x + 68), am_R (x + 13)] (zv x N P K T S m A h) = some (zv x N P K N S m A h) := by
  have c := d_copyFrom (d := x + 68) (e := x + 13) (D := T) (E := N) (h := (zv x N P K T S m A h)) (by omega)
  rw [zv_dN, zv_dT, zv_dT] at c
  exact c
theorem cl_image (w : WR n m N K S HD M) (hs : HS lo m A HD h) : CL 298 299 [] x mo lo n m A N P K T S M h g := by
  have c0 := c_isDrive (x := x) (N := N) (P := P) (K := K) (T := T) (S := S) (m := m) (A := A) h
  rcases w.2.2.2.2 with w0 | ⟨Z, wd⟩
  · have f14 : dup M 0 0 0 0 14 = 0 := by rw [dup_t, va_up_ne _ _ (by omega)]; exact w0.1
    rw [if_neg (by have := w0.2.1.1; omega)] at c0
    refine ⟨-1, N, P, K, T, S, dup M 0 0 0, m, A, h, HD, ?_, ?_, WR_MK w (MK_f M (by omega) 0), hs, FR_refl lo m h⟩
    · rw [am_cI]; simp (disch := omega) only [en_298, bk_298_0, bk_298_9, c0, zv_c0, zv_f0_0, zv_f0_1, zv_f0_2, zv_f0_3, zv_f0_4, zv_f0_5, zv_f0_6, zv_f0_7, zv_f0_8, zv_f0_9, zv_f0_10, zv_f0_11, zv_c1, zv_f1_0, zv_f1_1, zv_c3, zv_f3_0, zv_f3_1, zv_f3_2, zv_f3_3, zv_f3_4, zv_f3_5, zv_f3_6, zv_f3_7, zv_f3_8, zv_f3_9, zv_c7, zv_f7_0, zv_f7_1, zv_f7_2, zv_f7_3, zv_c67, zv_f67_0, zv_f67_1, zv_f67_2, zv_f67_3, zv_f67_4, zv_f67_5, zv_f67_6, zv_f67_7, zv_c86, zv_f86_0, zv_c87, zv_f87_0, zv_f87_1, zv_f87_2, zv_c89, zv_f89_0, zv_c91, zv_f91_0, zv_f91_1, zv_f91_2, zv_f91_3, zv_c95, zv_f95_0, zv_f95_1, zv_f95_2, zv_f95_3, zv_c99, zv_f99_0, zv_f99_1, zv_f99_2, zv_f99_3, zv_c103, zv_f103_0, zv_f103_1, zv_f103_2, zv_f103_3, zv_r1, zv_r2, zv_r3, zv_r4, zv_r5, zv_r6, zv_r7, zv_r8, zv_r9, zv_r10, zv_r11, zv_r12, zv_r13, zv_r14, zv_r15, zv_r16, zv_r17, zv_r18, zv_r19, zv_r20, zv_r21, zv_l1, zv_l2, zv_l3, zv_l4, zv_l5, zv_l6, zv_l7, zv_l8, zv_l9, zv_l10, zv_l11, zv_l12, zv_l13, zv_l14, zv_l15, zv_l16, zv_l17, zv_l18, zv_l19, zv_l20, zv_l21, zv_p0_3, zv_p0_7, zv_p1_1, zv_w1, zv_p3_3, zv_p3_7, zv_p3_8, zv_p3_9, zv_w2, zv_w3, zv_w4, zv_p7_3, zv_w5, zv_w6, zv_w7, zv_w8, zv_p67_3, zv_p67_4, zv_p67_5, zv_p67_6, zv_p67_7, zv_p86_0, zv_p87_1, zv_p87_2, zv_p89_0, zv_w9, zv_p91_3, zv_w10, zv_w11, zv_w12, zv_p95_3, zv_w13, zv_w14, zv_w15, zv_p99_3, zv_w16, zv_w17, zv_w18, zv_p103_3, zv_w19, zv_w20, zv_w21, zN_c, zN_cL, zN_f0, zN_f1, zN_f2, zN_f3, zN_f4, zN_f5, zN_f6, zN_f7, zN_f8, zN_f9, zN_f10, zN_f11, zN_f12, zN_f13, zN_i1, zN_r0, zN_r1, zN_r2, zN_r3, zN_r4, zN_r5, zN_r6, zN_r7, zN_r8, zN_r9, zN_r10, zN_r11, zN_r12, zN_w0, zP_c, zK_c, zT_c, zT_cL, zT_f0, zT_f1, zT_f2, zT_f3, zT_f4, zT_f5, zT_f6, zT_f7, zT_f8, zT_f9, zT_f10, zT_f11, zT_f12, zT_f13, zT_i1, zT_r0, zT_r1, zT_r2, zT_r3, zT_r4, zT_r5, zT_r6, zT_r7, zT_r8, zT_r9, zT_r10, zT_r11, zT_r12, zT_w0, dup_t, dup_o, va_up_self, va_up_ne, drow_t, drow_o, Option.bind_some, Bool.cond_decide, am_oI_some, am_oV_some, am_oI_ite, am_oV_ite, am_bind_ite, Int.toNat_natCast, Int.toNat_zero, Int.reduceToNat, ite_true, ite_false, not_true_eq_false, not_false_eq_true, decide_true, decide_false, decide_eq_true_eq, Bool.false_eq_true, Nat.add_zero, am_rok1_0, am_rok1_1, cond_true, cond_false, am_w_nat1, true_or, or_true, false_or, or_false, true_and, and_true, false_and, and_false, Int.reduceEq, Int.reduceNeg, Int.reduceLT, Int.reduceLE, or_self, and_self, if_pos, if_neg]
    · rw [am_cI]; simp (disch := omega) only [en_299, bk_299_0, bk_299_14, bk_299_40, mv_p0_0, f14, am_w_id, mv_c0, mv_f0_0, mv_f0_1, mv_f0_2, mv_f0_3, mv_f0_4, mv_f0_5, mv_f0_6, mv_f0_7, mv_f0_8, mv_f0_9, mv_f0_10, mv_f0_11, mv_f0_12, mv_f0_13, mv_f0_14, mv_f0_15, mv_f0_16, mv_f0_17, mv_f0_18, mv_f0_19, mv_f0_20, mv_f0_21, mv_f0_22, mv_f0_23, mv_f0_24, mv_f0_25, mv_f0_26, mv_f0_27, mv_f0_28, mv_f0_29, mv_f0_30, mv_r1, mv_r2, mv_r3, mv_r4, mv_r5, mv_r6, mv_r7, mv_r8, mv_r9, mv_r10, mv_r11, mv_r12, mv_r13, mv_r14, mv_l1, mv_l2, mv_l3, mv_l4, mv_l5, mv_l6, mv_l7, mv_l8, mv_l9, mv_l10, mv_l11, mv_l12, mv_l13, mv_l14, mr2, mr3, mr4, mr5, mr6, mr7, mr8, mr9, mr13, mr1_4, mr0_6, mr1_5, mr1_0, mr1_1, mr1_2, mr1_3, mr1_6, mr1_7, mw2, mw3, mw4, mw5, mw6, mw7, mw8, mw9, mw13, mw1_4, mw0_6, mw1_5, mw1_0, mw1_1, mw1_2, mw1_3, mw1_6, mw1_7, drow_o, drow_t, Option.bind_some, Bool.cond_decide, am_oI_some, am_oV_some, am_oI_ite, am_oV_ite, am_bind_ite, Int.toNat_natCast, Int.toNat_zero, Int.reduceToNat, ite_true, ite_false, not_true_eq_false, not_false_eq_true, decide_true, decide_false, decide_eq_true_eq, Bool.false_eq_true, Nat.add_zero, am_rok1_0, am_rok1_1, cond_true, cond_false, am_w_nat1, true_or, or_true, false_or, or_false, true_and, and_true, false_and, and_false, Int.reduceEq, Int.reduceNeg, Int.reduceLT, Int.reduceLE, or_self, and_self, if_pos, if_neg]
  · obtain ⟨Ad, iv, rl, mr, pk, f14, f30, bd, nd, ru, pk8⟩ := ctx2 mo wd
    rw [if_pos (by have := iv.pw.1; have := iv.1.2.1; omega)] at c0
    have c1 := zk_copy (x := x) (N := N) (P := P) (K := K) (T := T) (S := S) (m := m) (A := A) (h := h)
    have d1 := m_copy0 (m := mo) (a := 8) (b := 11) (M := dup M 0 0 0) (h := g) (by omega) (by omega) (by omega)
    have r8 : dup M 0 0 0 8 = M 8 := dup_o _ _ _ (by omega)
    rw [r8] at d1 pk8
    have d2 := mv_p0_22 (m := mo) (M := drow (dup M 0 0 0) 11 (M 8)) (h := g) 1
    have e419 : M 8 419 = N 1 4 := by rw [pk8 419 (by omega), pkr1_4, rl.2.1.1]
    have d3 := mv_r8 (m := mo) (M := dup (drow (dup M 0 0 0) 11 (M 8)) 0 22 1) (h := g) (j := 419) (by omega) (by omega)
    rw [dup_o _ _ _ (by omega), drow_o _ _ (by omega), r8, show (419 : Int).toNat = 419 from rfl, e419] at d3
    refine ⟨N 1 4, N, P, N, T, dup S 0 1 1, dup (drow (dup M 0 0 0) 11 (M 8)) 0 22 1, m, A, h, HD, ?_, ?_, ?_, hs, FR_refl lo m h⟩
    · rw [am_cI]; simp (disch := omega) only [en_298, bk_298_0, bk_298_9, c0, c1, zv_c0, zv_f0_0, zv_f0_1, zv_f0_2, zv_f0_3, zv_f0_4, zv_f0_5, zv_f0_6, zv_f0_7, zv_f0_8, zv_f0_9, zv_f0_10, zv_f0_11, zv_c1, zv_f1_0, zv_f1_1, zv_c3, zv_f3_0, zv_f3_1, zv_f3_2, zv_f3_3, zv_f3_4, zv_f3_5, zv_f3_6, zv_f3_7, zv_f3_8, zv_f3_9, zv_c7, zv_f7_0, zv_f7_1, zv_f7_2, zv_f7_3, zv_c67, zv_f67_0, zv_f67_1, zv_f67_2, zv_f67_3, zv_f67_4, zv_f67_5, zv_f67_6, zv_f67_7, zv_c86, zv_f86_0, zv_c87, zv_f87_0, zv_f87_1, zv_f87_2, zv_c89, zv_f89_0, zv_c91, zv_f91_0, zv_f91_1, zv_f91_2, zv_f91_3, zv_c95, zv_f95_0, zv_f95_1, zv_f95_2, zv_f95_3, zv_c99, zv_f99_0, zv_f99_1, zv_f99_2, zv_f99_3, zv_c103, zv_f103_0, zv_f103_1, zv_f103_2, zv_f103_3, zv_r1, zv_r2, zv_r3, zv_r4, zv_r5, zv_r6, zv_r7, zv_r8, zv_r9, zv_r10, zv_r11, zv_r12, zv_r13, zv_r14, zv_r15, zv_r16, zv_r17, zv_r18, zv_r19, zv_r20, zv_r21, zv_l1, zv_l2, zv_l3, zv_l4, zv_l5, zv_l6, zv_l7, zv_l8, zv_l9, zv_l10, zv_l11, zv_l12, zv_l13, zv_l14, zv_l15, zv_l16, zv_l17, zv_l18, zv_l19, zv_l20, zv_l21, zv_p0_3, zv_p0_7, zv_p1_1, zv_w1, zv_p3_3, zv_p3_7, zv_p3_8, zv_p3_9, zv_w2, zv_w3, zv_w4, zv_p7_3, zv_w5, zv_w6, zv_w7, zv_w8, zv_p67_3, zv_p67_4, zv_p67_5, zv_p67_6, zv_p67_7, zv_p86_0, zv_p87_1, zv_p87_2, zv_p89_0, zv_w9, zv_p91_3, zv_w10, zv_w11, zv_w12, zv_p95_3, zv_w13, zv_w14, zv_w15, zv_p99_3, zv_w16, zv_w17, zv_w18, zv_p103_3, zv_w19, zv_w20, zv_w21, zN_c, zN_cL, zN_f0, zN_f1, zN_f2, zN_f3, zN_f4, zN_f5, zN_f6, zN_f7, zN_f8, zN_f9, zN_f10, zN_f11, zN_f12, zN_f13, zN_i1, zN_r0, zN_r1, zN_r2, zN_r3, zN_r4, zN_r5, zN_r6, zN_r7, zN_r8, zN_r9, zN_r10, zN_r11, zN_r12, zN_w0, zP_c, zK_c, zT_c, zT_cL, zT_f0, zT_f1, zT_f2, zT_f3, zT_f4, zT_f5, zT_f6, zT_f7, zT_f8, zT_f9, zT_f10, zT_f11, zT_f12, zT_f13, zT_i1, zT_r0, zT_r1, zT_r2, zT_r3, zT_r4, zT_r5, zT_r6, zT_r7, zT_r8, zT_r9, zT_r10, zT_r11, zT_r12, zT_w0, dup_t, dup_o, va_up_self, va_up_ne, drow_t, drow_o, Option.bind_some, Bool.cond_decide, am_oI_some, am_oV_some, am_oI_ite, am_oV_ite, am_bind_ite, Int.toNat_natCast, Int.toNat_zero, Int.reduceToNat, ite_true, ite_false, not_true_eq_false, not_false_eq_true, decide_true, decide_false, decide_eq_true_eq, Bool.false_eq_true, Nat.add_zero, am_rok1_0, am_rok1_1, cond_true, cond_false, am_w_nat1, true_or, or_true, false_or, or_false, true_and, and_true, false_and, and_false, Int.reduceEq, Int.reduceNeg, Int.reduceLT, Int.reduceLE, or_self, and_self, if_pos, if_neg]
    · rw [am_cI]; simp (disch := omega) only [en_299, bk_299_0, bk_299_14, bk_299_40, mv_p0_0, mv_f0_14, mv_f0_15, mv_f0_18, f14, d1, d2, d3, Option.bind_some, Bool.cond_decide, am_oI_some, am_oV_some, am_oI_ite, am_oV_ite, am_bind_ite, Int.toNat_natCast, Int.toNat_zero, Int.reduceToNat, ite_true, ite_false, not_true_eq_false, not_false_eq_true, decide_true, decide_false, decide_eq_true_eq, Bool.false_eq_true, Nat.add_zero, am_rok1_0, am_rok1_1, cond_true, cond_false, am_w_nat1, true_or, or_true, false_or, or_false, true_and, and_true, false_and, and_false, Int.reduceEq, Int.reduceNeg, Int.reduceLT, Int.reduceLE, or_self, and_self, if_pos, if_neg]
    · obtain ⟨a, b, c, d, _⟩ := w
      have oM : ∀ r, r ≠ 0 → r ≠ 11 → dup (drow (dup M 0 0 0) 11 (M 8)) 0 22 1 r = M r := fun r r0 r1 => by rw [dup_o _ _ _ r0, drow_o _ _ r1, dup_o _ _ _ r0]
      have oM0 : ∀ j, j ≠ 0 → j ≠ 22 → dup (drow (dup M 0 0 0) 11 (M 8)) 0 22 1 0 j = M 0 j := fun j j0 j1 => by rw [dup_t, va_up_ne _ _ j1, drow_o _ _ (by omega), dup_t, va_up_ne _ _ j0]
      have oS : ∀ r, r ≠ 0 → dup S 0 1 1 r = S r := fun r hr => dup_o _ _ _ hr
      have oS0 : ∀ j, j ≠ 1 → dup S 0 1 1 0 j = S 0 j := fun j hj => by rw [dup_t, va_up_ne _ _ hj]
      have eh : ∀ i : Int, hslot (dup S 0 1 1) i = hslot S i := by intro i; unfold hslot; rw [oS0 14 (by omega)]
      have em : ∀ i, mslot (dup (drow (dup M 0 0 0) 11 (M 8)) 0 22 1) i = mslot M i := by intro i; unfold mslot; rw [oM0 20 (by omega) (by omega)]
      obtain ⟨w14, wru, wnow, wim, whis⟩ := wd
      refine ⟨?_, ?_, ?_, ?_, Or.inr ⟨Z, ?_⟩⟩
      · unfold WT at a ⊢
        rw [oS 1 (by omega), oS0 2 (by omega), oM 1 (by omega) (by omega), oM0 2 (by omega) (by omega)]
        exact a
      · unfold WS at b ⊢
        rw [oS0 0 (by omega), oM0 12 (by omega) (by omega), oM 5 (by omega) (by omega), oM 6 (by omega) (by omega)]
        refine ⟨b.1, fun s hs => ?_⟩
        rw [oS0 (17 + s) (by omega), oS (10 + 3 * s) (by omega), oS (11 + 3 * s) (by omega), oS (12 + 3 * s) (by omega)]
        exact b.2 s hs
      · intro j hj
        rw [oM 7 (by omega) (by omega), oS 9 (by omega)]
        exact c j hj
      · unfold WH at d ⊢
        rw [oS0 14 (by omega), oS0 15 (by omega), oM0 20 (by omega) (by omega), oM0 21 (by omega) (by omega), dup_t, dup_t, va_up_self, va_up_self]
        exact ⟨d.1, d.2.1, d.2.2.1, d.2.2.2.1, Or.inr rfl, rfl⟩
      · refine ⟨?_, ?_, ?_, ?_, ?_⟩
        · rw [oM0 14 (by omega) (by omega)]; exact w14
        · unfold RU at wru ⊢
          rw [oM 3 (by omega) (by omega), oM0 23 (by omega) (by omega), oM0 24 (by omega) (by omega), oM0 25 (by omega) (by omega)]
          exact wru
        · rw [oM 8 (by omega) (by omega)]; exact wnow
        · intro _
          have e11 : dup (drow (dup M 0 0 0) 11 (M 8)) 0 22 1 11 = M 8 := by rw [dup_o _ _ _ (by omega), drow_t]
          rw [e11]
          exact wnow
        · intro i hi
          rw [oS0 15 (by omega)] at hi
          rw [eh, em, oM 12 (by omega) (by omega)]
          exact whis i hi
theorem cl_back (w : WR n m N K S HD M) (hs : HS lo m A HD h) : CL 300 301 [] x mo lo n m A N P K T S M h g := by
  have d := w.2.2.2.1
  have f22 : dup M 0 0 0 0 22 = S 0 1 := by rw [dup_t, va_up_ne _ _ (by omega)]; exact d.2.2.2.2.2
  by_cases e : S 0 1 = 0
  · rw [e] at f22
    refine ⟨-1, N, P, K, T, S, dup M 0 0 0, m, A, h, HD, ?_, ?_, WR_MK w (MK_f M (by omega) 0), hs, FR_refl lo m h⟩
    · rw [am_cI]; simp (disch := omega) only [en_300, bk_300_0, bk_300_9, e, zv_c0, zv_f0_0, zv_f0_1, zv_f0_2, zv_f0_3, zv_f0_4, zv_f0_5, zv_f0_6, zv_f0_7, zv_f0_8, zv_f0_9, zv_f0_10, zv_f0_11, zv_c1, zv_f1_0, zv_f1_1, zv_c3, zv_f3_0, zv_f3_1, zv_f3_2, zv_f3_3, zv_f3_4, zv_f3_5, zv_f3_6, zv_f3_7, zv_f3_8, zv_f3_9, zv_c7, zv_f7_0, zv_f7_1, zv_f7_2, zv_f7_3, zv_c67, zv_f67_0, zv_f67_1, zv_f67_2, zv_f67_3, zv_f67_4, zv_f67_5, zv_f67_6, zv_f67_7, zv_c86, zv_f86_0, zv_c87, zv_f87_0, zv_f87_1, zv_f87_2, zv_c89, zv_f89_0, zv_c91, zv_f91_0, zv_f91_1, zv_f91_2, zv_f91_3, zv_c95, zv_f95_0, zv_f95_1, zv_f95_2, zv_f95_3, zv_c99, zv_f99_0, zv_f99_1, zv_f99_2, zv_f99_3, zv_c103, zv_f103_0, zv_f103_1, zv_f103_2, zv_f103_3, zv_r1, zv_r2, zv_r3, zv_r4, zv_r5, zv_r6, zv_r7, zv_r8, zv_r9, zv_r10, zv_r11, zv_r12, zv_r13, zv_r14, zv_r15, zv_r16, zv_r17, zv_r18, zv_r19, zv_r20, zv_r21, zv_l1, zv_l2, zv_l3, zv_l4, zv_l5, zv_l6, zv_l7, zv_l8, zv_l9, zv_l10, zv_l11, zv_l12, zv_l13, zv_l14, zv_l15, zv_l16, zv_l17, zv_l18, zv_l19, zv_l20, zv_l21, zv_p0_3, zv_p0_7, zv_p1_1, zv_w1, zv_p3_3, zv_p3_7, zv_p3_8, zv_p3_9, zv_w2, zv_w3, zv_w4, zv_p7_3, zv_w5, zv_w6, zv_w7, zv_w8, zv_p67_3, zv_p67_4, zv_p67_5, zv_p67_6, zv_p67_7, zv_p86_0, zv_p87_1, zv_p87_2, zv_p89_0, zv_w9, zv_p91_3, zv_w10, zv_w11, zv_w12, zv_p95_3, zv_w13, zv_w14, zv_w15, zv_p99_3, zv_w16, zv_w17, zv_w18, zv_p103_3, zv_w19, zv_w20, zv_w21, zN_c, zN_cL, zN_f0, zN_f1, zN_f2, zN_f3, zN_f4, zN_f5, zN_f6, zN_f7, zN_f8, zN_f9, zN_f10, zN_f11, zN_f12, zN_f13, zN_i1, zN_r0, zN_r1, zN_r2, zN_r3, zN_r4, zN_r5, zN_r6, zN_r7, zN_r8, zN_r9, zN_r10, zN_r11, zN_r12, zN_w0, zP_c, zK_c, zT_c, zT_cL, zT_f0, zT_f1, zT_f2, zT_f3, zT_f4, zT_f5, zT_f6, zT_f7, zT_f8, zT_f9, zT_f10, zT_f11, zT_f12, zT_f13, zT_i1, zT_r0, zT_r1, zT_r2, zT_r3, zT_r4, zT_r5, zT_r6, zT_r7, zT_r8, zT_r9, zT_r10, zT_r11, zT_r12, zT_w0, dup_t, dup_o, va_up_self, va_up_ne, drow_t, drow_o, Option.bind_some, Bool.cond_decide, am_oI_some, am_oV_some, am_oI_ite, am_oV_ite, am_bind_ite, Int.toNat_natCast, Int.toNat_zero, Int.reduceToNat, ite_true, ite_false, not_true_eq_false, not_false_eq_true, decide_true, decide_false, decide_eq_true_eq, Bool.false_eq_true, Nat.add_zero, am_rok1_0, am_rok1_1, cond_true, cond_false, am_w_nat1, true_or, or_true, false_or, or_false, true_and, and_true, false_and, and_false, Int.reduceEq, Int.reduceNeg, Int.reduceLT, Int.reduceLE, or_self, and_self, if_pos, if_neg]
    · rw [am_cI]; simp (disch := omega) only [en_301, bk_301_0, bk_301_14, bk_301_40, mv_p0_0, f22, am_w_id, mv_c0, mv_f0_0, mv_f0_1, mv_f0_2, mv_f0_3, mv_f0_4, mv_f0_5, mv_f0_6, mv_f0_7, mv_f0_8, mv_f0_9, mv_f0_10, mv_f0_11, mv_f0_12, mv_f0_13, mv_f0_14, mv_f0_15, mv_f0_16, mv_f0_17, mv_f0_18, mv_f0_19, mv_f0_20, mv_f0_21, mv_f0_22, mv_f0_23, mv_f0_24, mv_f0_25, mv_f0_26, mv_f0_27, mv_f0_28, mv_f0_29, mv_f0_30, mv_r1, mv_r2, mv_r3, mv_r4, mv_r5, mv_r6, mv_r7, mv_r8, mv_r9, mv_r10, mv_r11, mv_r12, mv_r13, mv_r14, mv_l1, mv_l2, mv_l3, mv_l4, mv_l5, mv_l6, mv_l7, mv_l8, mv_l9, mv_l10, mv_l11, mv_l12, mv_l13, mv_l14, mr2, mr3, mr4, mr5, mr6, mr7, mr8, mr9, mr13, mr1_4, mr0_6, mr1_5, mr1_0, mr1_1, mr1_2, mr1_3, mr1_6, mr1_7, mw2, mw3, mw4, mw5, mw6, mw7, mw8, mw9, mw13, mw1_4, mw0_6, mw1_5, mw1_0, mw1_1, mw1_2, mw1_3, mw1_6, mw1_7, drow_o, drow_t, Option.bind_some, Bool.cond_decide, am_oI_some, am_oV_some, am_oI_ite, am_oV_ite, am_bind_ite, Int.toNat_natCast, Int.toNat_zero, Int.reduceToNat, ite_true, ite_false, not_true_eq_false, not_false_eq_true, decide_true, decide_false, decide_eq_true_eq, Bool.false_eq_true, Nat.add_zero, am_rok1_0, am_rok1_1, cond_true, cond_false, am_w_nat1, true_or, or_true, false_or, or_false, true_and, and_true, false_and, and_false, Int.reduceEq, Int.reduceNeg, Int.reduceLT, Int.reduceLE, or_self, and_self, if_pos, if_neg]
  · have e1 : S 0 1 = 1 := by have := d.2.2.2.2.1; omega
    rcases w.2.2.2.2 with w0 | ⟨Z, wd⟩
    · exact absurd w0.2.2.2.1 e
    · obtain ⟨w14, wru, wnow, wim, whis⟩ := wd
      have wk := wim e1
      obtain ⟨Ak, ivk, rlk, pkk, ruk, bdk, ndk⟩ := wk
      have c1 := zn_copy (x := x) (N := N) (P := P) (K := K) (T := T) (S := S) (m := m) (A := A) (h := h)
      have c2 := h_forget (x := x) (N := K) (P := P) (K := K) (T := T) (S := S) (m := m) (A := A) (h := h)
      have d1 := m_copy0 (m := mo) (a := 11) (b := 8) (M := dup M 0 0 0) (h := g) (by omega) (by omega) (by omega)
      have r11 : dup M 0 0 0 11 = M 11 := dup_o _ _ _ (by omega)
      rw [r11] at d1
      have d2 := mv_p0_21 (m := mo) (M := drow (dup M 0 0 0) 8 (M 11)) (h := g) 0
      have e419 : M 11 419 = K 1 4 := by rw [pkk 419 (by omega), pkr1_4, rlk.2.1.1]
      have d3 := mv_r8 (m := mo) (M := dup (drow (dup M 0 0 0) 8 (M 11)) 0 21 0) (h := g) (j := 419) (by omega) (by omega)
      rw [dup_o _ _ _ (by omega), drow_t, show (419 : Int).toNat = 419 from rfl, e419] at d3
      refine ⟨K 1 4, K, P, K, T, dup (dup S 0 14 0) 0 15 0, dup (drow (dup M 0 0 0) 8 (M 11)) 0 21 0, m, A, h, HD, ?_, ?_, ?_, hs, FR_refl lo m h⟩
      · rw [am_cI]; simp (disch := omega) only [en_300, bk_300_0, bk_300_9, e1, c1, c2, zv_c0, zv_f0_0, zv_f0_1, zv_f0_2, zv_f0_3, zv_f0_4, zv_f0_5, zv_f0_6, zv_f0_7, zv_f0_8, zv_f0_9, zv_f0_10, zv_f0_11, zv_c1, zv_f1_0, zv_f1_1, zv_c3, zv_f3_0, zv_f3_1, zv_f3_2, zv_f3_3, zv_f3_4, zv_f3_5, zv_f3_6, zv_f3_7, zv_f3_8, zv_f3_9, zv_c7, zv_f7_0, zv_f7_1, zv_f7_2, zv_f7_3, zv_c67, zv_f67_0, zv_f67_1, zv_f67_2, zv_f67_3, zv_f67_4, zv_f67_5, zv_f67_6, zv_f67_7, zv_c86, zv_f86_0, zv_c87, zv_f87_0, zv_f87_1, zv_f87_2, zv_c89, zv_f89_0, zv_c91, zv_f91_0, zv_f91_1, zv_f91_2, zv_f91_3, zv_c95, zv_f95_0, zv_f95_1, zv_f95_2, zv_f95_3, zv_c99, zv_f99_0, zv_f99_1, zv_f99_2, zv_f99_3, zv_c103, zv_f103_0, zv_f103_1, zv_f103_2, zv_f103_3, zv_r1, zv_r2, zv_r3, zv_r4, zv_r5, zv_r6, zv_r7, zv_r8, zv_r9, zv_r10, zv_r11, zv_r12, zv_r13, zv_r14, zv_r15, zv_r16, zv_r17, zv_r18, zv_r19, zv_r20, zv_r21, zv_l1, zv_l2, zv_l3, zv_l4, zv_l5, zv_l6, zv_l7, zv_l8, zv_l9, zv_l10, zv_l11, zv_l12, zv_l13, zv_l14, zv_l15, zv_l16, zv_l17, zv_l18, zv_l19, zv_l20, zv_l21, zv_p0_3, zv_p0_7, zv_p1_1, zv_w1, zv_p3_3, zv_p3_7, zv_p3_8, zv_p3_9, zv_w2, zv_w3, zv_w4, zv_p7_3, zv_w5, zv_w6, zv_w7, zv_w8, zv_p67_3, zv_p67_4, zv_p67_5, zv_p67_6, zv_p67_7, zv_p86_0, zv_p87_1, zv_p87_2, zv_p89_0, zv_w9, zv_p91_3, zv_w10, zv_w11, zv_w12, zv_p95_3, zv_w13, zv_w14, zv_w15, zv_p99_3, zv_w16, zv_w17, zv_w18, zv_p103_3, zv_w19, zv_w20, zv_w21, zN_c, zN_cL, zN_f0, zN_f1, zN_f2, zN_f3, zN_f4, zN_f5, zN_f6, zN_f7, zN_f8, zN_f9, zN_f10, zN_f11, zN_f12, zN_f13, zN_i1, zN_r0, zN_r1, zN_r2, zN_r3, zN_r4, zN_r5, zN_r6, zN_r7, zN_r8, zN_r9, zN_r10, zN_r11, zN_r12, zN_w0, zP_c, zK_c, zT_c, zT_cL, zT_f0, zT_f1, zT_f2, zT_f3, zT_f4, zT_f5, zT_f6, zT_f7, zT_f8, zT_f9, zT_f10, zT_f11, zT_f12, zT_f13, zT_i1, zT_r0, zT_r1, zT_r2, zT_r3, zT_r4, zT_r5, zT_r6, zT_r7, zT_r8, zT_r9, zT_r10, zT_r11, zT_r12, zT_w0, dup_t, dup_o, va_up_self, va_up_ne, drow_t, drow_o, Option.bind_some, Bool.cond_decide, am_oI_some, am_oV_some, am_oI_ite, am_oV_ite, am_bind_ite, Int.toNat_natCast, Int.toNat_zero, Int.reduceToNat, ite_true, ite_false, not_true_eq_false, not_false_eq_true, decide_true, decide_false, decide_eq_true_eq, Bool.false_eq_true, Nat.add_zero, am_rok1_0, am_rok1_1, cond_true, cond_false, am_w_nat1, true_or, or_true, false_or, or_false, true_and, and_true, false_and, and_false, Int.reduceEq, Int.reduceNeg, Int.reduceLT, Int.reduceLE, or_self, and_self, if_pos, if_neg]
      · rw [e1] at f22
        rw [am_cI]; simp (disch := omega) only [en_301, bk_301_0, bk_301_14, bk_301_40, mv_p0_0, mv_f0_22, mv_f0_15, mv_f0_18, f22, d1, d2, d3, Option.bind_some, Bool.cond_decide, am_oI_some, am_oV_some, am_oI_ite, am_oV_ite, am_bind_ite, Int.toNat_natCast, Int.toNat_zero, Int.reduceToNat, ite_true, ite_false, not_true_eq_false, not_false_eq_true, decide_true, decide_false, decide_eq_true_eq, Bool.false_eq_true, Nat.add_zero, am_rok1_0, am_rok1_1, cond_true, cond_false, am_w_nat1, true_or, or_true, false_or, or_false, true_and, and_true, false_and, and_false, Int.reduceEq, Int.reduceNeg, Int.reduceLT, Int.reduceLE, or_self, and_self, if_pos, if_neg]
      · obtain ⟨a, b, c, d, _⟩ := w
        have oM : ∀ r, r ≠ 0 → r ≠ 8 → dup (drow (dup M 0 0 0) 8 (M 11)) 0 21 0 r = M r := fun r r0 r1 => by rw [dup_o _ _ _ r0, drow_o _ _ r1, dup_o _ _ _ r0]
        have oM0 : ∀ j, j ≠ 0 → j ≠ 21 → dup (drow (dup M 0 0 0) 8 (M 11)) 0 21 0 0 j = M 0 j := fun j j0 j1 => by rw [dup_t, va_up_ne _ _ j1, drow_o _ _ (by omega), dup_t, va_up_ne _ _ j0]
        have oS : ∀ r, r ≠ 0 → dup (dup S 0 14 0) 0 15 0 r = S r := fun r hr => by rw [dup_o _ _ _ hr, dup_o _ _ _ hr]
        have oS0 : ∀ j, j ≠ 14 → j ≠ 15 → dup (dup S 0 14 0) 0 15 0 0 j = S 0 j := fun j h1 h2 => by rw [dup_t, va_up_ne _ _ h2, dup_t, va_up_ne _ _ h1]
        have e15 : dup (dup S 0 14 0) 0 15 0 0 15 = 0 := by rw [dup_t, va_up_self]
        have e14 : dup (dup S 0 14 0) 0 15 0 0 14 = 0 := by rw [dup_t, va_up_ne _ _ (by omega), dup_t, va_up_self]
        have e21 : dup (drow (dup M 0 0 0) 8 (M 11)) 0 21 0 0 21 = 0 := by rw [dup_t, va_up_self]
        refine ⟨?_, ?_, ?_, ?_, Or.inr ⟨Z, ?_⟩⟩
        · unfold WT at a ⊢
          rw [oS 1 (by omega), oS0 2 (by omega) (by omega), oM 1 (by omega) (by omega), oM0 2 (by omega) (by omega)]
          exact a
        · unfold WS at b ⊢
          rw [oS0 0 (by omega) (by omega), oM0 12 (by omega) (by omega), oM 5 (by omega) (by omega), oM 6 (by omega) (by omega)]
          refine ⟨b.1, fun s hs => ?_⟩
          rw [oS0 (17 + s) (by omega) (by omega), oS (10 + 3 * s) (by omega), oS (11 + 3 * s) (by omega), oS (12 + 3 * s) (by omega)]
          exact b.2 s hs
        · intro j hj
          rw [oM 7 (by omega) (by omega), oS 9 (by omega)]
          exact c j hj
        · unfold WH at d ⊢
          rw [e14, e15, e21, oM0 20 (by omega) (by omega), oM0 22 (by omega) (by omega), oS0 1 (by omega) (by omega)]
          refine ⟨by omega, ⟨by omega, by omega, rfl⟩, d.2.2.1, ?_, d.2.2.2.2⟩
          exact Or.inr ⟨rfl, by omega⟩
        · refine ⟨?_, ?_, ?_, ?_, ?_⟩
          · rw [oM0 14 (by omega) (by omega)]; exact w14
          · unfold RU at wru ⊢
            rw [oM 3 (by omega) (by omega), oM0 23 (by omega) (by omega), oM0 24 (by omega) (by omega), oM0 25 (by omega) (by omega), ruk 2 (by omega), ruk 3 (by omega), ruk 4 (by omega)]
            exact ⟨fun j hj => (wru.1 j hj).trans (ruk j hj).symm, wru.2⟩
          · have e8 : dup (drow (dup M 0 0 0) 8 (M 11)) 0 21 0 8 = M 11 := by rw [dup_o _ _ _ (by omega), drow_t]
            rw [e8]
            exact ⟨Ak, ivk, rlk, pkk, fun j _ => rfl, bdk, ndk⟩
          · rw [oS0 1 (by omega) (by omega), oM 11 (by omega) (by omega)]
            exact fun q => ⟨Ak, ivk, rlk, pkk, fun j _ => rfl, bdk, ndk⟩
          · intro i hi
            rw [e15] at hi
            omega
theorem cl_undo (hlo : x + 107 ≤ lo) (w : WR n m N K S HD M) (hs : HS lo m A HD h) : CL 210 211 [] x mo lo n m A N P K T S M h g := by
  have d := w.2.2.2.1
  have f21 : dup M 0 0 0 0 21 = S 0 15 := by rw [dup_t, va_up_ne _ _ (by omega)]; exact d.2.1.2.2
  have f20 : dup M 0 0 0 0 20 = M 0 20 := by rw [dup_t, va_up_ne _ _ (by omega)]
  by_cases e : S 0 15 = 0
  · rw [e] at f21
    refine ⟨-1, N, P, K, T, S, dup M 0 0 0, m, A, h, HD, ?_, ?_, WR_MK w (MK_f M (by omega) 0), hs, FR_refl lo m h⟩
    · rw [am_cI]; simp (disch := omega) only [en_210, bk_210_0, bk_210_12, e, zv_c0, zv_f0_0, zv_f0_1, zv_f0_2, zv_f0_3, zv_f0_4, zv_f0_5, zv_f0_6, zv_f0_7, zv_f0_8, zv_f0_9, zv_f0_10, zv_f0_11, zv_c1, zv_f1_0, zv_f1_1, zv_c3, zv_f3_0, zv_f3_1, zv_f3_2, zv_f3_3, zv_f3_4, zv_f3_5, zv_f3_6, zv_f3_7, zv_f3_8, zv_f3_9, zv_c7, zv_f7_0, zv_f7_1, zv_f7_2, zv_f7_3, zv_c67, zv_f67_0, zv_f67_1, zv_f67_2, zv_f67_3, zv_f67_4, zv_f67_5, zv_f67_6, zv_f67_7, zv_c86, zv_f86_0, zv_c87, zv_f87_0, zv_f87_1, zv_f87_2, zv_c89, zv_f89_0, zv_c91, zv_f91_0, zv_f91_1, zv_f91_2, zv_f91_3, zv_c95, zv_f95_0, zv_f95_1, zv_f95_2, zv_f95_3, zv_c99, zv_f99_0, zv_f99_1, zv_f99_2, zv_f99_3, zv_c103, zv_f103_0, zv_f103_1, zv_f103_2, zv_f103_3, zv_r1, zv_r2, zv_r3, zv_r4, zv_r5, zv_r6, zv_r7, zv_r8, zv_r9, zv_r10, zv_r11, zv_r12, zv_r13, zv_r14, zv_r15, zv_r16, zv_r17, zv_r18, zv_r19, zv_r20, zv_r21, zv_l1, zv_l2, zv_l3, zv_l4, zv_l5, zv_l6, zv_l7, zv_l8, zv_l9, zv_l10, zv_l11, zv_l12, zv_l13, zv_l14, zv_l15, zv_l16, zv_l17, zv_l18, zv_l19, zv_l20, zv_l21, zv_p0_3, zv_p0_7, zv_p1_1, zv_w1, zv_p3_3, zv_p3_7, zv_p3_8, zv_p3_9, zv_w2, zv_w3, zv_w4, zv_p7_3, zv_w5, zv_w6, zv_w7, zv_w8, zv_p67_3, zv_p67_4, zv_p67_5, zv_p67_6, zv_p67_7, zv_p86_0, zv_p87_1, zv_p87_2, zv_p89_0, zv_w9, zv_p91_3, zv_w10, zv_w11, zv_w12, zv_p95_3, zv_w13, zv_w14, zv_w15, zv_p99_3, zv_w16, zv_w17, zv_w18, zv_p103_3, zv_w19, zv_w20, zv_w21, zN_c, zN_cL, zN_f0, zN_f1, zN_f2, zN_f3, zN_f4, zN_f5, zN_f6, zN_f7, zN_f8, zN_f9, zN_f10, zN_f11, zN_f12, zN_f13, zN_i1, zN_r0, zN_r1, zN_r2, zN_r3, zN_r4, zN_r5, zN_r6, zN_r7, zN_r8, zN_r9, zN_r10, zN_r11, zN_r12, zN_w0, zP_c, zK_c, zT_c, zT_cL, zT_f0, zT_f1, zT_f2, zT_f3, zT_f4, zT_f5, zT_f6, zT_f7, zT_f8, zT_f9, zT_f10, zT_f11, zT_f12, zT_f13, zT_i1, zT_r0, zT_r1, zT_r2, zT_r3, zT_r4, zT_r5, zT_r6, zT_r7, zT_r8, zT_r9, zT_r10, zT_r11, zT_r12, zT_w0, dup_t, dup_o, va_up_self, va_up_ne, drow_t, drow_o, Option.bind_some, Bool.cond_decide, am_oI_some, am_oV_some, am_oI_ite, am_oV_ite, am_bind_ite, Int.toNat_natCast, Int.toNat_zero, Int.reduceToNat, ite_true, ite_false, not_true_eq_false, not_false_eq_true, decide_true, decide_false, decide_eq_true_eq, Bool.false_eq_true, Nat.add_zero, am_rok1_0, am_rok1_1, cond_true, cond_false, am_w_nat1, true_or, or_true, false_or, or_false, true_and, and_true, false_and, and_false, Int.reduceEq, Int.reduceNeg, Int.reduceLT, Int.reduceLE, or_self, and_self, if_pos, if_neg]
    · rw [am_cI]; simp (disch := omega) only [en_211, bk_211_0, bk_211_14, bk_211_40, mv_p0_0, f21, am_w_id, mv_c0, mv_f0_0, mv_f0_1, mv_f0_2, mv_f0_3, mv_f0_4, mv_f0_5, mv_f0_6, mv_f0_7, mv_f0_8, mv_f0_9, mv_f0_10, mv_f0_11, mv_f0_12, mv_f0_13, mv_f0_14, mv_f0_15, mv_f0_16, mv_f0_17, mv_f0_18, mv_f0_19, mv_f0_20, mv_f0_21, mv_f0_22, mv_f0_23, mv_f0_24, mv_f0_25, mv_f0_26, mv_f0_27, mv_f0_28, mv_f0_29, mv_f0_30, mv_r1, mv_r2, mv_r3, mv_r4, mv_r5, mv_r6, mv_r7, mv_r8, mv_r9, mv_r10, mv_r11, mv_r12, mv_r13, mv_r14, mv_l1, mv_l2, mv_l3, mv_l4, mv_l5, mv_l6, mv_l7, mv_l8, mv_l9, mv_l10, mv_l11, mv_l12, mv_l13, mv_l14, mr2, mr3, mr4, mr5, mr6, mr7, mr8, mr9, mr13, mr1_4, mr0_6, mr1_5, mr1_0, mr1_1, mr1_2, mr1_3, mr1_6, mr1_7, mw2, mw3, mw4, mw5, mw6, mw7, mw8, mw9, mw13, mw1_4, mw0_6, mw1_5, mw1_0, mw1_1, mw1_2, mw1_3, mw1_6, mw1_7, drow_o, drow_t, Option.bind_some, Bool.cond_decide, am_oI_some, am_oV_some, am_oI_ite, am_oV_ite, am_bind_ite, Int.toNat_natCast, Int.toNat_zero, Int.reduceToNat, ite_true, ite_false, not_true_eq_false, not_false_eq_true, decide_true, decide_false, decide_eq_true_eq, Bool.false_eq_true, Nat.add_zero, am_rok1_0, am_rok1_1, cond_true, cond_false, am_w_nat1, true_or, or_true, false_or, or_false, true_and, and_true, false_and, and_false, Int.reduceEq, Int.reduceNeg, Int.reduceLT, Int.reduceLE, or_self, and_self, if_pos, if_neg]
  · rcases w.2.2.2.2 with w0 | ⟨Z, wd⟩
    · exact absurd w0.2.2.2.2 e
    · obtain ⟨w14, wru, wnow, wim, whis⟩ := wd
      have h15 := d.2.1
      have h20 := d.2.2.1
      obtain ⟨a1, ha1⟩ : ∃ a1 : Nat, S 0 15 - 1 = a1 := ⟨(S 0 15 - 1).toNat, by omega⟩
      have wk := whis a1 (by omega)
      have hsl : hslot S (S 0 15 - 1) < m := by
        rcases d.2.2.2.1 with q | q
        · have := d.1
          unfold hslot
          omega
        · unfold hslot
          rw [q.1]
          omega
      have c1 := h_takeBack (x := x) (N := N) (P := P) (K := K) (T := T) hlo hs d.1 ⟨by omega, h15.2.1⟩ hsl
      rw [ha1] at c1
      have hms : mslot M a1 < 40 := by unfold mslot; omega
      have ew : am_w (S 0 15 - 1) = S 0 15 - 1 := am_w_id (by omega) (by omega)
      have e1 : am_w (M 0 20 + (a1 : Int)) = M 0 20 + (a1 : Int) := am_w_id (by omega) (by omega)
      have e2 : am_rem (M 0 20 + (a1 : Int)) 40 = (mslot M a1 : Int) := by
        rw [am_rem_of ⟨by omega, by omega⟩ ⟨by omega, by omega⟩ (by omega) (by omega)]
        unfold mslot
        omega
      have e3 : am_w (609 * (mslot M a1 : Int)) = ((609 * mslot M a1 : Nat) : Int) := by rw [am_w_id (by omega) (by omega)]; omega
      have cp := m_copyRow (m := mo) (a := 12) (b := 8) (f := 609 * mslot M a1) (t := 0) (M := dup (dup M 0 0 0) 0 21 (a1 : Int)) (h := g) (by omega) (by omega) (by omega) (fun M' j hj => by
        have := mv_r12 (m := mo) (M := M') (h := g) (j := ((609 * mslot M a1 + j : Nat) : Int)) (by omega) (by omega)
        rw [this, Int.toNat_natCast]) (fun M' j y hj => by
        have := mvc_wr (m := mo) (M := M') (h := g) (c := 8) (by omega) (j := ((0 + j : Nat) : Int)) y (by omega) (by omega)
        rw [this, Int.toNat_natCast])
      have o8 : dup (dup M 0 0 0) 0 21 (a1 : Int) 8 = M 8 := by rw [dup_o _ _ _ (by omega), dup_o _ _ _ (by omega)]
      have o12 : dup (dup M 0 0 0) 0 21 (a1 : Int) 12 = M 12 := by rw [dup_o _ _ _ (by omega), dup_o _ _ _ (by omega)]
      rw [o8, o12] at cp
      have cp' : am_cV 108 [am_R (mo + 12), am_I ((609 * mslot M a1 : Nat) : Int), am_R (mo + 8), am_I 0] (mv mo (dup (dup M 0 0 0) 0 21 (a1 : Int)) g) = some (mv mo (drow (dup (dup M 0 0 0) 0 21 (a1 : Int)) 8 (cpr (M 8) (M 12) (609 * mslot M a1) 0 609)) g) := cp
      have g20 : dup (dup M 0 0 0) 0 21 (a1 : Int) 0 20 = M 0 20 := by rw [dup_t, va_up_ne _ _ (by omega), f20]
      have g21 : dup (dup M 0 0 0) 0 21 (a1 : Int) 0 21 = (a1 : Int) := by rw [dup_t, va_up_self]
      refine ⟨a1, HD (hslot S (a1 : Int)), P, K, T, dup S 0 15 (a1 : Int), drow (dup (dup M 0 0 0) 0 21 (a1 : Int)) 8 (cpr (M 8) (M 12) (609 * mslot M a1) 0 609), m, A, h, HD, ?_, ?_, ?_, hs, FR_refl lo m h⟩
      · clear cp cp' e1 e2 e3
        rw [am_cI]; simp (disch := omega) only [en_210, bk_210_0, bk_210_12, e, c1, zv_c0, zv_f0_0, zv_f0_1, zv_f0_2, zv_f0_3, zv_f0_4, zv_f0_5, zv_f0_6, zv_f0_7, zv_f0_8, zv_f0_9, zv_f0_10, zv_f0_11, zv_c1, zv_f1_0, zv_f1_1, zv_c3, zv_f3_0, zv_f3_1, zv_f3_2, zv_f3_3, zv_f3_4, zv_f3_5, zv_f3_6, zv_f3_7, zv_f3_8, zv_f3_9, zv_c7, zv_f7_0, zv_f7_1, zv_f7_2, zv_f7_3, zv_c67, zv_f67_0, zv_f67_1, zv_f67_2, zv_f67_3, zv_f67_4, zv_f67_5, zv_f67_6, zv_f67_7, zv_c86, zv_f86_0, zv_c87, zv_f87_0, zv_f87_1, zv_f87_2, zv_c89, zv_f89_0, zv_c91, zv_f91_0, zv_f91_1, zv_f91_2, zv_f91_3, zv_c95, zv_f95_0, zv_f95_1, zv_f95_2, zv_f95_3, zv_c99, zv_f99_0, zv_f99_1, zv_f99_2, zv_f99_3, zv_c103, zv_f103_0, zv_f103_1, zv_f103_2, zv_f103_3, zv_r1, zv_r2, zv_r3, zv_r4, zv_r5, zv_r6, zv_r7, zv_r8, zv_r9, zv_r10, zv_r11, zv_r12, zv_r13, zv_r14, zv_r15, zv_r16, zv_r17, zv_r18, zv_r19, zv_r20, zv_r21, zv_l1, zv_l2, zv_l3, zv_l4, zv_l5, zv_l6, zv_l7, zv_l8, zv_l9, zv_l10, zv_l11, zv_l12, zv_l13, zv_l14, zv_l15, zv_l16, zv_l17, zv_l18, zv_l19, zv_l20, zv_l21, zv_p0_3, zv_p0_7, zv_p1_1, zv_w1, zv_p3_3, zv_p3_7, zv_p3_8, zv_p3_9, zv_w2, zv_w3, zv_w4, zv_p7_3, zv_w5, zv_w6, zv_w7, zv_w8, zv_p67_3, zv_p67_4, zv_p67_5, zv_p67_6, zv_p67_7, zv_p86_0, zv_p87_1, zv_p87_2, zv_p89_0, zv_w9, zv_p91_3, zv_w10, zv_w11, zv_w12, zv_p95_3, zv_w13, zv_w14, zv_w15, zv_p99_3, zv_w16, zv_w17, zv_w18, zv_p103_3, zv_w19, zv_w20, zv_w21, zN_c, zN_cL, zN_f0, zN_f1, zN_f2, zN_f3, zN_f4, zN_f5, zN_f6, zN_f7, zN_f8, zN_f9, zN_f10, zN_f11, zN_f12, zN_f13, zN_i1, zN_r0, zN_r1, zN_r2, zN_r3, zN_r4, zN_r5, zN_r6, zN_r7, zN_r8, zN_r9, zN_r10, zN_r11, zN_r12, zN_w0, zP_c, zK_c, zT_c, zT_cL, zT_f0, zT_f1, zT_f2, zT_f3, zT_f4, zT_f5, zT_f6, zT_f7, zT_f8, zT_f9, zT_f10, zT_f11, zT_f12, zT_f13, zT_i1, zT_r0, zT_r1, zT_r2, zT_r3, zT_r4, zT_r5, zT_r6, zT_r7, zT_r8, zT_r9, zT_r10, zT_r11, zT_r12, zT_w0, dup_t, dup_o, va_up_self, va_up_ne, drow_t, drow_o, Option.bind_some, Bool.cond_decide, am_oI_some, am_oV_some, am_oI_ite, am_oV_ite, am_bind_ite, Int.toNat_natCast, Int.toNat_zero, Int.reduceToNat, ite_true, ite_false, not_true_eq_false, not_false_eq_true, decide_true, decide_false, decide_eq_true_eq, Bool.false_eq_true, Nat.add_zero, am_rok1_0, am_rok1_1, cond_true, cond_false, am_w_nat1, true_or, or_true, false_or, or_false, true_and, and_true, false_and, and_false, Int.reduceEq, Int.reduceNeg, Int.reduceLT, Int.reduceLE, or_self, and_self, if_pos, if_neg]
      · have ea : S 0 15 - 1 = (a1 : Int) := ha1
        rw [ea] at ew
        clear cp c1 ha1
        rw [am_cI]; simp (disch := omega) only [en_211, bk_211_0, bk_211_14, bk_211_40, mv_p0_0, mv_p0_21, mv_f0_21, mv_f0_20, mv_f0_19, mv_f0_15, f21, ea, ew, g20, g21, e1, e2, e3, cp', drow_o, Option.bind_some, Bool.cond_decide, am_oI_some, am_oV_some, am_oI_ite, am_oV_ite, am_bind_ite, Int.toNat_natCast, Int.toNat_zero, Int.reduceToNat, ite_true, ite_false, not_true_eq_false, not_false_eq_true, decide_true, decide_false, decide_eq_true_eq, Bool.false_eq_true, Nat.add_zero, am_rok1_0, am_rok1_1, cond_true, cond_false, am_w_nat1, true_or, or_true, false_or, or_false, true_and, and_true, false_and, and_false, Int.reduceEq, Int.reduceNeg, Int.reduceLT, Int.reduceLE, or_self, and_self, if_pos, if_neg]
      · obtain ⟨a, b, c, d, _⟩ := w
        obtain ⟨Ak, ivk, rlk, pkk, ruk, bdk, ndk⟩ := wk
        have oM : ∀ r, r ≠ 0 → r ≠ 8 → drow (dup (dup M 0 0 0) 0 21 (a1 : Int)) 8 (cpr (M 8) (M 12) (609 * mslot M a1) 0 609) r = M r := fun r r0 r1 => by rw [drow_o _ _ r1, dup_o _ _ _ r0, dup_o _ _ _ r0]
        have oM0 : ∀ j, j ≠ 0 → j ≠ 21 → drow (dup (dup M 0 0 0) 0 21 (a1 : Int)) 8 (cpr (M 8) (M 12) (609 * mslot M a1) 0 609) 0 j = M 0 j := fun j j0 j1 => by rw [drow_o _ _ (by omega), dup_t, va_up_ne _ _ j1, dup_t, va_up_ne _ _ j0]
        have eM21 : drow (dup (dup M 0 0 0) 0 21 (a1 : Int)) 8 (cpr (M 8) (M 12) (609 * mslot M a1) 0 609) 0 21 = (a1 : Int) := by rw [drow_o _ _ (by omega), g21]
        have oS : ∀ r, r ≠ 0 → dup S 0 15 (a1 : Int) r = S r := fun r hr => dup_o _ _ _ hr
        have oS0 : ∀ j, j ≠ 15 → dup S 0 15 (a1 : Int) 0 j = S 0 j := fun j hj => by rw [dup_t, va_up_ne _ _ hj]
        have e15 : dup S 0 15 (a1 : Int) 0 15 = (a1 : Int) := by rw [dup_t, va_up_self]
        have eh : ∀ i : Int, hslot (dup S 0 15 (a1 : Int)) i = hslot S i := by intro i; unfold hslot; rw [oS0 14 (by omega)]
        have em : ∀ i, mslot (drow (dup (dup M 0 0 0) 0 21 (a1 : Int)) 8 (cpr (M 8) (M 12) (609 * mslot M a1) 0 609)) i = mslot M i := by intro i; show ((drow (dup (dup M 0 0 0) 0 21 (a1 : Int)) 8 (cpr (M 8) (M 12) (609 * mslot M a1) 0 609) 0 20 + (i : Int)) % 40).toNat = ((M 0 20 + (i : Int)) % 40).toNat; rw [oM0 20 (by omega) (by omega)]
        refine ⟨?_, ?_, ?_, ?_, Or.inr ⟨Z, ?_⟩⟩
        · unfold WT at a ⊢
          rw [oS 1 (by omega), oS0 2 (by omega), oM 1 (by omega) (by omega), oM0 2 (by omega) (by omega)]
          exact a
        · unfold WS at b ⊢
          rw [oS0 0 (by omega), oM0 12 (by omega) (by omega), oM 5 (by omega) (by omega), oM 6 (by omega) (by omega)]
          refine ⟨b.1, fun s hs => ?_⟩
          rw [oS0 (17 + s) (by omega), oS (10 + 3 * s) (by omega), oS (11 + 3 * s) (by omega), oS (12 + 3 * s) (by omega)]
          exact b.2 s hs
        · intro j hj
          rw [oM 7 (by omega) (by omega), oS 9 (by omega)]
          exact c j hj
        · unfold WH at d ⊢
          rw [oS0 14 (by omega), e15, eM21, oM0 20 (by omega) (by omega), oM0 22 (by omega) (by omega), oS0 1 (by omega)]
          refine ⟨d.1, ⟨by omega, by omega, rfl⟩, d.2.2.1, ?_, d.2.2.2.2⟩
          rcases d.2.2.2.1 with q | q
          · exact Or.inl q
          · exact Or.inr ⟨q.1, by omega⟩
        · refine ⟨?_, ?_, ?_, ?_, ?_⟩
          · rw [oM0 14 (by omega) (by omega)]; exact w14
          · unfold RU at wru ⊢
            rw [oM 3 (by omega) (by omega), oM0 23 (by omega) (by omega), oM0 24 (by omega) (by omega), oM0 25 (by omega) (by omega), ruk 2 (by omega), ruk 3 (by omega), ruk 4 (by omega)]
            exact ⟨fun j hj => (wru.1 j hj).trans (ruk j hj).symm, wru.2⟩
          · refine ⟨Ak, ivk, rlk, fun j hj => ?_, fun j _ => rfl, bdk, ndk⟩
            rw [drow_t]
            unfold cpr
            rw [if_pos (by omega), ← pkk j hj, Nat.sub_zero]
          · rw [oS0 1 (by omega), oM 11 (by omega) (by omega)]
            exact fun q => DK_mono (wim q) (Nat.le_refl n) (fun j hj => ruk j hj) (fun _ _ => rfl)
          · intro i hi
            rw [e15] at hi
            rw [eh, em, oM 12 (by omega) (by omega)]
            exact DK_mono (whis i (by omega)) (Nat.le_refl n) (fun j hj => ruk j hj) (fun _ _ => rfl)
end UNDO
