/-! ===== gone (2) ===== -/
section GONE2
variable {x mo n m Z : Nat} {A : Nat → Nat} {N P K T S : Nat → Nat → Int} {HD : Nat → Nat → Nat → Int} {M Ad : Nat → Nat → Int} {h g : am_H}
theorem gn_in (iv : IV N Z 3) (rl : RL N Ad true (fun _ => 0) 0 8) (mr : MR M Ad) (pk : ∀ g, mv mo M g = mv mo (drow M 8 (pack Ad)) g) (k v : Int) : ∃ p : Int, am_run am_ms 277 35 [am_R mo, am_I k, am_I v, am_I 0, am_I 0] [] (mv mo M g) = am_run am_ms 277 18 [am_R mo, am_I (am_w (k + if gv N 128 v = true then 0 else 1)), am_I (am_w (v + 1)), am_I (if gv N 128 v = true then 1 else 0), am_I p] [] (mv mo M g) := by
  have step : ∀ p : Nat, p < 128 → gq N v p = false → am_run am_ms 277 35 [am_R mo, am_I k, am_I v, am_I 0, am_I p] [] (mv mo M g) = am_run am_ms 277 35 [am_R mo, am_I k, am_I v, am_I 0, am_I ((p + 1 : Nat) : Int)] [] (mv mo M g) := by
    intro p hp hq
    have c1 := m_isThere (mo := mo) (g := g) (c := 8) (by omega) mr (rl_AW iv rl) hp
    rw [← pk, rl_has rl] at c1
    rw [bk_277_35]
    cases e : cd_has N p with
    | false =>
      rw [e] at c1
      simp (disch := omega) only [bk_277_79, bk_277_80, mv_f0_15, mv_c0, c1, Option.bind_some, Bool.cond_decide, am_oI_some, am_oV_some, am_oI_ite, am_oV_ite, am_bind_ite, Int.toNat_natCast, Int.toNat_zero, Int.reduceToNat, ite_true, ite_false, not_true_eq_false, not_false_eq_true, decide_true, decide_false, decide_eq_true_eq, Bool.false_eq_true, Nat.add_zero, am_rok1_0, am_rok1_1, cond_true, cond_false, am_w_nat1, true_or, or_true, false_or, or_false, true_and, and_true, false_and, and_false, Int.reduceEq, Int.reduceNeg, Int.reduceLT, Int.reduceLE, or_self, and_self, if_pos, if_neg]
    | true =>
      rw [e] at c1
      have r9 := mr9 (m := mo) (M := M) (A := Ad) (h := g) (c := 8) (by omega) (z := p) hp
      rw [← pk, (rl.2.2.2.1 p hp e).2.2] at r9
      have hne : ¬ N 9 p = v := by
        unfold gq at hq
        rw [e, Bool.true_and] at hq
        exact of_decide_eq_false hq
      simp (disch := omega) only [bk_277_67, bk_277_79, bk_277_80, mv_f0_15, mv_c0, c1, nte288, r9, hne, Option.bind_some, Bool.cond_decide, am_oI_some, am_oV_some, am_oI_ite, am_oV_ite, am_bind_ite, Int.toNat_natCast, Int.toNat_zero, Int.reduceToNat, ite_true, ite_false, not_true_eq_false, not_false_eq_true, decide_true, decide_false, decide_eq_true_eq, Bool.false_eq_true, Nat.add_zero, am_rok1_0, am_rok1_1, cond_true, cond_false, am_w_nat1, true_or, or_true, false_or, or_false, true_and, and_true, false_and, and_false, Int.reduceEq, Int.reduceNeg, Int.reduceLT, Int.reduceLE, or_self, and_self, if_pos, if_neg]
  rcases first_or (gq N v) 128 with hno | ⟨j, j1, j2, j3⟩
  · have eg : gv N 128 v = false := decide_eq_false (by rw [cnt_zero hno]; omega)
    have key := loop_to (fun p : Nat => am_run am_ms 277 35 [am_R mo, am_I k, am_I v, am_I 0, am_I p] [] (mv mo M g)) 128 (fun p hp => step p hp (hno p hp))
    have key' : am_run am_ms 277 35 [am_R mo, am_I k, am_I v, am_I 0, am_I 0] [] (mv mo M g) = am_run am_ms 277 35 [am_R mo, am_I k, am_I v, am_I 0, am_I 128] [] (mv mo M g) := key
    refine ⟨128, ?_⟩
    rw [key', bk_277_35, eg]
    simp (disch := omega) only [bk_277_87, bk_277_96, bk_277_97, Option.bind_some, Bool.cond_decide, am_oI_some, am_oV_some, am_oI_ite, am_oV_ite, am_bind_ite, Int.toNat_natCast, Int.toNat_zero, Int.reduceToNat, ite_true, ite_false, not_true_eq_false, not_false_eq_true, decide_true, decide_false, decide_eq_true_eq, Bool.false_eq_true, Nat.add_zero, am_rok1_0, am_rok1_1, cond_true, cond_false, am_w_nat1, true_or, or_true, false_or, or_false, true_and, and_true, false_and, and_false, Int.reduceEq, Int.reduceNeg, Int.reduceLT, Int.reduceLE, or_self, and_self, if_pos, if_neg]
  · have eg : gv N 128 v = true := decide_eq_true (cnt_pos.mpr ⟨j, j1, j2⟩)
    have key := loop_to (fun p : Nat => am_run am_ms 277 35 [am_R mo, am_I k, am_I v, am_I 0, am_I p] [] (mv mo M g)) j (fun p hp => step p (by omega) (j3 p hp))
    have key' : am_run am_ms 277 35 [am_R mo, am_I k, am_I v, am_I 0, am_I 0] [] (mv mo M g) = am_run am_ms 277 35 [am_R mo, am_I k, am_I v, am_I 0, am_I j] [] (mv mo M g) := key
    have j2' := j2
    unfold gq at j2'
    rw [Bool.and_eq_true] at j2'
    have h9 := of_decide_eq_true j2'.2
    have c1 := m_isThere (mo := mo) (g := g) (c := 8) (by omega) mr (rl_AW iv rl) j1
    rw [← pk, rl_has rl, j2'.1, if_pos rfl] at c1
    have r9 := mr9 (m := mo) (M := M) (A := Ad) (h := g) (c := 8) (by omega) (z := j) j1
    rw [← pk, (rl.2.2.2.1 j j1 j2'.1).2.2, h9] at r9
    have k35 : am_run am_ms 277 35 [am_R mo, am_I k, am_I v, am_I 0, am_I j] [] (mv mo M g) = am_run am_ms 277 35 [am_R mo, am_I k, am_I v, am_I 1, am_I ((j + 1 : Nat) : Int)] [] (mv mo M g) := by
      rw [bk_277_35]
      simp (disch := omega) only [bk_277_67, bk_277_80, mv_f0_15, mv_c0, c1, nte288, r9, Option.bind_some, Bool.cond_decide, am_oI_some, am_oV_some, am_oI_ite, am_oV_ite, am_bind_ite, Int.toNat_natCast, Int.toNat_zero, Int.reduceToNat, ite_true, ite_false, not_true_eq_false, not_false_eq_true, decide_true, decide_false, decide_eq_true_eq, Bool.false_eq_true, Nat.add_zero, am_rok1_0, am_rok1_1, cond_true, cond_false, am_w_nat1, true_or, or_true, false_or, or_false, true_and, and_true, false_and, and_false, Int.reduceEq, Int.reduceNeg, Int.reduceLT, Int.reduceLE, or_self, and_self, if_pos, if_neg]
    refine ⟨((j + 1 : Nat) : Int), ?_⟩
    rw [key', k35, bk_277_35, eg]
    by_cases q : 128 ≤ ((j + 1 : Nat) : Int)
    · simp (disch := omega) only [bk_277_87, bk_277_97, Option.bind_some, Bool.cond_decide, am_oI_some, am_oV_some, am_oI_ite, am_oV_ite, am_bind_ite, Int.toNat_natCast, Int.toNat_zero, Int.reduceToNat, ite_true, ite_false, not_true_eq_false, not_false_eq_true, decide_true, decide_false, decide_eq_true_eq, Bool.false_eq_true, Nat.add_zero, am_rok1_0, am_rok1_1, cond_true, cond_false, am_w_nat1, true_or, or_true, false_or, or_false, true_and, and_true, false_and, and_false, Int.reduceEq, Int.reduceNeg, Int.reduceLT, Int.reduceLE, or_self, and_self, if_pos, if_neg]
    · simp (disch := omega) only [bk_277_87, bk_277_97, Option.bind_some, Bool.cond_decide, am_oI_some, am_oV_some, am_oI_ite, am_oV_ite, am_bind_ite, Int.toNat_natCast, Int.toNat_zero, Int.reduceToNat, ite_true, ite_false, not_true_eq_false, not_false_eq_true, decide_true, decide_false, decide_eq_true_eq, Bool.false_eq_true, Nat.add_zero, am_rok1_0, am_rok1_1, cond_true, cond_false, am_w_nat1, true_or, or_true, false_or, or_false, true_and, and_true, false_and, and_false, Int.reduceEq, Int.reduceNeg, Int.reduceLT, Int.reduceLE, or_self, and_self, if_pos, if_neg]
theorem lk_gone (hn : n < 2147483000) (w : WR n m N K S HD M) : LK 276 277 [] x mo n m A N P K T S HD M := by
  intro h g
  have c0 := c_isDrive (x := x) (N := N) (P := P) (K := K) (T := T) (S := S) (m := m) (A := A) h
  have hmk := MK_f M (j := 0) (by omega) 0
  rcases w.2.2.2.2 with w0 | ⟨Z, wd⟩
  · have f14 : dup M 0 0 0 0 14 = 0 := by rw [dup_t, va_up_ne _ _ (by omega)]; exact w0.1
    rw [if_neg (by have := w0.2.1.1; omega)] at c0
    refine ⟨-1, dup M 0 0 0, ?_, ?_, hmk⟩
    · rw [am_cI]; simp (disch := omega) only [en_276, bk_276_0, bk_276_27, bk_276_28, c0, zv_c0, zv_f0_0, zv_f0_1, zv_f0_2, zv_f0_3, zv_f0_4, zv_f0_5, zv_f0_6, zv_f0_7, zv_f0_8, zv_f0_9, zv_f0_10, zv_f0_11, zv_c1, zv_f1_0, zv_f1_1, zv_c3, zv_f3_0, zv_f3_1, zv_f3_2, zv_f3_3, zv_f3_4, zv_f3_5, zv_f3_6, zv_f3_7, zv_f3_8, zv_f3_9, zv_c7, zv_f7_0, zv_f7_1, zv_f7_2, zv_f7_3, zv_c67, zv_f67_0, zv_f67_1, zv_f67_2, zv_f67_3, zv_f67_4, zv_f67_5, zv_f67_6, zv_f67_7, zv_c86, zv_f86_0, zv_c87, zv_f87_0, zv_f87_1, zv_f87_2, zv_c89, zv_f89_0, zv_c91, zv_f91_0, zv_f91_1, zv_f91_2, zv_f91_3, zv_c95, zv_f95_0, zv_f95_1, zv_f95_2, zv_f95_3, zv_c99, zv_f99_0, zv_f99_1, zv_f99_2, zv_f99_3, zv_c103, zv_f103_0, zv_f103_1, zv_f103_2, zv_f103_3, zv_r1, zv_r2, zv_r3, zv_r4, zv_r5, zv_r6, zv_r7, zv_r8, zv_r9, zv_r10, zv_r11, zv_r12, zv_r13, zv_r14, zv_r15, zv_r16, zv_r17, zv_r18, zv_r19, zv_r20, zv_r21, zv_l1, zv_l2, zv_l3, zv_l4, zv_l5, zv_l6, zv_l7, zv_l8, zv_l9, zv_l10, zv_l11, zv_l12, zv_l13, zv_l14, zv_l15, zv_l16, zv_l17, zv_l18, zv_l19, zv_l20, zv_l21, zv_p0_3, zv_p0_7, zv_p1_1, zv_w1, zv_p3_3, zv_p3_7, zv_p3_8, zv_p3_9, zv_w2, zv_w3, zv_w4, zv_p7_3, zv_w5, zv_w6, zv_w7, zv_w8, zv_p67_3, zv_p67_4, zv_p67_5, zv_p67_6, zv_p67_7, zv_p86_0, zv_p87_1, zv_p87_2, zv_p89_0, zv_w9, zv_p91_3, zv_w10, zv_w11, zv_w12, zv_p95_3, zv_w13, zv_w14, zv_w15, zv_p99_3, zv_w16, zv_w17, zv_w18, zv_p103_3, zv_w19, zv_w20, zv_w21, zN_c, zN_cL, zN_f0, zN_f1, zN_f2, zN_f3, zN_f4, zN_f5, zN_f6, zN_f7, zN_f8, zN_f9, zN_f10, zN_f11, zN_f12, zN_f13, zN_i1, zN_r0, zN_r1, zN_r2, zN_r3, zN_r4, zN_r5, zN_r6, zN_r7, zN_r8, zN_r9, zN_r10, zN_r11, zN_r12, zN_w0, zP_c, zK_c, zT_c, zT_cL, zT_f0, zT_f1, zT_f2, zT_f3, zT_f4, zT_f5, zT_f6, zT_f7, zT_f8, zT_f9, zT_f10, zT_f11, zT_f12, zT_f13, zT_i1, zT_r0, zT_r1, zT_r2, zT_r3, zT_r4, zT_r5, zT_r6, zT_r7, zT_r8, zT_r9, zT_r10, zT_r11, zT_r12, zT_w0, dup_t, dup_o, va_up_self, va_up_ne, drow_t, drow_o, Option.bind_some, Bool.cond_decide, am_oI_some, am_oV_some, am_oI_ite, am_oV_ite, am_bind_ite, Int.toNat_natCast, Int.toNat_zero, Int.reduceToNat, ite_true, ite_false, not_true_eq_false, not_false_eq_true, decide_true, decide_false, decide_eq_true_eq, Bool.false_eq_true, Nat.add_zero, am_rok1_0, am_rok1_1, cond_true, cond_false, am_w_nat1, true_or, or_true, false_or, or_false, true_and, and_true, false_and, and_false, Int.reduceEq, Int.reduceNeg, Int.reduceLT, Int.reduceLE, or_self, and_self, if_pos, if_neg]
    · rw [am_cI]; simp (disch := omega) only [en_277, bk_277_0, mv_p0_0, f14, am_w_id, mv_c0, mv_f0_0, mv_f0_1, mv_f0_2, mv_f0_3, mv_f0_4, mv_f0_5, mv_f0_6, mv_f0_7, mv_f0_8, mv_f0_9, mv_f0_10, mv_f0_11, mv_f0_12, mv_f0_13, mv_f0_14, mv_f0_15, mv_f0_16, mv_f0_17, mv_f0_18, mv_f0_19, mv_f0_20, mv_f0_21, mv_f0_22, mv_f0_23, mv_f0_24, mv_f0_25, mv_f0_26, mv_f0_27, mv_f0_28, mv_f0_29, mv_f0_30, mv_r1, mv_r2, mv_r3, mv_r4, mv_r5, mv_r6, mv_r7, mv_r8, mv_r9, mv_r10, mv_r11, mv_r12, mv_r13, mv_r14, mv_l1, mv_l2, mv_l3, mv_l4, mv_l5, mv_l6, mv_l7, mv_l8, mv_l9, mv_l10, mv_l11, mv_l12, mv_l13, mv_l14, mr2, mr3, mr4, mr5, mr6, mr7, mr8, mr9, mr13, mr1_4, mr0_6, mr1_5, mr1_0, mr1_1, mr1_2, mr1_3, mr1_6, mr1_7, mw2, mw3, mw4, mw5, mw6, mw7, mw8, mw9, mw13, mw1_4, mw0_6, mw1_5, mw1_0, mw1_1, mw1_2, mw1_3, mw1_6, mw1_7, drow_o, drow_t, Option.bind_some, Bool.cond_decide, am_oI_some, am_oV_some, am_oI_ite, am_oV_ite, am_bind_ite, Int.toNat_natCast, Int.toNat_zero, Int.reduceToNat, ite_true, ite_false, not_true_eq_false, not_false_eq_true, decide_true, decide_false, decide_eq_true_eq, Bool.false_eq_true, Nat.add_zero, am_rok1_0, am_rok1_1, cond_true, cond_false, am_w_nat1, true_or, or_true, false_or, or_false, true_and, and_true, false_and, and_false, Int.reduceEq, Int.reduceNeg, Int.reduceLT, Int.reduceLE, or_self, and_self, if_pos, if_neg]
  · obtain ⟨Ad, iv, rl, mr, pk, f14, f30, bd, nd, ru⟩ := ctx mo wd
    rw [if_pos (by have := iv.pw.1; have := iv.1.2.1; omega)] at c0
    have c1 := d_countBlocks (d := x + 13) (h := (zv x N P K T S m A h)) iv.1.1.1
    rw [zv_dN] at c1
    obtain ⟨L, hL⟩ : ∃ L : Nat, N 1 4 = L := ⟨(N 1 4).toNat, by have := bd.1.1; omega⟩
    have hLn : L ≤ n := by have := bd.1.2; omega
    have hnum : ∀ p, p < 128 → cd_has N p = true → 1 ≤ N 9 p ∧ N 9 p ≤ (L : Int) := fun p hp hh => by
      have := iv.2.2.2.2.2.2 p hp hh
      omega
    have hg := gv_cnt nd (L := L) hnum 128 (Nat.le_refl 128)
    have hs := sm_has iv.pw
    have hcn := cnt_not (fun u => gv N 128 ((u + 1 : Nat) : Int)) L
    have r4 := mr1_4 (m := mo) (M := dup M 0 0 0) (A := Ad) (h := g) (c := 8) (by omega)
    rw [← pk, rl.2.1.1, hL] at r4
    have step : ∀ (u : Nat) (v : am_V × am_V), u < L → ∃ v' : am_V × am_V, am_run am_ms 277 18 [am_R mo, am_I (cnt (fun u => !(gv N 128 ((u + 1 : Nat) : Int))) u), am_I ((u + 1 : Nat) : Int), v.1, v.2] [] (mv mo (dup M 0 0 0) g) = am_run am_ms 277 18 [am_R mo, am_I (cnt (fun u => !(gv N 128 ((u + 1 : Nat) : Int))) (u + 1)), am_I ((u + 1 + 1 : Nat) : Int), v'.1, v'.2] [] (mv mo (dup M 0 0 0) g) := by
      intro u v hu
      have hle := cnt_le (fun u => !(gv N 128 ((u + 1 : Nat) : Int))) u
      have es : cnt (fun u => !(gv N 128 ((u + 1 : Nat) : Int))) (u + 1) = cnt (fun u => !(gv N 128 ((u + 1 : Nat) : Int))) u + if (!(gv N 128 ((u + 1 : Nat) : Int))) = true then 1 else 0 := rfl
      rw [es]
      generalize cnt (fun u => !(gv N 128 ((u + 1 : Nat) : Int))) u = C at hle ⊢
      obtain ⟨p, k1⟩ := gn_in (mo := mo) (g := g) iv rl mr pk (C : Int) ((u + 1 : Nat) : Int)
      refine ⟨(am_I (if gv N 128 ((u + 1 : Nat) : Int) = true then 1 else 0), am_I p), ?_⟩
      have e2 : am_w (((u + 1 : Nat) : Int) + 1) = ((u + 1 + 1 : Nat) : Int) := by rw [am_w_id (by omega) (by omega)]; rfl
      rw [e2] at k1
      clear e2
      rw [bk_277_18]
      have k2 : ¬ (L : Int) < ((u + 1 : Nat) : Int) := by omega
      simp only [mv_f0_15, r4, k2, Option.bind_some, Bool.cond_decide, am_oI_some, am_oV_some, am_oI_ite, am_oV_ite, am_bind_ite, Int.toNat_natCast, Int.toNat_zero, Int.reduceToNat, ite_true, ite_false, not_true_eq_false, not_false_eq_true, decide_true, decide_false, decide_eq_true_eq, Bool.false_eq_true, Nat.add_zero, am_rok1_0, am_rok1_1, cond_true, cond_false, am_w_nat1, true_or, or_true, false_or, or_false, true_and, and_true, false_and, and_false, Int.reduceEq, Int.reduceNeg, Int.reduceLT, Int.reduceLE, or_self, and_self]
      rw [k1]
      cases gv N 128 ((u + 1 : Nat) : Int) with
      | true =>
        rw [if_pos rfl, if_pos rfl, if_neg (by decide), Int.add_zero, am_w_id (by omega) (by omega)]
        rfl
      | false =>
        rw [if_neg (by decide), if_neg (by decide), if_pos (by decide), am_w_id (by omega) (by omega)]
        rfl
    obtain ⟨v', key⟩ := loop_v (fun (u : Nat) (v : am_V × am_V) => am_run am_ms 277 18 [am_R mo, am_I (cnt (fun u => !(gv N 128 ((u + 1 : Nat) : Int))) u), am_I ((u + 1 : Nat) : Int), v.1, v.2] [] (mv mo (dup M 0 0 0) g)) L step (am_K 1, am_K 1)
    have key' : am_run am_ms 277 18 [am_R mo, am_I 0, am_I 1, am_K 1, am_K 1] [] (mv mo (dup M 0 0 0) g) = am_run am_ms 277 18 [am_R mo, am_I (cnt (fun u => !(gv N 128 ((u + 1 : Nat) : Int))) L), am_I ((L + 1 : Nat) : Int), v'.1, v'.2] [] (mv mo (dup M 0 0 0) g) := key
    have hval : am_w ((L : Int) - sm (N 3) Z) = (cnt (fun u => !(gv N 128 ((u + 1 : Nat) : Int))) L : Int) := by
      rw [hs, ← hg, am_w_id (by omega) (by omega)]
      omega
    refine ⟨(cnt (fun u => !(gv N 128 ((u + 1 : Nat) : Int))) L : Int), dup M 0 0 0, ?_, ?_, hmk⟩
    · rw [← hval]
      clear hval hcn hg hs
      rw [am_cI]; simp (disch := omega) only [en_276, bk_276_0, bk_276_27, bk_276_28, c0, c1, hL, zv_c0, zv_f0_0, zv_f0_1, zv_f0_2, zv_f0_3, zv_f0_4, zv_f0_5, zv_f0_6, zv_f0_7, zv_f0_8, zv_f0_9, zv_f0_10, zv_f0_11, zv_c1, zv_f1_0, zv_f1_1, zv_c3, zv_f3_0, zv_f3_1, zv_f3_2, zv_f3_3, zv_f3_4, zv_f3_5, zv_f3_6, zv_f3_7, zv_f3_8, zv_f3_9, zv_c7, zv_f7_0, zv_f7_1, zv_f7_2, zv_f7_3, zv_c67, zv_f67_0, zv_f67_1, zv_f67_2, zv_f67_3, zv_f67_4, zv_f67_5, zv_f67_6, zv_f67_7, zv_c86, zv_f86_0, zv_c87, zv_f87_0, zv_f87_1, zv_f87_2, zv_c89, zv_f89_0, zv_c91, zv_f91_0, zv_f91_1, zv_f91_2, zv_f91_3, zv_c95, zv_f95_0, zv_f95_1, zv_f95_2, zv_f95_3, zv_c99, zv_f99_0, zv_f99_1, zv_f99_2, zv_f99_3, zv_c103, zv_f103_0, zv_f103_1, zv_f103_2, zv_f103_3, zv_r1, zv_r2, zv_r3, zv_r4, zv_r5, zv_r6, zv_r7, zv_r8, zv_r9, zv_r10, zv_r11, zv_r12, zv_r13, zv_r14, zv_r15, zv_r16, zv_r17, zv_r18, zv_r19, zv_r20, zv_r21, zv_l1, zv_l2, zv_l3, zv_l4, zv_l5, zv_l6, zv_l7, zv_l8, zv_l9, zv_l10, zv_l11, zv_l12, zv_l13, zv_l14, zv_l15, zv_l16, zv_l17, zv_l18, zv_l19, zv_l20, zv_l21, zv_p0_3, zv_p0_7, zv_p1_1, zv_w1, zv_p3_3, zv_p3_7, zv_p3_8, zv_p3_9, zv_w2, zv_w3, zv_w4, zv_p7_3, zv_w5, zv_w6, zv_w7, zv_w8, zv_p67_3, zv_p67_4, zv_p67_5, zv_p67_6, zv_p67_7, zv_p86_0, zv_p87_1, zv_p87_2, zv_p89_0, zv_w9, zv_p91_3, zv_w10, zv_w11, zv_w12, zv_p95_3, zv_w13, zv_w14, zv_w15, zv_p99_3, zv_w16, zv_w17, zv_w18, zv_p103_3, zv_w19, zv_w20, zv_w21, zN_c, zN_cL, zN_f0, zN_f1, zN_f2, zN_f3, zN_f4, zN_f5, zN_f6, zN_f7, zN_f8, zN_f9, zN_f10, zN_f11, zN_f12, zN_f13, zN_i1, zN_r0, zN_r1, zN_r2, zN_r3, zN_r4, zN_r5, zN_r6, zN_r7, zN_r8, zN_r9, zN_r10, zN_r11, zN_r12, zN_w0, zP_c, zK_c, zT_c, zT_cL, zT_f0, zT_f1, zT_f2, zT_f3, zT_f4, zT_f5, zT_f6, zT_f7, zT_f8, zT_f9, zT_f10, zT_f11, zT_f12, zT_f13, zT_i1, zT_r0, zT_r1, zT_r2, zT_r3, zT_r4, zT_r5, zT_r6, zT_r7, zT_r8, zT_r9, zT_r10, zT_r11, zT_r12, zT_w0, dup_t, dup_o, va_up_self, va_up_ne, drow_t, drow_o, Option.bind_some, Bool.cond_decide, am_oI_some, am_oV_some, am_oI_ite, am_oV_ite, am_bind_ite, Int.toNat_natCast, Int.toNat_zero, Int.reduceToNat, ite_true, ite_false, not_true_eq_false, not_false_eq_true, decide_true, decide_false, decide_eq_true_eq, Bool.false_eq_true, Nat.add_zero, am_rok1_0, am_rok1_1, cond_true, cond_false, am_w_nat1, true_or, or_true, false_or, or_false, true_and, and_true, false_and, and_false, Int.reduceEq, Int.reduceNeg, Int.reduceLT, Int.reduceLE, or_self, and_self, if_pos, if_neg]
    · clear hval
      rw [am_cI, en_277, bk_277_0]
      simp (disch := omega) only [bk_277_14, mv_p0_0, mv_f0_14, f14, Option.bind_some, Bool.cond_decide, am_oI_some, am_oV_some, am_oI_ite, am_oV_ite, am_bind_ite, Int.toNat_natCast, Int.toNat_zero, Int.reduceToNat, ite_true, ite_false, not_true_eq_false, not_false_eq_true, decide_true, decide_false, decide_eq_true_eq, Bool.false_eq_true, Nat.add_zero, am_rok1_0, am_rok1_1, cond_true, cond_false, am_w_nat1, true_or, or_true, false_or, or_false, true_and, and_true, false_and, and_false, Int.reduceEq, Int.reduceNeg, Int.reduceLT, Int.reduceLE, or_self, and_self, if_pos, if_neg]
      rw [key', bk_277_18]
      have k2 : (L : Int) < ((L + 1 : Nat) : Int) := by omega
      simp only [bk_277_105, mv_f0_15, r4, k2, Option.bind_some, Bool.cond_decide, am_oI_some, am_oV_some, am_oI_ite, am_oV_ite, am_bind_ite, Int.toNat_natCast, Int.toNat_zero, Int.reduceToNat, ite_true, ite_false, not_true_eq_false, not_false_eq_true, decide_true, decide_false, decide_eq_true_eq, Bool.false_eq_true, Nat.add_zero, am_rok1_0, am_rok1_1, cond_true, cond_false, am_w_nat1, true_or, or_true, false_or, or_false, true_and, and_true, false_and, and_false, Int.reduceEq, Int.reduceNeg, Int.reduceLT, Int.reduceLE, or_self, and_self]
end GONE2
