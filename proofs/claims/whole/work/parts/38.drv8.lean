/-! ===== what the class's drive does: emptying, moving ===== -/
def o_em1 (D : Nat → Nat → Int) (z : Nat) : Nat → Nat → Int := dup (dup (dup D 2 z 0) 3 z 0) 4 z (am_w (D 4 z + 1))
def o_em2 (D : Nat → Nat → Int) (z : Nat) : Nat → Nat → Int := if cd_so D z = -1 then o_em1 D z else dup (o_em1 D z) 6 (cd_so D z).toNat (-1)
/-- a zone is reset -/
def o_em (D : Nat → Nat → Int) (z : Nat) : Nat → Nat → Int := lga (la (o_em2 D z) 128) 2 z (am_w (D 4 z + 1))
def o_ec (D : Nat → Nat → Int) (z : Nat) : Nat → Nat → Int := o_em (dup D 1 2 (am_w (D 1 2 + 1))) z
theorem o_em1_o (D : Nat → Nat → Int) (z : Nat) {r : Nat} (h : r ≠ 2 ∧ r ≠ 3 ∧ r ≠ 4) : o_em1 D z r = D r := by
  unfold o_em1
  rw [dup_o _ _ _ (by omega), dup_o _ _ _ (by omega), dup_o _ _ _ (by omega)]
theorem o_em2_o (D : Nat → Nat → Int) (z : Nat) {r : Nat} (h : r ≠ 6) : o_em2 D z r = o_em1 D z r := by
  unfold o_em2
  split
  · rfl
  · rw [dup_o _ _ _ h]
theorem o_em1_DI {D : Nat → Nat → Int} {Z z : Nat} (w : DI D Z) (hc : 0 < D 0 1) : DI (o_em1 D z) Z := by
  obtain ⟨w1, w2, w3⟩ := w
  have e2 : o_em1 D z 2 = va_up (D 2) z 0 := by unfold o_em1; rw [dup_o _ _ _ (by omega), dup_o _ _ _ (by omega), dup_t]
  have e3 : o_em1 D z 3 = va_up (D 3) z 0 := by unfold o_em1; rw [dup_o _ _ _ (by omega), dup_t, dup_o _ _ _ (by omega)]
  have e : ∀ r, r ≠ 2 ∧ r ≠ 3 ∧ r ≠ 4 → o_em1 D z r = D r := fun r hr => o_em1_o D z hr
  refine ⟨?_, ?_, LW_of w3 (e 16 (by omega))⟩
  · unfold DW at w1 ⊢
    rw [e 0 (by omega), e3, e 7 (by omega), e 10 (by omega)]
    refine ⟨w1.1, w1.2.1, w1.2.2.1, w1.2.2.2.1, ?_, ?_, w1.2.2.2.2.2.2⟩
    · intro y hy
      by_cases q : y = z
      · rw [q, va_up_self]; omega
      · rw [va_up_ne _ _ q]; exact w1.2.2.2.2.1 y hy
    · intro y i hy hi
      by_cases q : y = z
      · rw [q, va_up_self] at hi; omega
      · rw [va_up_ne _ _ q] at hi; exact w1.2.2.2.2.2.1 y i hy hi
  · unfold CW at w2 ⊢
    rw [e 0 (by omega), e2, e3]
    intro y hy
    by_cases q : y = z
    · rw [q, va_up_self, va_up_self]; omega
    · rw [va_up_ne _ _ q, va_up_ne _ _ q]; exact w2 y hy
theorem o_em2_DI {D : Nat → Nat → Int} {Z z : Nat} (w : DI D Z) (hc : 0 < D 0 1) : DI (o_em2 D z) Z := by
  unfold o_em2
  split
  · exact o_em1_DI w hc
  · exact dup_DI (o_em1_DI w hc) _ _ _ (by omega)
theorem o_em_DI {D : Nat → Nat → Int} {Z z : Nat} (w : DI D Z) (hc : 0 < D 0 1) : DI (o_em D z) Z := lga_DI (la_DI (o_em2_DI w hc)) _ _ _
theorem o_ec_DI {D : Nat → Nat → Int} {Z z : Nat} (w : DI D Z) (hc : 0 < D 0 1) : DI (o_ec D z) Z := o_em_DI (dup_DI w 1 2 _ (by omega)) (by rw [dup_o _ _ _ (by omega)]; exact hc)
theorem o_ec_0 (D : Nat → Nat → Int) (z : Nat) : o_ec D z 0 = D 0 := by
  unfold o_ec o_em
  rw [lga_o _ _ _ _ (by omega), la_o _ (by omega), o_em2_o _ _ (by omega), o_em1_o _ _ (by omega), dup_o _ _ _ (by omega)]
theorem o_at_0 (D : Nat → Nat → Int) (Z s : Nat) (key val num : Int) (sort : Nat) : o_at D Z s key val num sort 0 = D 0 := by
  unfold o_at
  split
  · exact o_at1_0 _ _ _
  · unfold o_ap o_ap4
    rw [lga_o _ _ _ _ (by omega), dup_o _ _ _ (by omega), ln_o _ _ (by omega), o_ap3_o _ _ _ _ _ (by omega), o_ap2_o _ _ _ _ _ (by omega), o_ap1_o _ _ _ _ _ (by omega), o_at2_o _ _ _ (by omega) (by omega) (by omega), o_at1_0]
theorem cd_so_of {D E : Nat → Nat → Int} (h0 : D 0 = E 0) (h6 : D 6 = E 6) (z : Int) : cd_so D z = cd_so E z := by unfold cd_so; rw [h0, h6]
theorem cd_so_le {D : Nat → Nat → Int} (h : 0 ≤ D 0 4) (z : Int) : -1 ≤ cd_so D z ∧ cd_so D z < D 0 4 := by
  have := fnd_le (fun s => decide (D 6 s = z)) (D 0 4).toNat
  unfold cd_so
  omega
/-- what is moved: the drive, and how many, after i places -/
def mvs (D : Nat → Nat → Int) (Z z : Nat) (most : Int) : Nat → (Nat → Nat → Int) × Int
  | 0 => (D, 0)
  | i + 1 => if (i : Int) < (mvs D Z z most i).1 3 z ∧ (mvs D Z z most i).2 < most ∧ cd_live (mvs D Z z most i).1 (16 * z + i) = true then (o_at (mvs D Z z most i).1 Z (D 0 4 - 1).toNat ((mvs D Z z most i).1 7 (16 * z + i)) ((mvs D Z z most i).1 8 (16 * z + i)) ((mvs D Z z most i).1 9 (16 * z + i)) 1, (mvs D Z z most i).2 + 1) else mvs D Z z most i
theorem mvs_I {D : Nat → Nat → Int} {Z z : Nat} (w : DI D Z) (hz : z < 8) (most : Int) : ∀ i, DI (mvs D Z z most i).1 Z ∧ (mvs D Z z most i).1 0 = D 0 ∧ 0 ≤ (mvs D Z z most i).2 ∧ (mvs D Z z most i).2 ≤ i := by
  intro i
  induction i with
  | zero => exact ⟨w, rfl, by show (0 : Int) ≤ 0; omega, by show (0 : Int) ≤ ((0 : Nat) : Int); omega⟩
  | succ i ih =>
    obtain ⟨i1, i2, i3, i4⟩ := ih
    unfold mvs
    split
    · rename_i q
      refine ⟨o_at_DI 1 i1 (i1.1.2.2.2.2.2.1 z i hz q.1), ?_, ?_, ?_⟩
      · rw [← i2]; exact o_at_0 _ _ _ _ _ _ _
      · show 0 ≤ (mvs D Z z most i).2 + 1; omega
      · show (mvs D Z z most i).2 + 1 ≤ ((i + 1 : Nat) : Int); omega
    · exact ⟨i1, i2, i3, by omega⟩
theorem mvs_stop {D : Nat → Nat → Int} {Z z : Nat} {most : Int} {k : Nat} (h : ¬ ((k : Int) < (mvs D Z z most k).1 3 z ∧ (mvs D Z z most k).2 < most)) : ∀ j, mvs D Z z most (k + j) = mvs D Z z most k := by
  intro j
  induction j with
  | zero => rfl
  | succ j ih =>
    show mvs D Z z most (k + j + 1) = _
    conv => lhs; unfold mvs
    rw [ih]
    exact if_neg (by omega)
section DRV9
variable {d : Nat} {D : Nat → Nat → Int} {h : am_H} {Z : Nat}
theorem d_emptyZone (w : DI D Z) (hc : 0 < D 0 1) {z : Nat} (hz : z < 8) : am_cV 100 [am_R d, am_I z] (dv d D h) = some (dv d (o_em D z) h) := by
  have w1 := o_em1_DI (z := z) w hc
  have w2 := o_em2_DI (z := z) w hc
  have w3 := la_DI w2
  have c1 := d_streamOf (d := d) (h := h) w1.1 z
  rw [cd_so_of (o_em1_o D z (by omega)) (o_em1_o D z (by omega))] at c1
  have c2 := d_learnAll (d := d) (h := h) w2.1
  have c3 := fun x y t => l_add (d := d) (h := h) w3.2.2 x y t
  have e4 : la (o_em2 D z) 128 4 z = am_w (D 4 z + 1) := by
    rw [la_o _ (by omega), o_em2_o _ _ (by omega)]
    unfold o_em1
    rw [dup_t, va_up_self]
  have hb := cd_so_le w.1.2.2.2.1.1 z
  have h4 := w.1.2.2.2.1
  unfold o_em
  unfold o_em2 at c2 c3 e4 ⊢
  by_cases e : cd_so D z = -1
  · rw [if_pos e] at c2 c3 e4 ⊢
    unfold o_em1 at c1 c2 c3 e4 ⊢
    rw [am_cV]; simp (disch := omega) only [en_100, bk_100_0, bk_100_20, bk_100_40, bk_100_42, c1, c2, c3, e4, e, dv_f0, dv_f1, dv_f2, dv_f3, dv_f4, dv_f5, dv_f6, dv_f7, dv_f8, dv_f9, dv_f10, dv_f11, dv_f12, dv_f13, dv_g0, dv_g1, dv_g2, dv_i0, dv_i1, dv_p0, dv_p1, dv_isc, dv_iscL, dv_r0, dv_r1, dv_r2, dv_r3, dv_r4, dv_r5, dv_r6, dv_r7, dv_r8, dv_r9, dv_r10, dv_r11, dv_r12, dv_r13, dv_r14, dv_r15, dv_w0, dv_w1, dv_w2, dv_w3, dv_w4, dv_w5, dv_w6, dv_w7, dv_w8, dv_w9, dv_w10, dv_w11, dv_w12, dv_w13, dv_w14, dv_w15, dup_t, dup_o, va_up_self, va_up_ne, drow_t, drow_o, Option.bind_some, Bool.cond_decide, am_oI_some, am_oV_some, am_oI_ite, am_oV_ite, am_bind_ite, Int.toNat_natCast, Int.toNat_zero, Int.reduceToNat, ite_true, ite_false, not_true_eq_false, not_false_eq_true, decide_true, decide_false, decide_eq_true_eq, Bool.false_eq_true, Nat.add_zero, am_rok1_0, am_rok1_1, cond_true, cond_false, am_w_nat1, true_or, or_true, false_or, or_false, true_and, and_true, false_and, and_false, Int.reduceEq, Int.reduceNeg, Int.reduceLT, Int.reduceLE, or_self, and_self, if_pos, if_neg]
  · rw [if_neg e] at c2 c3 e4 ⊢
    obtain ⟨S, hS⟩ : ∃ S : Nat, cd_so D z = S := ⟨(cd_so D z).toNat, by omega⟩
    rw [hS] at c1
    rw [hS, Int.toNat_natCast] at c2 c3 e4 ⊢
    unfold o_em1 at c1 c2 c3 e4 ⊢
    rw [am_cV]; simp (disch := omega) only [en_100, bk_100_0, bk_100_20, bk_100_40, bk_100_42, c1, c2, c3, e4, dv_f0, dv_f1, dv_f2, dv_f3, dv_f4, dv_f5, dv_f6, dv_f7, dv_f8, dv_f9, dv_f10, dv_f11, dv_f12, dv_f13, dv_g0, dv_g1, dv_g2, dv_i0, dv_i1, dv_p0, dv_p1, dv_isc, dv_iscL, dv_r0, dv_r1, dv_r2, dv_r3, dv_r4, dv_r5, dv_r6, dv_r7, dv_r8, dv_r9, dv_r10, dv_r11, dv_r12, dv_r13, dv_r14, dv_r15, dv_w0, dv_w1, dv_w2, dv_w3, dv_w4, dv_w5, dv_w6, dv_w7, dv_w8, dv_w9, dv_w10, dv_w11, dv_w12, dv_w13, dv_w14, dv_w15, dup_t, dup_o, va_up_self, va_up_ne, drow_t, drow_o, Option.bind_some, Bool.cond_decide, am_oI_some, am_oV_some, am_oI_ite, am_oV_ite, am_bind_ite, Int.toNat_natCast, Int.toNat_zero, Int.reduceToNat, ite_true, ite_false, not_true_eq_false, not_false_eq_true, decide_true, decide_false, decide_eq_true_eq, Bool.false_eq_true, Nat.add_zero, am_rok1_0, am_rok1_1, cond_true, cond_false, am_w_nat1, true_or, or_true, false_or, or_false, true_and, and_true, false_and, and_false, Int.reduceEq, Int.reduceNeg, Int.reduceLT, Int.reduceLE, or_self, and_self, if_pos, if_neg]
theorem d_endCleaning (w : DI D Z) (hc : 0 < D 0 1) {z : Nat} (hz : z < 8) : am_cV 101 [am_R d, am_I z] (dv d D h) = some (dv d (o_ec D z) h) := by
  have c1 := d_emptyZone (d := d) (h := h) (dup_DI w 1 2 (am_w (D 1 2 + 1)) (by omega)) (by rw [dup_o _ _ _ (by omega)]; exact hc) hz
  unfold o_ec
  rw [am_cV]; simp (disch := omega) only [en_101, bk_101_0, c1, dv_f0, dv_f1, dv_f2, dv_f3, dv_f4, dv_f5, dv_f6, dv_f7, dv_f8, dv_f9, dv_f10, dv_f11, dv_f12, dv_f13, dv_g0, dv_g1, dv_g2, dv_i0, dv_i1, dv_p0, dv_p1, dv_isc, dv_iscL, dv_r0, dv_r1, dv_r2, dv_r3, dv_r4, dv_r5, dv_r6, dv_r7, dv_r8, dv_r9, dv_r10, dv_r11, dv_r12, dv_r13, dv_r14, dv_r15, dv_w0, dv_w1, dv_w2, dv_w3, dv_w4, dv_w5, dv_w6, dv_w7, dv_w8, dv_w9, dv_w10, dv_w11, dv_w12, dv_w13, dv_w14, dv_w15, dup_t, dup_o, va_up_self, va_up_ne, drow_t, drow_o, Option.bind_some, Bool.cond_decide, am_oI_some, am_oV_some, am_oI_ite, am_oV_ite, am_bind_ite, Int.toNat_natCast, Int.toNat_zero, Int.reduceToNat, ite_true, ite_false, not_true_eq_false, not_false_eq_true, decide_true, decide_false, decide_eq_true_eq, Bool.false_eq_true, Nat.add_zero, am_rok1_0, am_rok1_1, cond_true, cond_false, am_w_nat1, true_or, or_true, false_or, or_false, true_and, and_true, false_and, and_false, Int.reduceEq, Int.reduceNeg, Int.reduceLT, Int.reduceLE, or_self, and_self, if_pos, if_neg]
theorem d_moveLive (w : DI D Z) (hs : 0 < D 0 4) {z : Nat} (hz : z < 8) (most : Int) : am_cI 99 [am_R d, am_I z, am_I most] (dv d D h) = some ((mvs D Z z most 16).2, dv d (mvs D Z z most 16).1 h) := by
  have h4 := w.1.2.2.2.1
  obtain ⟨S, hS⟩ : ∃ S : Nat, D 0 4 = ((S + 1 : Nat) : Int) := ⟨(D 0 4 - 1).toNat, by omega⟩
  have eS : (D 0 4 - 1).toNat = S := by omega
  have ewS : am_w (((S + 1 : Nat) : Int) - 1) = (S : Int) := by rw [am_w_id (by omega) (by omega)]; omega
  have e0 : am_w ((z : Int) * 16) = ((16 * z : Nat) : Int) := by rw [am_w_id (by omega) (by omega)]; omega
  have I := mvs_I w hz most
  have step : ∀ (i : Nat) (v : am_V), i ≤ 16 → ((i : Int) < (mvs D Z z most i).1 3 z ∧ (mvs D Z z most i).2 < most) → ∃ v', am_run am_ms 99 21 [am_R d, am_I z, am_I most, am_I (mvs D Z z most i).2, am_I S, am_I ((16 * z : Nat) : Int), am_I i, v] [] (dv d (mvs D Z z most i).1 h) = am_run am_ms 99 21 [am_R d, am_I z, am_I most, am_I (mvs D Z z most (i + 1)).2, am_I S, am_I ((16 * z : Nat) : Int), am_I ((i + 1 : Nat) : Int), v'] [] (dv d (mvs D Z z most (i + 1)).1 h) := by
    intro i v hi hgo
    obtain ⟨i1, i2, i3, i4⟩ := I i
    have hp := i1.1.2.2.2.2.1 z hz
    refine ⟨am_I ((16 * z + i : Nat) : Int), ?_⟩
    have ew : am_w (((16 * z : Nat) : Int) + (i : Int)) = ((16 * z + i : Nat) : Int) := by rw [am_w_id (by omega) (by omega)]; omega
    have hk := i1.1.2.2.2.2.2.1 z i hz hgo.1
    have em : mvs D Z z most (i + 1) = if (i : Int) < (mvs D Z z most i).1 3 z ∧ (mvs D Z z most i).2 < most ∧ cd_live (mvs D Z z most i).1 (16 * z + i) = true then (o_at (mvs D Z z most i).1 Z S ((mvs D Z z most i).1 7 (16 * z + i)) ((mvs D Z z most i).1 8 (16 * z + i)) ((mvs D Z z most i).1 9 (16 * z + i)) 1, (mvs D Z z most i).2 + 1) else mvs D Z z most i := by
      conv => lhs; unfold mvs
      rw [eS]
    rw [em]
    generalize mvs D Z z most i = M at i1 i2 i3 i4 hp hk hgo em ⊢
    have c1 := c_isLive d M.1 h (16 * z + i) (by omega) hk.1 hk.2
    have c2 : am_cI 98 [am_R d, am_I S, am_I (M.1 7 (16 * z + i)), am_I (M.1 8 (16 * z + i)), am_I (M.1 9 (16 * z + i)), am_I 1] (dv d M.1 h) = some (v_at M.1 Z S, dv d (o_at M.1 Z S (M.1 7 (16 * z + i)) (M.1 8 (16 * z + i)) (M.1 9 (16 * z + i)) 1) h) := d_appendTo (sort := 1) i1 (by rw [i2]; omega) hk _ _ (by omega)
    rw [bk_99_21]
    cases e : cd_live M.1 (16 * z + i) with
    | false =>
      rw [e] at c1
      rw [if_neg (fun q => absurd q.2.2 (by decide))]
      simp (disch := omega) only [bk_99_19, bk_99_45, bk_99_71, bk_99_85, bk_99_91, ew, c1, dv_f0, dv_f1, dv_f2, dv_f3, dv_f4, dv_f5, dv_f6, dv_f7, dv_f8, dv_f9, dv_f10, dv_f11, dv_f12, dv_f13, dv_g0, dv_g1, dv_g2, dv_i0, dv_i1, dv_p0, dv_p1, dv_isc, dv_iscL, dv_r0, dv_r1, dv_r2, dv_r3, dv_r4, dv_r5, dv_r6, dv_r7, dv_r8, dv_r9, dv_r10, dv_r11, dv_r12, dv_r13, dv_r14, dv_r15, dv_w0, dv_w1, dv_w2, dv_w3, dv_w4, dv_w5, dv_w6, dv_w7, dv_w8, dv_w9, dv_w10, dv_w11, dv_w12, dv_w13, dv_w14, dv_w15, dup_t, dup_o, va_up_self, va_up_ne, drow_t, drow_o, Option.bind_some, Bool.cond_decide, am_oI_some, am_oV_some, am_oI_ite, am_oV_ite, am_bind_ite, Int.toNat_natCast, Int.toNat_zero, Int.reduceToNat, ite_true, ite_false, not_true_eq_false, not_false_eq_true, decide_true, decide_false, decide_eq_true_eq, Bool.false_eq_true, Nat.add_zero, am_rok1_0, am_rok1_1, cond_true, cond_false, am_w_nat1, true_or, or_true, false_or, or_false, true_and, and_true, false_and, and_false, Int.reduceEq, Int.reduceNeg, Int.reduceLT, Int.reduceLE, or_self, and_self, if_pos, if_neg]
    | true =>
      rw [e] at c1
      rw [if_pos ⟨hgo.1, hgo.2, rfl⟩]
      have ew2 : am_w (M.2 + 1) = M.2 + 1 := am_w_id (by omega) (by omega)
      simp (disch := omega) only [bk_99_19, bk_99_45, bk_99_71, bk_99_85, bk_99_91, ew, c1, c2, ew2, dv_f0, dv_f1, dv_f2, dv_f3, dv_f4, dv_f5, dv_f6, dv_f7, dv_f8, dv_f9, dv_f10, dv_f11, dv_f12, dv_f13, dv_g0, dv_g1, dv_g2, dv_i0, dv_i1, dv_p0, dv_p1, dv_isc, dv_iscL, dv_r0, dv_r1, dv_r2, dv_r3, dv_r4, dv_r5, dv_r6, dv_r7, dv_r8, dv_r9, dv_r10, dv_r11, dv_r12, dv_r13, dv_r14, dv_r15, dv_w0, dv_w1, dv_w2, dv_w3, dv_w4, dv_w5, dv_w6, dv_w7, dv_w8, dv_w9, dv_w10, dv_w11, dv_w12, dv_w13, dv_w14, dv_w15, dup_t, dup_o, va_up_self, va_up_ne, drow_t, drow_o, Option.bind_some, Bool.cond_decide, am_oI_some, am_oV_some, am_oI_ite, am_oV_ite, am_bind_ite, Int.toNat_natCast, Int.toNat_zero, Int.reduceToNat, ite_true, ite_false, not_true_eq_false, not_false_eq_true, decide_true, decide_false, decide_eq_true_eq, Bool.false_eq_true, Nat.add_zero, am_rok1_0, am_rok1_1, cond_true, cond_false, am_w_nat1, true_or, or_true, false_or, or_false, true_and, and_true, false_and, and_false, Int.reduceEq, Int.reduceNeg, Int.reduceLT, Int.reduceLE, or_self, and_self, if_pos, if_neg]
  rcases first_or (fun i : Nat => decide (¬ ((i : Int) < (mvs D Z z most i).1 3 z ∧ (mvs D Z z most i).2 < most))) 17 with hno | ⟨k, k1, k2, k3⟩
  · have h16 := of_decide_eq_false (hno 16 (by omega))
    have hp := (I 16).1.1.2.2.2.2.1 z hz
    omega
  · obtain ⟨v', key⟩ := loop_v (fun (i : Nat) (v : am_V) => am_run am_ms 99 21 [am_R d, am_I z, am_I most, am_I (mvs D Z z most i).2, am_I S, am_I ((16 * z : Nat) : Int), am_I i, v] [] (dv d (mvs D Z z most i).1 h)) k (fun i v hi => step i v (by omega) (Decidable.not_not.mp (of_decide_eq_false (k3 i hi)))) (am_K 1)
    have key' : am_run am_ms 99 21 [am_R d, am_I z, am_I most, am_I 0, am_I S, am_I ((16 * z : Nat) : Int), am_I 0, am_K 1] [] (dv d D h) = am_run am_ms 99 21 [am_R d, am_I z, am_I most, am_I (mvs D Z z most k).2, am_I S, am_I ((16 * z : Nat) : Int), am_I k, v'] [] (dv d (mvs D Z z most k).1 h) := key
    have k2' := of_decide_eq_true k2
    have ek := mvs_stop k2' (16 - k)
    rw [show k + (16 - k) = 16 by omega] at ek
    rw [ek]
    rw [am_cI, en_99, bk_99_0]
    simp (disch := omega) only [bk_99_19, hS, ewS, e0, key', dv_f0, dv_f1, dv_f2, dv_f3, dv_f4, dv_f5, dv_f6, dv_f7, dv_f8, dv_f9, dv_f10, dv_f11, dv_f12, dv_f13, dv_g0, dv_g1, dv_g2, dv_i0, dv_i1, dv_p0, dv_p1, dv_isc, dv_iscL, dv_r0, dv_r1, dv_r2, dv_r3, dv_r4, dv_r5, dv_r6, dv_r7, dv_r8, dv_r9, dv_r10, dv_r11, dv_r12, dv_r13, dv_r14, dv_r15, dv_w0, dv_w1, dv_w2, dv_w3, dv_w4, dv_w5, dv_w6, dv_w7, dv_w8, dv_w9, dv_w10, dv_w11, dv_w12, dv_w13, dv_w14, dv_w15, dup_t, dup_o, va_up_self, va_up_ne, drow_t, drow_o, Option.bind_some, Bool.cond_decide, am_oI_some, am_oV_some, am_oI_ite, am_oV_ite, am_bind_ite, Int.toNat_natCast, Int.toNat_zero, Int.reduceToNat, ite_true, ite_false, not_true_eq_false, not_false_eq_true, decide_true, decide_false, decide_eq_true_eq, Bool.false_eq_true, Nat.add_zero, am_rok1_0, am_rok1_1, cond_true, cond_false, am_w_nat1, true_or, or_true, false_or, or_false, true_and, and_true, false_and, and_false, Int.reduceEq, Int.reduceNeg, Int.reduceLT, Int.reduceLE, or_self, and_self, if_pos, if_neg]
    rw [bk_99_21]
    generalize mvs D Z z most k = M at k2' ⊢
    by_cases q : (k : Int) < M.1 3 z
    · simp (disch := omega) only [bk_99_19, bk_99_45, bk_99_71, bk_99_85, bk_99_91, dv_f0, dv_f1, dv_f2, dv_f3, dv_f4, dv_f5, dv_f6, dv_f7, dv_f8, dv_f9, dv_f10, dv_f11, dv_f12, dv_f13, dv_g0, dv_g1, dv_g2, dv_i0, dv_i1, dv_p0, dv_p1, dv_isc, dv_iscL, dv_r0, dv_r1, dv_r2, dv_r3, dv_r4, dv_r5, dv_r6, dv_r7, dv_r8, dv_r9, dv_r10, dv_r11, dv_r12, dv_r13, dv_r14, dv_r15, dv_w0, dv_w1, dv_w2, dv_w3, dv_w4, dv_w5, dv_w6, dv_w7, dv_w8, dv_w9, dv_w10, dv_w11, dv_w12, dv_w13, dv_w14, dv_w15, dup_t, dup_o, va_up_self, va_up_ne, drow_t, drow_o, Option.bind_some, Bool.cond_decide, am_oI_some, am_oV_some, am_oI_ite, am_oV_ite, am_bind_ite, Int.toNat_natCast, Int.toNat_zero, Int.reduceToNat, ite_true, ite_false, not_true_eq_false, not_false_eq_true, decide_true, decide_false, decide_eq_true_eq, Bool.false_eq_true, Nat.add_zero, am_rok1_0, am_rok1_1, cond_true, cond_false, am_w_nat1, true_or, or_true, false_or, or_false, true_and, and_true, false_and, and_false, Int.reduceEq, Int.reduceNeg, Int.reduceLT, Int.reduceLE, or_self, and_self, if_pos, if_neg]
    · simp (disch := omega) only [bk_99_19, bk_99_45, bk_99_71, bk_99_85, bk_99_91, dv_f0, dv_f1, dv_f2, dv_f3, dv_f4, dv_f5, dv_f6, dv_f7, dv_f8, dv_f9, dv_f10, dv_f11, dv_f12, dv_f13, dv_g0, dv_g1, dv_g2, dv_i0, dv_i1, dv_p0, dv_p1, dv_isc, dv_iscL, dv_r0, dv_r1, dv_r2, dv_r3, dv_r4, dv_r5, dv_r6, dv_r7, dv_r8, dv_r9, dv_r10, dv_r11, dv_r12, dv_r13, dv_r14, dv_r15, dv_w0, dv_w1, dv_w2, dv_w3, dv_w4, dv_w5, dv_w6, dv_w7, dv_w8, dv_w9, dv_w10, dv_w11, dv_w12, dv_w13, dv_w14, dv_w15, dup_t, dup_o, va_up_self, va_up_ne, drow_t, drow_o, Option.bind_some, Bool.cond_decide, am_oI_some, am_oV_some, am_oI_ite, am_oV_ite, am_bind_ite, Int.toNat_natCast, Int.toNat_zero, Int.reduceToNat, ite_true, ite_false, not_true_eq_false, not_false_eq_true, decide_true, decide_false, decide_eq_true_eq, Bool.false_eq_true, Nat.add_zero, am_rok1_0, am_rok1_1, cond_true, cond_false, am_w_nat1, true_or, or_true, false_or, or_false, true_and, and_true, false_and, and_false, Int.reduceEq, Int.reduceNeg, Int.reduceLT, Int.reduceLE, or_self, and_self, if_pos, if_neg]
end DRV9
