/-! ===== what the class's drive does: appending, emptying (2) ===== -/
/-- a block is laid at a zone's pointer -/
def o_ap1 (D : Nat → Nat → Int) (z : Nat) (key val num : Int) : Nat → Nat → Int := dup (dup (dup (dup D 7 (16 * z + (D 3 z).toNat) key) 8 (16 * z + (D 3 z).toNat) val) 9 (16 * z + (D 3 z).toNat) num) 3 z (D 3 z + 1)
def o_ap2 (D : Nat → Nat → Int) (z : Nat) (key val num : Int) : Nat → Nat → Int := if D 3 z + 1 < D 0 1 then o_ap1 D z key val num else dup (o_ap1 D z key val num) 2 z 3
def o_ap3 (D : Nat → Nat → Int) (z : Nat) (key val num : Int) : Nat → Nat → Int := dup (dup (o_ap2 D z key val num) 1 5 (am_w (D 1 5 + 1))) 5 z (am_w (D 1 5 + 1))
def o_ap4 (D : Nat → Nat → Int) (z : Nat) (key val num : Int) (sort : Nat) : Nat → Nat → Int := dup (ln (o_ap3 D z key val num) (16 * z + (D 3 z).toNat)) 1 sort (am_w (D 1 sort + 1))
def o_ap (D : Nat → Nat → Int) (z : Nat) (key val num : Int) (sort : Nat) : Nat → Nat → Int := lga (o_ap4 D z key val num sort) sort z ((16 * z + (D 3 z).toNat : Nat) : Int)
def o_at1 (D : Nat → Nat → Int) (Z s : Nat) : Nat → Nat → Int := if cd_lz D s = true then o_tk D Z s else D
def o_at2 (E : Nat → Nat → Int) (Z s : Nat) : Nat → Nat → Int := if E 2 (E 6 s).toNat = 1 then E else o_op E Z (E 6 s).toNat
/-- a block comes to a stream -/
def o_at (D : Nat → Nat → Int) (Z s : Nat) (key val num : Int) (sort : Nat) : Nat → Nat → Int := if cd_lz (o_at1 D Z s) s = true then o_at1 D Z s else o_ap (o_at2 (o_at1 D Z s) Z s) (o_at1 D Z s 6 s).toNat key val num sort
def v_at (D : Nat → Nat → Int) (Z s : Nat) : Int := if cd_lz (o_at1 D Z s) s = true then -4 else ((16 * (o_at1 D Z s 6 s).toNat + (o_at1 D Z s 3 (o_at1 D Z s 6 s).toNat).toNat : Nat) : Int)
theorem o_ap1_o (D : Nat → Nat → Int) (z : Nat) (key val num : Int) {r : Nat} (h : r ≠ 3 ∧ r ≠ 7 ∧ r ≠ 8 ∧ r ≠ 9) : o_ap1 D z key val num r = D r := by
  unfold o_ap1
  rw [dup_o _ _ _ (by omega), dup_o _ _ _ (by omega), dup_o _ _ _ (by omega), dup_o _ _ _ (by omega)]
theorem o_ap1_3 (D : Nat → Nat → Int) (z : Nat) (key val num : Int) : o_ap1 D z key val num 3 = va_up (D 3) z (D 3 z + 1) := by
  unfold o_ap1
  rw [dup_t, dup_o _ _ _ (by omega), dup_o _ _ _ (by omega), dup_o _ _ _ (by omega)]
theorem o_ap1_7 (D : Nat → Nat → Int) (z : Nat) (key val num : Int) : o_ap1 D z key val num 7 = va_up (D 7) (16 * z + (D 3 z).toNat) key := by
  unfold o_ap1
  rw [dup_o _ _ _ (by omega), dup_o _ _ _ (by omega), dup_o _ _ _ (by omega), dup_t]
theorem o_ap2_o (D : Nat → Nat → Int) (z : Nat) (key val num : Int) {r : Nat} (h : r ≠ 2) : o_ap2 D z key val num r = o_ap1 D z key val num r := by
  unfold o_ap2
  split
  · rfl
  · rw [dup_o _ _ _ h]
theorem o_ap3_o (D : Nat → Nat → Int) (z : Nat) (key val num : Int) {r : Nat} (h : r ≠ 1 ∧ r ≠ 5) : o_ap3 D z key val num r = o_ap2 D z key val num r := by
  unfold o_ap3
  rw [dup_o _ _ _ (by omega), dup_o _ _ _ (by omega)]
theorem o_ap2_DI {D : Nat → Nat → Int} {Z z : Nat} {key val num : Int} (w : DI D Z) (hz : z < Z) (h3 : D 3 z < D 0 1) (hk : 0 ≤ key ∧ key < 32) : DI (o_ap2 D z key val num) Z := by
  obtain ⟨w1, w2, w3⟩ := w
  have hp := w1.2.2.2.2.1 z (by have := w1.2.1; omega)
  have hc := w1.2.2.1
  have e3 : o_ap2 D z key val num 3 = va_up (D 3) z (D 3 z + 1) := (o_ap2_o _ _ _ _ _ (by omega)).trans (o_ap1_3 _ _ _ _ _)
  have e7 : o_ap2 D z key val num 7 = va_up (D 7) (16 * z + (D 3 z).toNat) key := (o_ap2_o _ _ _ _ _ (by omega)).trans (o_ap1_7 _ _ _ _ _)
  have e0 : o_ap2 D z key val num 0 = D 0 := (o_ap2_o _ _ _ _ _ (by omega)).trans (o_ap1_o _ _ _ _ _ (by omega))
  have e10 : o_ap2 D z key val num 10 = D 10 := (o_ap2_o _ _ _ _ _ (by omega)).trans (o_ap1_o _ _ _ _ _ (by omega))
  have e16 : o_ap2 D z key val num 16 = D 16 := (o_ap2_o _ _ _ _ _ (by omega)).trans (o_ap1_o _ _ _ _ _ (by omega))
  refine ⟨⟨?_, w1.2.1, ?_, ?_, ?_, ?_, ?_⟩, ?_, LW_of w3 e16⟩
  · rw [e0]; exact w1.1
  · rw [e0]; exact hc
  · rw [e0]; exact w1.2.2.2.1
  · intro y hy
    rw [e3]
    by_cases e : y = z
    · subst e; rw [va_up_self]; omega
    · rw [va_up_ne _ _ e]; exact w1.2.2.2.2.1 y hy
  · intro y i hy hi
    rw [e3] at hi
    rw [e7]
    by_cases e : 16 * y + i = 16 * z + (D 3 z).toNat
    · rw [e, va_up_self]; exact hk
    · rw [va_up_ne _ _ e]
      refine w1.2.2.2.2.2.1 y i hy ?_
      by_cases e' : y = z
      · subst e'
        rw [va_up_self] at hi
        omega
      · rw [va_up_ne _ _ e'] at hi
        exact hi
  · intro k hk
    rw [e10]; exact w1.2.2.2.2.2.2 k hk
  · intro y hy
    have h1 := w2 y hy
    rw [e0, e3]
    unfold o_ap2
    by_cases e : y = z
    · subst e
      rw [va_up_self]
      refine ⟨by omega, ?_⟩
      split
      · rename_i q; intro _; exact q
      · rw [dup_t, va_up_self]; intro q; exact absurd rfl q
    · rw [va_up_ne _ _ e]
      refine ⟨h1.1, ?_⟩
      split
      · rw [o_ap1_o _ _ _ _ _ (by omega)]; exact h1.2
      · rw [dup_t, va_up_ne _ _ e, o_ap1_o _ _ _ _ _ (by omega)]; exact h1.2
theorem ln_DI {D : Nat → Nat → Int} {Z p : Nat} (w : DI D Z) (hp : p < 128) : DI (ln D p) Z := by
  obtain ⟨w1, w2, w3⟩ := w
  have e : ∀ r, r < 10 ∨ 12 < r → ln D p r = D r := fun r hr => ln_o D p hr
  refine ⟨?_, CW_of w2 (e 0 (by omega)) (e 2 (by omega)) (e 3 (by omega)), LW_of w3 (e 16 (by omega))⟩
  have := ln_10 hp w1.2.2.2.2.2.2
  unfold DW at w1 ⊢
  rw [e 0 (by omega), e 3 (by omega), e 7 (by omega)]
  exact ⟨w1.1, w1.2.1, w1.2.2.1, w1.2.2.2.1, w1.2.2.2.2.1, w1.2.2.2.2.2.1, this⟩
theorem la_DI {D : Nat → Nat → Int} {Z : Nat} (w : DI D Z) : DI (la D 128) Z := by
  obtain ⟨w1, w2, w3⟩ := w
  have e : ∀ r, r < 10 ∨ 12 < r → la D 128 r = D r := fun r hr => la_o D hr 128
  refine ⟨?_, CW_of w2 (e 0 (by omega)) (e 2 (by omega)) (e 3 (by omega)), LW_of w3 (e 16 (by omega))⟩
  have := la_10 D 128 (by omega)
  unfold DW at w1 ⊢
  rw [e 0 (by omega), e 3 (by omega), e 7 (by omega)]
  exact ⟨w1.1, w1.2.1, w1.2.2.1, w1.2.2.2.1, w1.2.2.2.2.1, w1.2.2.2.2.2.1, this⟩
theorem o_ap3_DI {D : Nat → Nat → Int} {Z z : Nat} {key val num : Int} (w : DI D Z) (hz : z < Z) (h3 : D 3 z < D 0 1) (hk : 0 ≤ key ∧ key < 32) : DI (o_ap3 D z key val num) Z := dup_DI (dup_DI (o_ap2_DI w hz h3 hk) _ _ _ (by omega)) _ _ _ (by omega)
theorem o_ap4_DI {D : Nat → Nat → Int} {Z z : Nat} {key val num : Int} (sort : Nat) (w : DI D Z) (hz : z < Z) (h3 : D 3 z < D 0 1) (hk : 0 ≤ key ∧ key < 32) : DI (o_ap4 D z key val num sort) Z := by
  have hp := w.1.2.2.2.2.1 z (by have := w.1.2.1; omega)
  have hc := w.1.2.2.1
  have := w.1.2.1
  exact dup_DI (ln_DI (o_ap3_DI w hz h3 hk) (by omega)) _ _ _ (by omega)
theorem o_ap_DI {D : Nat → Nat → Int} {Z z : Nat} {key val num : Int} (sort : Nat) (w : DI D Z) (hz : z < Z) (h3 : D 3 z < D 0 1) (hk : 0 ≤ key ∧ key < 32) : DI (o_ap D z key val num sort) Z := lga_DI (o_ap4_DI sort w hz h3 hk) _ _ _
theorem o_at1_DI {D : Nat → Nat → Int} {Z : Nat} (w : DI D Z) (s : Nat) : DI (o_at1 D Z s) Z := by
  unfold o_at1
  split
  · exact o_tk_DI w s
  · exact w
theorem o_at1_0 (D : Nat → Nat → Int) (Z s : Nat) : o_at1 D Z s 0 = D 0 := by
  unfold o_at1 o_tk
  split
  · rw [dup_o _ _ _ (by omega), o_tk0_o _ _ (by omega) (by omega) (by omega)]
  · rfl
theorem o_at2_DI {E : Nat → Nat → Int} {Z s : Nat} (w : DI E Z) (hl : cd_lz E s = false) : DI (o_at2 E Z s) Z := by
  unfold o_at2
  split
  · exact w
  · exact o_op_DI w (fun hz => (w.2.1 _ hz).2 (cd_lz_no hl).2)
theorem o_at2_o (E : Nat → Nat → Int) (Z s : Nat) {r : Nat} (h1 : r ≠ 1) (h2 : r ≠ 2) (hr : r < 13 ∨ 16 < r) : o_at2 E Z s r = E r := by
  unfold o_at2 o_op
  split
  · rfl
  · rw [dup_o _ _ _ h2, o_op0_o _ _ h1 h2 hr]
theorem o_at_DI {D : Nat → Nat → Int} {Z s : Nat} {key val num : Int} (sort : Nat) (w : DI D Z) (hk : 0 ≤ key ∧ key < 32) : DI (o_at D Z s key val num sort) Z := by
  have w1 := o_at1_DI w s
  unfold o_at
  cases e : cd_lz (o_at1 D Z s) s with
  | true => exact w1
  | false =>
    have h1 := cd_lz_no e
    have hZ := w1.1.1
    have hz : (o_at1 D Z s 6 s).toNat < Z := by omega
    refine o_ap_DI sort (o_at2_DI w1 e) hz ?_ hk
    rw [o_at2_o _ _ _ (by omega) (by omega) (by omega), o_at2_o _ _ _ (by omega) (by omega) (by omega)]
    exact (w1.2.1 _ hz).2 h1.2
section DRV8
variable {d : Nat} {D : Nat → Nat → Int} {h : am_H} {Z : Nat}
/-- the block is laid: from 49 on -/
theorem d_app49 (w : DI D Z) {z : Nat} (hz : z < Z) (h3 : D 3 z < D 0 1) {key : Int} (hk : 0 ≤ key ∧ key < 32) (val num : Int) (s : Int) {sort : Nat} (hs : sort < 2) : am_run am_ms 98 49 [am_R d, am_I s, am_I key, am_I val, am_I num, am_I sort, am_I z, am_K 1] [] (dv d D h) = some (some (am_I ((16 * z + (D 3 z).toNat : Nat) : Int)), dv d (o_ap D z key val num sort) h) := by
  have hp := w.1.2.2.2.2.1 z (by have := w.1.2.1; omega)
  have hc := w.1.2.2.1
  have hZ8 := w.1.2.1
  obtain ⟨P, hP⟩ : ∃ P : Nat, D 3 z = P := ⟨(D 3 z).toNat, by omega⟩
  have ew : am_w (am_w ((z : Int) * 16) + (P : Int)) = ((16 * z + P : Nat) : Int) := by rw [am_w_id (x := (z : Int) * 16) (by omega) (by omega), am_w_id (by omega) (by omega)]; omega
  have ew1 : am_w ((P : Int) + 1) = (P : Int) + 1 := am_w_id (by omega) (by omega)
  have w3 := o_ap3_DI (val := val) (num := num) w hz h3 hk
  have e37 : o_ap3 D z key val num 7 = va_up (D 7) (16 * z + P) key := by rw [o_ap3_o _ _ _ _ _ (by omega), o_ap2_o _ _ _ _ _ (by omega), o_ap1_7, hP, Int.toNat_natCast]
  have c1 := d_learn (d := d) (h := h) w3.1.2.2.2.2.2.2 (p := 16 * z + P) (by omega) (by rw [e37, va_up_self]; exact hk)
  have e41 : ln (o_ap3 D z key val num) (16 * z + P) 1 sort = D 1 sort := by
    rw [ln_o _ _ (by omega)]
    unfold o_ap3
    rw [dup_o _ _ _ (by omega), dup_t, va_up_ne _ _ (by omega), o_ap2_o _ _ _ _ _ (by omega), o_ap1_o _ _ _ _ _ (by omega)]
  have w4 := (o_ap4_DI (val := val) (num := num) sort w hz h3 hk).2.2
  have c2 := fun x y t => l_add (d := d) (h := h) w4 x y t
  have eP : (D 3 z).toNat = P := by omega
  unfold o_ap
  unfold o_ap4 at c2 w4 ⊢
  rw [eP] at c2 w4 ⊢
  unfold o_ap3 at c1 c2 e41 w4 ⊢
  unfold o_ap2 at c1 c2 e41 w4 ⊢
  by_cases e1 : D 3 z + 1 < D 0 1
  · rw [if_pos e1] at c1 c2 e41 w4 ⊢
    unfold o_ap1 at c1 c2 e41 w4 ⊢
    rw [eP, hP] at c1 c2 e41 w4 ⊢
    simp (disch := omega) only [en_98, bk_98_0, bk_98_13, bk_98_24, bk_98_49, bk_98_72, bk_98_96, bk_98_117, bk_98_124, bk_98_145, bk_98_165, hP, ew, ew1, c1, c2, e41, dv_f0, dv_f1, dv_f2, dv_f3, dv_f4, dv_f5, dv_f6, dv_f7, dv_f8, dv_f9, dv_f10, dv_f11, dv_f12, dv_f13, dv_g0, dv_g1, dv_g2, dv_i0, dv_i1, dv_p0, dv_p1, dv_isc, dv_iscL, dv_r0, dv_r1, dv_r2, dv_r3, dv_r4, dv_r5, dv_r6, dv_r7, dv_r8, dv_r9, dv_r10, dv_r11, dv_r12, dv_r13, dv_r14, dv_r15, dv_w0, dv_w1, dv_w2, dv_w3, dv_w4, dv_w5, dv_w6, dv_w7, dv_w8, dv_w9, dv_w10, dv_w11, dv_w12, dv_w13, dv_w14, dv_w15, dup_t, dup_o, va_up_self, va_up_ne, drow_t, drow_o, Option.bind_some, Bool.cond_decide, am_oI_some, am_oV_some, am_oI_ite, am_oV_ite, am_bind_ite, Int.toNat_natCast, Int.toNat_zero, Int.reduceToNat, ite_true, ite_false, not_true_eq_false, not_false_eq_true, decide_true, decide_false, decide_eq_true_eq, Bool.false_eq_true, Nat.add_zero, am_rok1_0, am_rok1_1, cond_true, cond_false, am_w_nat1, true_or, or_true, false_or, or_false, true_and, and_true, false_and, and_false, Int.reduceEq, Int.reduceNeg, Int.reduceLT, Int.reduceLE, or_self, and_self, if_pos, if_neg]
  · rw [if_neg e1] at c1 c2 e41 w4 ⊢
    unfold o_ap1 at c1 c2 e41 w4 ⊢
    rw [eP, hP] at c1 c2 e41 w4 ⊢
    simp (disch := omega) only [en_98, bk_98_0, bk_98_13, bk_98_24, bk_98_49, bk_98_72, bk_98_96, bk_98_117, bk_98_124, bk_98_145, bk_98_165, hP, ew, ew1, c1, c2, e41, dv_f0, dv_f1, dv_f2, dv_f3, dv_f4, dv_f5, dv_f6, dv_f7, dv_f8, dv_f9, dv_f10, dv_f11, dv_f12, dv_f13, dv_g0, dv_g1, dv_g2, dv_i0, dv_i1, dv_p0, dv_p1, dv_isc, dv_iscL, dv_r0, dv_r1, dv_r2, dv_r3, dv_r4, dv_r5, dv_r6, dv_r7, dv_r8, dv_r9, dv_r10, dv_r11, dv_r12, dv_r13, dv_r14, dv_r15, dv_w0, dv_w1, dv_w2, dv_w3, dv_w4, dv_w5, dv_w6, dv_w7, dv_w8, dv_w9, dv_w10, dv_w11, dv_w12, dv_w13, dv_w14, dv_w15, dup_t, dup_o, va_up_self, va_up_ne, drow_t, drow_o, Option.bind_some, Bool.cond_decide, am_oI_some, am_oV_some, am_oI_ite, am_oV_ite, am_bind_ite, Int.toNat_natCast, Int.toNat_zero, Int.reduceToNat, ite_true, ite_false, not_true_eq_false, not_false_eq_true, decide_true, decide_false, decide_eq_true_eq, Bool.false_eq_true, Nat.add_zero, am_rok1_0, am_rok1_1, cond_true, cond_false, am_w_nat1, true_or, or_true, false_or, or_false, true_and, and_true, false_and, and_false, Int.reduceEq, Int.reduceNeg, Int.reduceLT, Int.reduceLE, or_self, and_self, if_pos, if_neg]
theorem d_appendTo (w : DI D Z) {s : Nat} (hs : (s : Int) < D 0 4) {key : Int} (hk : 0 ≤ key ∧ key < 32) (val num : Int) {sort : Nat} (hso : sort < 2) : am_cI 98 [am_R d, am_I s, am_I key, am_I val, am_I num, am_I sort] (dv d D h) = some (v_at D Z s, dv d (o_at D Z s key val num sort) h) := by
  have h4 := w.1.2.2.2.1
  have w1 := o_at1_DI w s
  have c1 := d_lacksZone (d := d) (h := h) w.1 hs
  have c2 := d_takeZone (d := d) (h := h) w hs
  have c3 := d_lacksZone (d := d) (h := h) w1.1 (s := s) (by rw [o_at1_0]; exact hs)
  have key13 : am_oI (am_run am_ms 98 13 [am_R d, am_I s, am_I key, am_I val, am_I num, am_I sort, am_K 1, am_K 1] [] (dv d (o_at1 D Z s) h)) = some (v_at D Z s, dv d (o_at D Z s key val num sort) h) := by
    unfold v_at o_at
    generalize o_at1 D Z s = E at w1 c3 ⊢
    cases e : cd_lz E s with
    | true =>
      rw [e] at c3
      simp (disch := omega) only [bk_98_13, c3, dv_f0, dv_f1, dv_f2, dv_f3, dv_f4, dv_f5, dv_f6, dv_f7, dv_f8, dv_f9, dv_f10, dv_f11, dv_f12, dv_f13, dv_g0, dv_g1, dv_g2, dv_i0, dv_i1, dv_p0, dv_p1, dv_isc, dv_iscL, dv_r0, dv_r1, dv_r2, dv_r3, dv_r4, dv_r5, dv_r6, dv_r7, dv_r8, dv_r9, dv_r10, dv_r11, dv_r12, dv_r13, dv_r14, dv_r15, dv_w0, dv_w1, dv_w2, dv_w3, dv_w4, dv_w5, dv_w6, dv_w7, dv_w8, dv_w9, dv_w10, dv_w11, dv_w12, dv_w13, dv_w14, dv_w15, dup_t, dup_o, va_up_self, va_up_ne, drow_t, drow_o, Option.bind_some, Bool.cond_decide, am_oI_some, am_oV_some, am_oI_ite, am_oV_ite, am_bind_ite, Int.toNat_natCast, Int.toNat_zero, Int.reduceToNat, ite_true, ite_false, not_true_eq_false, not_false_eq_true, decide_true, decide_false, decide_eq_true_eq, Bool.false_eq_true, Nat.add_zero, am_rok1_0, am_rok1_1, cond_true, cond_false, am_w_nat1, true_or, or_true, false_or, or_false, true_and, and_true, false_and, and_false, Int.reduceEq, Int.reduceNeg, Int.reduceLT, Int.reduceLE, or_self, and_self, if_pos, if_neg]
    | false =>
      rw [e] at c3
      have h1 := cd_lz_no e
      have hZ := w1.1.1
      have hZ8 := w1.1.2.1
      obtain ⟨z, hz⟩ : ∃ z : Nat, E 6 s = z := ⟨(E 6 s).toNat, by omega⟩
      have hzZ : z < Z := by omega
      rw [hz, Int.toNat_natCast] at h1
      have c4 := d_openToAppend (d := d) (h := h) w1 (z := z) (by omega)
      have c5 := d_app49 (d := d) (h := h) (o_at2_DI w1 e) hzZ (by rw [o_at2_o _ _ _ (by omega) (by omega) (by omega), o_at2_o _ _ _ (by omega) (by omega) (by omega)]; exact (w1.2.1 z hzZ).2 h1.2) hk val num s hso
      have e3 : o_at2 E Z s 3 = E 3 := o_at2_o _ _ _ (by omega) (by omega) (by omega)
      rw [e3] at c5
      rw [hz, Int.toNat_natCast]
      unfold o_at2 at c5 ⊢
      rw [hz, Int.toNat_natCast] at c5 ⊢
      by_cases e2 : E 2 z = 1
      · rw [if_pos e2] at c5 ⊢
        simp (disch := omega) only [bk_98_13, bk_98_24, c3, hz, e2, c5, dv_f0, dv_f1, dv_f2, dv_f3, dv_f4, dv_f5, dv_f6, dv_f7, dv_f8, dv_f9, dv_f10, dv_f11, dv_f12, dv_f13, dv_g0, dv_g1, dv_g2, dv_i0, dv_i1, dv_p0, dv_p1, dv_isc, dv_iscL, dv_r0, dv_r1, dv_r2, dv_r3, dv_r4, dv_r5, dv_r6, dv_r7, dv_r8, dv_r9, dv_r10, dv_r11, dv_r12, dv_r13, dv_r14, dv_r15, dv_w0, dv_w1, dv_w2, dv_w3, dv_w4, dv_w5, dv_w6, dv_w7, dv_w8, dv_w9, dv_w10, dv_w11, dv_w12, dv_w13, dv_w14, dv_w15, dup_t, dup_o, va_up_self, va_up_ne, drow_t, drow_o, Option.bind_some, Bool.cond_decide, am_oI_some, am_oV_some, am_oI_ite, am_oV_ite, am_bind_ite, Int.toNat_natCast, Int.toNat_zero, Int.reduceToNat, ite_true, ite_false, not_true_eq_false, not_false_eq_true, decide_true, decide_false, decide_eq_true_eq, Bool.false_eq_true, Nat.add_zero, am_rok1_0, am_rok1_1, cond_true, cond_false, am_w_nat1, true_or, or_true, false_or, or_false, true_and, and_true, false_and, and_false, Int.reduceEq, Int.reduceNeg, Int.reduceLT, Int.reduceLE, or_self, and_self, if_pos, if_neg]
      · rw [if_neg e2] at c5 ⊢
        simp (disch := omega) only [bk_98_13, bk_98_24, c3, hz, e2, c4, c5, dv_f0, dv_f1, dv_f2, dv_f3, dv_f4, dv_f5, dv_f6, dv_f7, dv_f8, dv_f9, dv_f10, dv_f11, dv_f12, dv_f13, dv_g0, dv_g1, dv_g2, dv_i0, dv_i1, dv_p0, dv_p1, dv_isc, dv_iscL, dv_r0, dv_r1, dv_r2, dv_r3, dv_r4, dv_r5, dv_r6, dv_r7, dv_r8, dv_r9, dv_r10, dv_r11, dv_r12, dv_r13, dv_r14, dv_r15, dv_w0, dv_w1, dv_w2, dv_w3, dv_w4, dv_w5, dv_w6, dv_w7, dv_w8, dv_w9, dv_w10, dv_w11, dv_w12, dv_w13, dv_w14, dv_w15, dup_t, dup_o, va_up_self, va_up_ne, drow_t, drow_o, Option.bind_some, Bool.cond_decide, am_oI_some, am_oV_some, am_oI_ite, am_oV_ite, am_bind_ite, Int.toNat_natCast, Int.toNat_zero, Int.reduceToNat, ite_true, ite_false, not_true_eq_false, not_false_eq_true, decide_true, decide_false, decide_eq_true_eq, Bool.false_eq_true, Nat.add_zero, am_rok1_0, am_rok1_1, cond_true, cond_false, am_w_nat1, true_or, or_true, false_or, or_false, true_and, and_true, false_and, and_false, Int.reduceEq, Int.reduceNeg, Int.reduceLT, Int.reduceLE, or_self, and_self, if_pos, if_neg]
  rw [am_cI, en_98, bk_98_0]
  unfold o_at1 at key13
  cases e : cd_lz D s with
  | true =>
    rw [e] at c1 key13
    rw [if_pos rfl] at key13
    simp (disch := omega) only [c1, c2, key13, dv_f0, dv_f1, dv_f2, dv_f3, dv_f4, dv_f5, dv_f6, dv_f7, dv_f8, dv_f9, dv_f10, dv_f11, dv_f12, dv_f13, dv_g0, dv_g1, dv_g2, dv_i0, dv_i1, dv_p0, dv_p1, dv_isc, dv_iscL, dv_r0, dv_r1, dv_r2, dv_r3, dv_r4, dv_r5, dv_r6, dv_r7, dv_r8, dv_r9, dv_r10, dv_r11, dv_r12, dv_r13, dv_r14, dv_r15, dv_w0, dv_w1, dv_w2, dv_w3, dv_w4, dv_w5, dv_w6, dv_w7, dv_w8, dv_w9, dv_w10, dv_w11, dv_w12, dv_w13, dv_w14, dv_w15, dup_t, dup_o, va_up_self, va_up_ne, drow_t, drow_o, Option.bind_some, Bool.cond_decide, am_oI_some, am_oV_some, am_oI_ite, am_oV_ite, am_bind_ite, Int.toNat_natCast, Int.toNat_zero, Int.reduceToNat, ite_true, ite_false, not_true_eq_false, not_false_eq_true, decide_true, decide_false, decide_eq_true_eq, Bool.false_eq_true, Nat.add_zero, am_rok1_0, am_rok1_1, cond_true, cond_false, am_w_nat1, true_or, or_true, false_or, or_false, true_and, and_true, false_and, and_false, Int.reduceEq, Int.reduceNeg, Int.reduceLT, Int.reduceLE, or_self, and_self, if_pos, if_neg]
  | false =>
    rw [e] at c1 key13
    rw [if_neg (by decide)] at key13
    simp (disch := omega) only [c1, c2, key13, dv_f0, dv_f1, dv_f2, dv_f3, dv_f4, dv_f5, dv_f6, dv_f7, dv_f8, dv_f9, dv_f10, dv_f11, dv_f12, dv_f13, dv_g0, dv_g1, dv_g2, dv_i0, dv_i1, dv_p0, dv_p1, dv_isc, dv_iscL, dv_r0, dv_r1, dv_r2, dv_r3, dv_r4, dv_r5, dv_r6, dv_r7, dv_r8, dv_r9, dv_r10, dv_r11, dv_r12, dv_r13, dv_r14, dv_r15, dv_w0, dv_w1, dv_w2, dv_w3, dv_w4, dv_w5, dv_w6, dv_w7, dv_w8, dv_w9, dv_w10, dv_w11, dv_w12, dv_w13, dv_w14, dv_w15, dup_t, dup_o, va_up_self, va_up_ne, drow_t, drow_o, Option.bind_some, Bool.cond_decide, am_oI_some, am_oV_some, am_oI_ite, am_oV_ite, am_bind_ite, Int.toNat_natCast, Int.toNat_zero, Int.reduceToNat, ite_true, ite_false, not_true_eq_false, not_false_eq_true, decide_true, decide_false, decide_eq_true_eq, Bool.false_eq_true, Nat.add_zero, am_rok1_0, am_rok1_1, cond_true, cond_false, am_w_nat1, true_or, or_true, false_or, or_false, true_and, and_true, false_and, and_false, Int.reduceEq, Int.reduceNeg, Int.reduceLT, Int.reduceLE, or_self, and_self, if_pos, if_neg]
end DRV8
