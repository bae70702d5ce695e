/-! ===== what the class's drive does: appending, emptying ===== -/
/-- pointers and states fit -/
def CW (D : Nat → Nat → Int) (Z : Nat) : Prop := ∀ z, z < Z → D 3 z ≤ D 0 1 ∧ (¬ D 2 z = 3 → D 3 z < D 0 1)
def DI (D : Nat → Nat → Int) (Z : Nat) : Prop := DW D Z ∧ CW D Z ∧ LW D
theorem DW_of {D E : Nat → Nat → Int} {Z : Nat} (w : DW D Z) (e0 : E 0 = D 0) (e3 : E 3 = D 3) (e7 : E 7 = D 7) (e10 : E 10 = D 10) : DW E Z := by
  unfold DW at w ⊢
  rw [e0, e3, e7, e10]
  exact w
theorem CW_of {D E : Nat → Nat → Int} {Z : Nat} (w : CW D Z) (e0 : E 0 = D 0) (e2 : E 2 = D 2) (e3 : E 3 = D 3) : CW E Z := by
  unfold CW at w ⊢
  rw [e0, e2, e3]
  exact w
theorem LW_of {D E : Nat → Nat → Int} (w : LW D) (e : E 16 = D 16) : LW E := by
  unfold LW at w ⊢
  rw [e]
  exact w
theorem DI_of {D E : Nat → Nat → Int} {Z : Nat} (w : DI D Z) (e0 : E 0 = D 0) (e2 : E 2 = D 2) (e3 : E 3 = D 3) (e7 : E 7 = D 7) (e10 : E 10 = D 10) (e16 : E 16 = D 16) : DI E Z := ⟨DW_of w.1 e0 e3 e7 e10, CW_of w.2.1 e0 e2 e3, LW_of w.2.2 e16⟩
theorem lga_o (D : Nat → Nat → Int) (s z a : Int) {r : Nat} (hr : r < 13 ∨ 16 < r) : lga D s z a r = D r := by
  unfold lga
  rw [dup_o _ _ _ (by omega), dup_o _ _ _ (by omega), dup_o _ _ _ (by omega), dup_o _ _ _ (by omega), dup_o _ _ _ (by omega)]
theorem lgu_lt {D : Nat → Nat → Int} (w : LW D) : lgu D < 60 := by
  unfold lgu
  unfold LW at w
  split <;> omega
theorem lga_LW {D : Nat → Nat → Int} (w : LW D) (s z a : Int) : LW (lga D s z a) := by
  have hu := lgu_lt w
  unfold LW at w ⊢
  have e0 : lga D s z a 16 0 = lgu D + 1 := by unfold lga; rw [dup_t, va_up_ne _ _ (by omega), dup_t, va_up_self]
  have e1 : lga D s z a 16 1 = if D 16 1 < 60 then D 16 1 + 1 else D 16 1 := by unfold lga; rw [dup_t, va_up_self]
  rw [e0, e1]
  refine ⟨⟨by omega, by omega⟩, ?_⟩
  split <;> omega
theorem lga_DI {D : Nat → Nat → Int} {Z : Nat} (w : DI D Z) (s z a : Int) : DI (lga D s z a) Z := ⟨DW_of w.1 (lga_o _ _ _ _ (by omega)) (lga_o _ _ _ _ (by omega)) (lga_o _ _ _ _ (by omega)) (lga_o _ _ _ _ (by omega)), CW_of w.2.1 (lga_o _ _ _ _ (by omega)) (lga_o _ _ _ _ (by omega)) (lga_o _ _ _ _ (by omega)), lga_LW w.2.2 s z a⟩
theorem dup_DI {D : Nat → Nat → Int} {Z : Nat} (w : DI D Z) (r j : Nat) (x : Int) (hr : r = 1 ∨ r = 4 ∨ r = 5 ∨ r = 6 ∨ r = 8 ∨ r = 9) : DI (dup D r j x) Z := DI_of w (dup_o _ _ _ (by omega)) (dup_o _ _ _ (by omega)) (dup_o _ _ _ (by omega)) (dup_o _ _ _ (by omega)) (dup_o _ _ _ (by omega)) (dup_o _ _ _ (by omega))
/-- a state is set -/
theorem st_DI {D : Nat → Nat → Int} {Z : Nat} (w : DI D Z) {z : Nat} {x : Int} (hx : x = 3 ∨ (z < Z → D 3 z < D 0 1)) : DI (dup D 2 z x) Z := by
  refine ⟨DW_of w.1 (dup_o _ _ _ (by omega)) (dup_o _ _ _ (by omega)) (dup_o _ _ _ (by omega)) (dup_o _ _ _ (by omega)), ?_, LW_of w.2.2 (dup_o _ _ _ (by omega))⟩
  intro y hy
  have h1 := w.2.1 y hy
  rw [dup_o _ _ _ (by omega), dup_o _ _ _ (by omega), dup_t]
  refine ⟨h1.1, ?_⟩
  intro h2
  by_cases e : y = z
  · subst e
    rw [va_up_self] at h2
    exact hx.resolve_left h2 hy
  · rw [va_up_ne _ _ e] at h2
    exact h1.2 h2
def o_cl (D : Nat → Nat → Int) (z : Nat) : Nat → Nat → Int := lga (dup D 2 z (if D 3 z = 0 then 0 else 2)) 5 z (D 3 z)
def o_fi (D : Nat → Nat → Int) (z : Nat) : Nat → Nat → Int := lga (dup D 2 z 3) 3 z (D 3 z)
theorem o_cl_DI {D : Nat → Nat → Int} {Z : Nat} (w : DI D Z) {z : Nat} (hz : D 2 z = 1) : DI (o_cl D z) Z := lga_DI (st_DI w (Or.inr (fun h => (w.2.1 z h).2 (by omega)))) _ _ _
theorem o_fi_DI {D : Nat → Nat → Int} {Z : Nat} (w : DI D Z) (z : Nat) : DI (o_fi D z) Z := lga_DI (st_DI w (Or.inl rfl)) _ _ _
section DRV6
variable {d : Nat} {D : Nat → Nat → Int} {h : am_H} {Z : Nat}
theorem d_stateWhenClosed {z : Nat} (hz : z < 8) : am_cI 95 [am_R d, am_I z] (dv d D h) = some (if D 3 z = 0 then 0 else 2, dv d D h) := by
  by_cases e : D 3 z = 0
  · rw [am_cI]; simp (disch := omega) only [en_95, bk_95_0, bk_95_13, bk_95_14, e, dv_f0, dv_f1, dv_f2, dv_f3, dv_f4, dv_f5, dv_f6, dv_f7, dv_f8, dv_f9, dv_f10, dv_f11, dv_f12, dv_f13, dv_g0, dv_g1, dv_g2, dv_i0, dv_i1, dv_p0, dv_p1, dv_isc, dv_iscL, dv_r0, dv_r1, dv_r2, dv_r3, dv_r4, dv_r5, dv_r6, dv_r7, dv_r8, dv_r9, dv_r10, dv_r11, dv_r12, dv_r13, dv_r14, dv_r15, Option.bind_some, Bool.cond_decide, am_oI_some, am_oV_some, am_oI_ite, am_oV_ite, am_bind_ite, Int.toNat_natCast, Int.toNat_zero, Int.reduceToNat, ite_true, ite_false, not_true_eq_false, not_false_eq_true, decide_true, decide_false, decide_eq_true_eq, Bool.false_eq_true, Nat.add_zero, am_rok1_0, am_rok1_1, cond_true, cond_false, am_w_nat1, true_or, or_true, false_or, or_false, true_and, and_true, false_and, and_false, Int.reduceEq, Int.reduceNeg, Int.reduceLT, Int.reduceLE, or_self, and_self, if_pos, if_neg]
  · rw [am_cI]; simp (disch := omega) only [en_95, bk_95_0, bk_95_13, bk_95_14, e, dv_f0, dv_f1, dv_f2, dv_f3, dv_f4, dv_f5, dv_f6, dv_f7, dv_f8, dv_f9, dv_f10, dv_f11, dv_f12, dv_f13, dv_g0, dv_g1, dv_g2, dv_i0, dv_i1, dv_p0, dv_p1, dv_isc, dv_iscL, dv_r0, dv_r1, dv_r2, dv_r3, dv_r4, dv_r5, dv_r6, dv_r7, dv_r8, dv_r9, dv_r10, dv_r11, dv_r12, dv_r13, dv_r14, dv_r15, Option.bind_some, Bool.cond_decide, am_oI_some, am_oV_some, am_oI_ite, am_oV_ite, am_bind_ite, Int.toNat_natCast, Int.toNat_zero, Int.reduceToNat, ite_true, ite_false, not_true_eq_false, not_false_eq_true, decide_true, decide_false, decide_eq_true_eq, Bool.false_eq_true, Nat.add_zero, am_rok1_0, am_rok1_1, cond_true, cond_false, am_w_nat1, true_or, or_true, false_or, or_false, true_and, and_true, false_and, and_false, Int.reduceEq, Int.reduceNeg, Int.reduceLT, Int.reduceLE, or_self, and_self, if_pos, if_neg]
theorem d_closeZone (w : LW D) {z : Nat} (hz : z < 8) : am_cV 96 [am_R d, am_I z] (dv d D h) = some (dv d (o_cl D z) h) := by
  have c1 := d_stateWhenClosed (d := d) (D := D) (h := h) hz
  have c2 := fun x s z a => l_add (d := d) (h := h) (D := dup D 2 z x) (LW_of w (dup_o _ _ _ (by omega))) s z a
  unfold o_cl
  rw [am_cV]; simp (disch := omega) only [en_96, bk_96_0, bk_96_22, c1, c2, dv_f0, dv_f1, dv_f2, dv_f3, dv_f4, dv_f5, dv_f6, dv_f7, dv_f8, dv_f9, dv_f10, dv_f11, dv_f12, dv_f13, dv_g0, dv_g1, dv_g2, dv_i0, dv_i1, dv_p0, dv_p1, dv_isc, dv_iscL, dv_r0, dv_r1, dv_r2, dv_r3, dv_r4, dv_r5, dv_r6, dv_r7, dv_r8, dv_r9, dv_r10, dv_r11, dv_r12, dv_r13, dv_r14, dv_r15, dv_w0, dv_w1, dv_w2, dv_w3, dv_w4, dv_w5, dv_w6, dv_w7, dv_w8, dv_w9, dv_w10, dv_w11, dv_w12, dv_w13, dv_w14, dv_w15, dup_t, dup_o, va_up_self, va_up_ne, drow_t, drow_o, Option.bind_some, Bool.cond_decide, am_oI_some, am_oV_some, am_oI_ite, am_oV_ite, am_bind_ite, Int.toNat_natCast, Int.toNat_zero, Int.reduceToNat, ite_true, ite_false, not_true_eq_false, not_false_eq_true, decide_true, decide_false, decide_eq_true_eq, Bool.false_eq_true, Nat.add_zero, am_rok1_0, am_rok1_1, cond_true, cond_false, am_w_nat1, true_or, or_true, false_or, or_false, true_and, and_true, false_and, and_false, Int.reduceEq, Int.reduceNeg, Int.reduceLT, Int.reduceLE, or_self, and_self, if_pos, if_neg]
theorem d_finishZone (w : LW D) {z : Nat} (hz : z < 8) : am_cV 91 [am_R d, am_I z] (dv d D h) = some (dv d (o_fi D z) h) := by
  unfold o_fi
  rw [am_cV]; simp (disch := omega) only [en_91, bk_91_0, bk_91_22, dv_f0, dv_f1, dv_f2, dv_f3, dv_f4, dv_f5, dv_f6, dv_f7, dv_f8, dv_f9, dv_f10, dv_f11, dv_f12, dv_f13, dv_g0, dv_g1, dv_g2, dv_i0, dv_i1, dv_p0, dv_p1, dv_isc, dv_iscL, dv_r0, dv_r1, dv_r2, dv_r3, dv_r4, dv_r5, dv_r6, dv_r7, dv_r8, dv_r9, dv_r10, dv_r11, dv_r12, dv_r13, dv_r14, dv_r15, dv_w0, dv_w1, dv_w2, dv_w3, dv_w4, dv_w5, dv_w6, dv_w7, dv_w8, dv_w9, dv_w10, dv_w11, dv_w12, dv_w13, dv_w14, dv_w15, dup_t, dup_o, va_up_self, va_up_ne, drow_t, drow_o, Option.bind_some, Bool.cond_decide, am_oI_some, am_oV_some, am_oI_ite, am_oV_ite, am_bind_ite, Int.toNat_natCast, Int.toNat_zero, Int.reduceToNat, ite_true, ite_false, not_true_eq_false, not_false_eq_true, decide_true, decide_false, decide_eq_true_eq, Bool.false_eq_true, Nat.add_zero, am_rok1_0, am_rok1_1, cond_true, cond_false, am_w_nat1, true_or, or_true, false_or, or_false, true_and, and_true, false_and, and_false, Int.reduceEq, Int.reduceNeg, Int.reduceLT, Int.reduceLE, or_self, and_self, if_pos, if_neg]
  rw [l_add (LW_of w (dup_o _ _ _ (by omega)))]
  simp (disch := omega) only [en_91, bk_91_0, bk_91_22, dv_f0, dv_f1, dv_f2, dv_f3, dv_f4, dv_f5, dv_f6, dv_f7, dv_f8, dv_f9, dv_f10, dv_f11, dv_f12, dv_f13, dv_g0, dv_g1, dv_g2, dv_i0, dv_i1, dv_p0, dv_p1, dv_isc, dv_iscL, dv_r0, dv_r1, dv_r2, dv_r3, dv_r4, dv_r5, dv_r6, dv_r7, dv_r8, dv_r9, dv_r10, dv_r11, dv_r12, dv_r13, dv_r14, dv_r15, dv_w0, dv_w1, dv_w2, dv_w3, dv_w4, dv_w5, dv_w6, dv_w7, dv_w8, dv_w9, dv_w10, dv_w11, dv_w12, dv_w13, dv_w14, dv_w15, dup_t, dup_o, va_up_self, va_up_ne, drow_t, drow_o, Option.bind_some, Bool.cond_decide, am_oI_some, am_oV_some, am_oI_ite, am_oV_ite, am_bind_ite, Int.toNat_natCast, Int.toNat_zero, Int.reduceToNat, ite_true, ite_false, not_true_eq_false, not_false_eq_true, decide_true, decide_false, decide_eq_true_eq, Bool.false_eq_true, Nat.add_zero, am_rok1_0, am_rok1_1, cond_true, cond_false, am_w_nat1, true_or, or_true, false_or, or_false, true_and, and_true, false_and, and_false, Int.reduceEq, Int.reduceNeg, Int.reduceLT, Int.reduceLE, or_self, and_self, if_pos, if_neg]
end DRV6
/-- the zones that are finished, or closed, for want -/
def o_tk0 (D : Nat → Nat → Int) (Z : Nat) : Nat → Nat → Int := if D 0 3 ≤ ((cd_many D Z 1 + cd_many D Z 2 : Nat) : Int) ∧ ¬ cd_zf D Z = -1 then dup (o_fi D (cd_zf D Z).toNat) 1 7 (am_w (D 1 7 + 1)) else D
def o_tk (D : Nat → Nat → Int) (Z s : Nat) : Nat → Nat → Int := dup (o_tk0 D Z) 6 s (cd_ez (o_tk0 D Z) Z)
def o_op0 (D : Nat → Nat → Int) (Z : Nat) : Nat → Nat → Int := if D 0 2 ≤ (cd_many D Z 1 : Int) ∧ ¬ cd_oz D Z = -1 then dup (o_cl D (cd_oz D Z).toNat) 1 6 (am_w (D 1 6 + 1)) else D
def o_op (D : Nat → Nat → Int) (Z z : Nat) : Nat → Nat → Int := dup (o_op0 D Z) 2 z 1
theorem fnd_le (P : Nat → Bool) (n : Nat) : -1 ≤ fnd P n ∧ fnd P n < n := by
  induction n with
  | zero => exact ⟨Int.le_refl _, by show (-1 : Int) < 0; omega⟩
  | succ n ih =>
    unfold fnd
    split
    · split <;> omega
    · omega
theorem fnd_is {P : Nat → Bool} {n : Nat} (h : ¬ fnd P n = -1) : P (fnd P n).toNat = true := by
  rcases first_or P n with hno | ⟨k, k1, k2, k3⟩
  · exact absurd (fnd_none hno) h
  · rw [fnd_at k2 k3 n k1, Int.toNat_natCast]
    exact k2
theorem cd_zf_le (D : Nat → Nat → Int) (Z : Nat) : -1 ≤ cd_zf D Z ∧ cd_zf D Z < Z := by
  unfold cd_zf
  split
  · exact bst_le _ _ _
  · exact fnd_le _ _
theorem cd_zf_act {D : Nat → Nat → Int} {Z : Nat} (h : ¬ cd_zf D Z = -1) : cd_act D (cd_zf D Z).toNat = true := by
  unfold cd_zf at h ⊢
  split at h
  · rename_i e
    rw [if_pos e]
    exact bst_at h
  · rename_i e
    rw [if_neg e]
    have := fnd_is h
    rw [Bool.and_eq_true] at this
    exact this.1
theorem o_tk0_DI {D : Nat → Nat → Int} {Z : Nat} (w : DI D Z) : DI (o_tk0 D Z) Z := by
  unfold o_tk0
  split
  · exact dup_DI (o_fi_DI w _) _ _ _ (by omega)
  · exact w
theorem o_tk_DI {D : Nat → Nat → Int} {Z : Nat} (w : DI D Z) (s : Nat) : DI (o_tk D Z s) Z := dup_DI (o_tk0_DI w) _ _ _ (by omega)
theorem o_op0_DI {D : Nat → Nat → Int} {Z : Nat} (w : DI D Z) : DI (o_op0 D Z) Z := by
  unfold o_op0
  split
  · rename_i e
    exact dup_DI (o_cl_DI w (of_decide_eq_true (bst_at e.2))) _ _ _ (by omega)
  · exact w
theorem o_cl_o (D : Nat → Nat → Int) (z : Nat) {r : Nat} (h2 : r ≠ 2) (hr : r < 13 ∨ 16 < r) : o_cl D z r = D r := by
  unfold o_cl
  rw [lga_o _ _ _ _ hr, dup_o _ _ _ h2]
theorem o_fi_o (D : Nat → Nat → Int) (z : Nat) {r : Nat} (h2 : r ≠ 2) (hr : r < 13 ∨ 16 < r) : o_fi D z r = D r := by
  unfold o_fi
  rw [lga_o _ _ _ _ hr, dup_o _ _ _ h2]
theorem o_op0_o (D : Nat → Nat → Int) (Z : Nat) {r : Nat} (h1 : r ≠ 1) (h2 : r ≠ 2) (hr : r < 13 ∨ 16 < r) : o_op0 D Z r = D r := by
  unfold o_op0
  split
  · rw [dup_o _ _ _ h1, o_cl_o _ _ h2 hr]
  · rfl
theorem o_tk0_o (D : Nat → Nat → Int) (Z : Nat) {r : Nat} (h1 : r ≠ 1) (h2 : r ≠ 2) (hr : r < 13 ∨ 16 < r) : o_tk0 D Z r = D r := by
  unfold o_tk0
  split
  · rw [dup_o _ _ _ h1, o_fi_o _ _ h2 hr]
  · rfl
theorem o_op_DI {D : Nat → Nat → Int} {Z : Nat} (w : DI D Z) {z : Nat} (hz : z < Z → D 3 z < D 0 1) : DI (o_op D Z z) Z := by
  refine st_DI (o_op0_DI w) (Or.inr ?_)
  rw [o_op0_o _ _ (by omega) (by omega) (by omega), o_op0_o _ _ (by omega) (by omega) (by omega)]
  exact hz
section DRV7
variable {d : Nat} {D : Nat → Nat → Int} {h : am_H} {Z : Nat}
theorem d_takeZone (w : DI D Z) {s : Nat} (hs : (s : Int) < D 0 4) : am_cV 93 [am_R d, am_I s] (dv d D h) = some (dv d (o_tk D Z s) h) := by
  have h4 := w.1.2.2.2.1
  have hZ8 := w.1.2.1
  have c1 : am_cI 72 [am_R d, am_I s] (dv d D h) = some (1, dv d D h) := by rw [c_hasStream, if_pos ⟨by omega, hs⟩]
  have c2 := d_countActive (d := d) (h := h) w.1
  have c3 := d_zoneToFinish (d := d) (h := h) w.1
  have hb := cd_zf_le D Z
  unfold o_tk
  have c4 := d_emptyZoneLeastReset (d := d) (h := h) (o_tk0_DI w).1
  unfold o_tk0 at c4 ⊢
  by_cases e1 : D 0 3 ≤ ((cd_many D Z 1 + cd_many D Z 2 : Nat) : Int)
  · by_cases e2 : cd_zf D Z = -1
    · rw [if_neg (by omega)] at c4 ⊢
      rw [am_cV]; simp (disch := omega) only [en_93, bk_93_0, bk_93_9, bk_93_33, bk_93_48, c1, c2, c3, c4, e2, dv_f0, dv_f1, dv_f2, dv_f3, dv_f4, dv_f5, dv_f6, dv_f7, dv_f8, dv_f9, dv_f10, dv_f11, dv_f12, dv_f13, dv_g0, dv_g1, dv_g2, dv_i0, dv_i1, dv_p0, dv_p1, dv_isc, dv_iscL, dv_r0, dv_r1, dv_r2, dv_r3, dv_r4, dv_r5, dv_r6, dv_r7, dv_r8, dv_r9, dv_r10, dv_r11, dv_r12, dv_r13, dv_r14, dv_r15, dv_w0, dv_w1, dv_w2, dv_w3, dv_w4, dv_w5, dv_w6, dv_w7, dv_w8, dv_w9, dv_w10, dv_w11, dv_w12, dv_w13, dv_w14, dv_w15, dup_t, dup_o, va_up_self, va_up_ne, drow_t, drow_o, Option.bind_some, Bool.cond_decide, am_oI_some, am_oV_some, am_oI_ite, am_oV_ite, am_bind_ite, Int.toNat_natCast, Int.toNat_zero, Int.reduceToNat, ite_true, ite_false, not_true_eq_false, not_false_eq_true, decide_true, decide_false, decide_eq_true_eq, Bool.false_eq_true, Nat.add_zero, am_rok1_0, am_rok1_1, cond_true, cond_false, am_w_nat1, true_or, or_true, false_or, or_false, true_and, and_true, false_and, and_false, Int.reduceEq, Int.reduceNeg, Int.reduceLT, Int.reduceLE, or_self, and_self, if_pos, if_neg]
    · rw [if_pos ⟨e1, e2⟩] at c4 ⊢
      obtain ⟨k, hk⟩ : ∃ k : Nat, cd_zf D Z = k := ⟨(cd_zf D Z).toNat, by omega⟩
      rw [hk, Int.toNat_natCast] at c4
      rw [hk] at c3
      rw [hk, Int.toNat_natCast]
      have c5 := d_finishZone (d := d) (h := h) w.2.2 (z := k) (by omega)
      have e17 : o_fi D k 1 = D 1 := o_fi_o _ _ (by omega) (by omega)
      rw [am_cV]; simp (disch := omega) only [en_93, bk_93_0, bk_93_9, bk_93_33, bk_93_48, c1, c2, c3, c5, e17, c4, dv_f0, dv_f1, dv_f2, dv_f3, dv_f4, dv_f5, dv_f6, dv_f7, dv_f8, dv_f9, dv_f10, dv_f11, dv_f12, dv_f13, dv_g0, dv_g1, dv_g2, dv_i0, dv_i1, dv_p0, dv_p1, dv_isc, dv_iscL, dv_r0, dv_r1, dv_r2, dv_r3, dv_r4, dv_r5, dv_r6, dv_r7, dv_r8, dv_r9, dv_r10, dv_r11, dv_r12, dv_r13, dv_r14, dv_r15, dv_w0, dv_w1, dv_w2, dv_w3, dv_w4, dv_w5, dv_w6, dv_w7, dv_w8, dv_w9, dv_w10, dv_w11, dv_w12, dv_w13, dv_w14, dv_w15, dup_t, dup_o, va_up_self, va_up_ne, drow_t, drow_o, Option.bind_some, Bool.cond_decide, am_oI_some, am_oV_some, am_oI_ite, am_oV_ite, am_bind_ite, Int.toNat_natCast, Int.toNat_zero, Int.reduceToNat, ite_true, ite_false, not_true_eq_false, not_false_eq_true, decide_true, decide_false, decide_eq_true_eq, Bool.false_eq_true, Nat.add_zero, am_rok1_0, am_rok1_1, cond_true, cond_false, am_w_nat1, true_or, or_true, false_or, or_false, true_and, and_true, false_and, and_false, Int.reduceEq, Int.reduceNeg, Int.reduceLT, Int.reduceLE, or_self, and_self, if_pos, if_neg]
  · rw [if_neg (by omega)] at c4 ⊢
    rw [am_cV]; simp (disch := omega) only [en_93, bk_93_0, bk_93_9, bk_93_33, bk_93_48, c1, c2, c3, c4, dv_f0, dv_f1, dv_f2, dv_f3, dv_f4, dv_f5, dv_f6, dv_f7, dv_f8, dv_f9, dv_f10, dv_f11, dv_f12, dv_f13, dv_g0, dv_g1, dv_g2, dv_i0, dv_i1, dv_p0, dv_p1, dv_isc, dv_iscL, dv_r0, dv_r1, dv_r2, dv_r3, dv_r4, dv_r5, dv_r6, dv_r7, dv_r8, dv_r9, dv_r10, dv_r11, dv_r12, dv_r13, dv_r14, dv_r15, dv_w0, dv_w1, dv_w2, dv_w3, dv_w4, dv_w5, dv_w6, dv_w7, dv_w8, dv_w9, dv_w10, dv_w11, dv_w12, dv_w13, dv_w14, dv_w15, dup_t, dup_o, va_up_self, va_up_ne, drow_t, drow_o, Option.bind_some, Bool.cond_decide, am_oI_some, am_oV_some, am_oI_ite, am_oV_ite, am_bind_ite, Int.toNat_natCast, Int.toNat_zero, Int.reduceToNat, ite_true, ite_false, not_true_eq_false, not_false_eq_true, decide_true, decide_false, decide_eq_true_eq, Bool.false_eq_true, Nat.add_zero, am_rok1_0, am_rok1_1, cond_true, cond_false, am_w_nat1, true_or, or_true, false_or, or_false, true_and, and_true, false_and, and_false, Int.reduceEq, Int.reduceNeg, Int.reduceLT, Int.reduceLE, or_self, and_self, if_pos, if_neg]
theorem d_openToAppend (w : DI D Z) {z : Nat} (hz : z < 8) : am_cV 97 [am_R d, am_I z] (dv d D h) = some (dv d (o_op D Z z) h) := by
  have hZ8 := w.1.2.1
  have c2 := d_countOf (d := d) (h := h) w.1 1
  have c3 := d_openZoneLeftLongest (d := d) (h := h) w.1
  have hb : -1 ≤ cd_oz D Z ∧ cd_oz D Z < Z := bst_le _ _ _
  unfold o_op o_op0
  by_cases e1 : D 0 2 ≤ (cd_many D Z 1 : Int)
  · by_cases e2 : cd_oz D Z = -1
    · rw [if_neg (by omega)]
      rw [am_cV]; simp (disch := omega) only [en_97, bk_97_0, bk_97_24, bk_97_40, c2, c3, e2, dv_f0, dv_f1, dv_f2, dv_f3, dv_f4, dv_f5, dv_f6, dv_f7, dv_f8, dv_f9, dv_f10, dv_f11, dv_f12, dv_f13, dv_g0, dv_g1, dv_g2, dv_i0, dv_i1, dv_p0, dv_p1, dv_isc, dv_iscL, dv_r0, dv_r1, dv_r2, dv_r3, dv_r4, dv_r5, dv_r6, dv_r7, dv_r8, dv_r9, dv_r10, dv_r11, dv_r12, dv_r13, dv_r14, dv_r15, dv_w0, dv_w1, dv_w2, dv_w3, dv_w4, dv_w5, dv_w6, dv_w7, dv_w8, dv_w9, dv_w10, dv_w11, dv_w12, dv_w13, dv_w14, dv_w15, dup_t, dup_o, va_up_self, va_up_ne, drow_t, drow_o, Option.bind_some, Bool.cond_decide, am_oI_some, am_oV_some, am_oI_ite, am_oV_ite, am_bind_ite, Int.toNat_natCast, Int.toNat_zero, Int.reduceToNat, ite_true, ite_false, not_true_eq_false, not_false_eq_true, decide_true, decide_false, decide_eq_true_eq, Bool.false_eq_true, Nat.add_zero, am_rok1_0, am_rok1_1, cond_true, cond_false, am_w_nat1, true_or, or_true, false_or, or_false, true_and, and_true, false_and, and_false, Int.reduceEq, Int.reduceNeg, Int.reduceLT, Int.reduceLE, or_self, and_self, if_pos, if_neg]
    · rw [if_pos ⟨e1, e2⟩]
      obtain ⟨k, hk⟩ : ∃ k : Nat, cd_oz D Z = k := ⟨(cd_oz D Z).toNat, by omega⟩
      rw [hk] at c3
      rw [hk, Int.toNat_natCast]
      have c5 := d_closeZone (d := d) (h := h) w.2.2 (z := k) (by omega)
      have e17 : o_cl D k 1 = D 1 := o_cl_o _ _ (by omega) (by omega)
      rw [am_cV]; simp (disch := omega) only [en_97, bk_97_0, bk_97_24, bk_97_40, c2, c3, c5, e17, dv_f0, dv_f1, dv_f2, dv_f3, dv_f4, dv_f5, dv_f6, dv_f7, dv_f8, dv_f9, dv_f10, dv_f11, dv_f12, dv_f13, dv_g0, dv_g1, dv_g2, dv_i0, dv_i1, dv_p0, dv_p1, dv_isc, dv_iscL, dv_r0, dv_r1, dv_r2, dv_r3, dv_r4, dv_r5, dv_r6, dv_r7, dv_r8, dv_r9, dv_r10, dv_r11, dv_r12, dv_r13, dv_r14, dv_r15, dv_w0, dv_w1, dv_w2, dv_w3, dv_w4, dv_w5, dv_w6, dv_w7, dv_w8, dv_w9, dv_w10, dv_w11, dv_w12, dv_w13, dv_w14, dv_w15, dup_t, dup_o, va_up_self, va_up_ne, drow_t, drow_o, Option.bind_some, Bool.cond_decide, am_oI_some, am_oV_some, am_oI_ite, am_oV_ite, am_bind_ite, Int.toNat_natCast, Int.toNat_zero, Int.reduceToNat, ite_true, ite_false, not_true_eq_false, not_false_eq_true, decide_true, decide_false, decide_eq_true_eq, Bool.false_eq_true, Nat.add_zero, am_rok1_0, am_rok1_1, cond_true, cond_false, am_w_nat1, true_or, or_true, false_or, or_false, true_and, and_true, false_and, and_false, Int.reduceEq, Int.reduceNeg, Int.reduceLT, Int.reduceLE, or_self, and_self, if_pos, if_neg]
  · rw [if_neg (by omega)]
    rw [am_cV]; simp (disch := omega) only [en_97, bk_97_0, bk_97_24, bk_97_40, c2, c3, dv_f0, dv_f1, dv_f2, dv_f3, dv_f4, dv_f5, dv_f6, dv_f7, dv_f8, dv_f9, dv_f10, dv_f11, dv_f12, dv_f13, dv_g0, dv_g1, dv_g2, dv_i0, dv_i1, dv_p0, dv_p1, dv_isc, dv_iscL, dv_r0, dv_r1, dv_r2, dv_r3, dv_r4, dv_r5, dv_r6, dv_r7, dv_r8, dv_r9, dv_r10, dv_r11, dv_r12, dv_r13, dv_r14, dv_r15, dv_w0, dv_w1, dv_w2, dv_w3, dv_w4, dv_w5, dv_w6, dv_w7, dv_w8, dv_w9, dv_w10, dv_w11, dv_w12, dv_w13, dv_w14, dv_w15, dup_t, dup_o, va_up_self, va_up_ne, drow_t, drow_o, Option.bind_some, Bool.cond_decide, am_oI_some, am_oV_some, am_oI_ite, am_oV_ite, am_bind_ite, Int.toNat_natCast, Int.toNat_zero, Int.reduceToNat, ite_true, ite_false, not_true_eq_false, not_false_eq_true, decide_true, decide_false, decide_eq_true_eq, Bool.false_eq_true, Nat.add_zero, am_rok1_0, am_rok1_1, cond_true, cond_false, am_w_nat1, true_or, or_true, false_or, or_false, true_and, and_true, false_and, and_false, Int.reduceEq, Int.reduceNeg, Int.reduceLT, Int.reduceLE, or_self, and_self, if_pos, if_neg]
end DRV7
