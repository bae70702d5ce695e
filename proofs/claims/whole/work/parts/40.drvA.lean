/-! ===== what is done to the class's drive by hand ===== -/
def w_stp (D : Nat → Nat → Int) (Z s : Nat) : Nat → Bool := fun j => !(w_must (w_it D Z j) Z s) || w_bad (w_it D Z j) Z
/-- after how many cleanings a write ends -/
def w_k (D : Nat → Nat → Int) (Z s : Nat) : Nat := (fnd (w_stp D Z s) 1000).toNat
def w_ok (D : Nat → Nat → Int) (Z s : Nat) : Prop := ¬ fnd (w_stp D Z s) 1000 = -1
theorem w_end_k {D : Nat → Nat → Int} {Z s : Nat} (h : w_ok D Z s) : w_end D Z s (w_k D Z s) := by
  rcases first_or (w_stp D Z s) 1000 with hno | ⟨k, k1, k2, k3⟩
  · exact absurd (fnd_none hno) h
  · have e : w_k D Z s = k := by unfold w_k; rw [fnd_at k2 k3 1000 k1, Int.toNat_natCast]
    rw [e]
    refine ⟨k1, ?_, ?_⟩
    · intro j hj
      have := k3 j hj
      unfold w_stp at this
      rw [Bool.or_eq_false_iff] at this
      exact ⟨by cases q : w_must (w_it D Z j) Z s <;> simp_all, this.2⟩
    · unfold w_stp at k2
      rw [Bool.or_eq_true] at k2
      rcases k2 with q | q
      · left; cases q' : w_must (w_it D Z k) Z s <;> simp_all
      · exact Or.inr q
/-- which stream a write takes -/
def w_s (D : Nat → Nat → Int) (key : Int) : Nat := (cd_sf D key.toNat).toNat
/-- a PUT or DELETE: what it answers, and the drive behind it -/
def wr_no (D : Nat → Nat → Int) (key val : Int) : Int := if ¬ (0 < D 0 0 ∧ 0 ≤ key ∧ key < 32) then -1 else if val = -1 ∧ cd_val D key.toNat = -1 then -3 else 0
def wr_v (D : Nat → Nat → Int) (Z : Nat) (key val : Int) : Int := if wr_no D key val = 0 then w_val D Z (w_s D key) (w_k D Z (w_s D key)) else wr_no D key val
def wr_D (D : Nat → Nat → Int) (Z : Nat) (key val : Int) : Nat → Nat → Int := if wr_no D key val = 0 then w_res D Z (w_s D key) (w_k D Z (w_s D key)) key val else D
theorem cd_sf_le {D : Nat → Nat → Int} (h : 0 < D 0 4) (k : Nat) : 0 ≤ cd_sf D k ∧ cd_sf D k < D 0 4 := by
  unfold cd_sf
  split
  · omega
  · split
    · split <;> omega
    · split
      · split <;> omega
      · omega
theorem cd_val_of {D : Nat → Nat → Int} {Z : Nat} (w : DR D Z) {k : Nat} (hk : k < 32) {d : Nat} {h : am_H} : am_cI 70 [am_R d, am_I k] (dv d D h) = some (cd_val D k, dv d D h) := c_valueOf d D h k hk (by have := w.1.1.1; have := w.2.1; omega) (w.1.1.2.2.2.2.2.2 k hk)
section DRVC
variable {d e : Nat} {D E : Nat → Nat → Int} {h : am_H} {Z : Nat}
theorem d_write (hde : d + 18 ≤ e ∨ e + 18 ≤ d) (w : DR D Z) (key val : Int) (hk : wr_no D key val = 0 → w_ok D Z (w_s D key)) : ∃ E', am_cI 102 [am_R d, am_I key, am_I val, am_R e] (dv d D (dv e E h)) = some (wr_v D Z key val, dv d (wr_D D Z key val) (dv e E' h)) := by
  have hZ := w.1.1.1
  have hZ0 := w.2.1
  unfold wr_v wr_D
  by_cases h1 : 0 < D 0 0 ∧ 0 ≤ key ∧ key < 32
  · have c1 : am_cI 69 [am_R d, am_I key] (dv d D (dv e E h)) = some (1, dv d D (dv e E h)) := by rw [c_hasKey, if_pos h1]
    obtain ⟨K, hK⟩ : ∃ K : Nat, key = K := ⟨key.toNat, by omega⟩
    subst hK
    have c2 := cd_val_of w (k := K) (by omega) (d := d) (h := dv e E h)
    have c3 := d_streamFor (d := d) (h := dv e E h) w.1.1 (k := K) (by omega)
    have hs := cd_sf_le w.2.2.1 K
    by_cases h2 : val = -1 ∧ cd_val D K = -1
    · have e0 : wr_no D (K : Int) val = -3 := by unfold wr_no; rw [if_neg (not_not_intro h1), Int.toNat_natCast, if_pos h2]
      refine ⟨E, ?_⟩
      rw [e0, if_neg (by omega), if_neg (by omega)]
      rw [am_cI]; simp (disch := omega) only [en_102, bk_102_0, bk_102_10, bk_102_27, bk_102_64, bk_102_85, bk_102_93, bk_102_114, bk_102_133, c1, c2, h2, dv_f0, dv_f1, dv_f2, dv_f3, dv_f4, dv_f5, dv_f6, dv_f7, dv_f8, dv_f9, dv_f10, dv_f11, dv_f12, dv_f13, dv_g0, dv_g1, dv_g2, dv_i0, dv_i1, dv_p0, dv_p1, dv_isc, dv_iscL, dv_r0, dv_r1, dv_r2, dv_r3, dv_r4, dv_r5, dv_r6, dv_r7, dv_r8, dv_r9, dv_r10, dv_r11, dv_r12, dv_r13, dv_r14, dv_r15, dv_w0, dv_w1, dv_w2, dv_w3, dv_w4, dv_w5, dv_w6, dv_w7, dv_w8, dv_w9, dv_w10, dv_w11, dv_w12, dv_w13, dv_w14, dv_w15, dvo_gfR, dvo_gfI, dvo_rd, dvo_isc, dvo_len, dup_t, dup_o, va_up_self, va_up_ne, drow_t, drow_o, Option.bind_some, Bool.cond_decide, am_oI_some, am_oV_some, am_oI_ite, am_oV_ite, am_bind_ite, Int.toNat_natCast, Int.toNat_zero, Int.reduceToNat, ite_true, ite_false, not_true_eq_false, not_false_eq_true, decide_true, decide_false, decide_eq_true_eq, Bool.false_eq_true, Nat.add_zero, am_rok1_0, am_rok1_1, cond_true, cond_false, am_w_nat1, true_or, or_true, false_or, or_false, true_and, and_true, false_and, and_false, Int.reduceEq, Int.reduceNeg, Int.reduceLT, Int.reduceLE, or_self, and_self, if_pos, if_neg]
    · have e0 : wr_no D (K : Int) val = 0 := by unfold wr_no; rw [if_neg (not_not_intro h1), Int.toNat_natCast, if_neg h2]
      have hk := hk e0
      rw [e0, if_pos rfl, if_pos rfl]
      have eS : w_s D (K : Int) = (cd_sf D K).toNat := by unfold w_s; rw [Int.toNat_natCast]
      rw [eS] at hk ⊢
      refine ⟨if w_must D Z (cd_sf D K).toNat = true then D else E, ?_⟩
      have key := d_write_loop (E := E) (h := h) hde w (s := (cd_sf D K).toNat) (by omega) (w_end_k hk) (key := K) ⟨by omega, by omega⟩ val (am_K 1)
      rw [show (((cd_sf D K).toNat : Nat) : Int) = cd_sf D K by omega] at key
      rw [am_cI, en_102]
      by_cases h3 : val = -1
      · have h4 : ¬ cd_val D K = -1 := by omega
        simp (disch := omega) only [bk_102_0, bk_102_10, bk_102_27, c1, c2, c3, h4, h3, dv_f0, dv_f1, dv_f2, dv_f3, dv_f4, dv_f5, dv_f6, dv_f7, dv_f8, dv_f9, dv_f10, dv_f11, dv_f12, dv_f13, dv_g0, dv_g1, dv_g2, dv_i0, dv_i1, dv_p0, dv_p1, dv_isc, dv_iscL, dv_r0, dv_r1, dv_r2, dv_r3, dv_r4, dv_r5, dv_r6, dv_r7, dv_r8, dv_r9, dv_r10, dv_r11, dv_r12, dv_r13, dv_r14, dv_r15, dv_w0, dv_w1, dv_w2, dv_w3, dv_w4, dv_w5, dv_w6, dv_w7, dv_w8, dv_w9, dv_w10, dv_w11, dv_w12, dv_w13, dv_w14, dv_w15, dvo_gfR, dvo_gfI, dvo_rd, dvo_isc, dvo_len, dup_t, dup_o, va_up_self, va_up_ne, drow_t, drow_o, Option.bind_some, Bool.cond_decide, am_oI_some, am_oV_some, am_oI_ite, am_oV_ite, am_bind_ite, Int.toNat_natCast, Int.toNat_zero, Int.reduceToNat, ite_true, ite_false, not_true_eq_false, not_false_eq_true, decide_true, decide_false, decide_eq_true_eq, Bool.false_eq_true, Nat.add_zero, am_rok1_0, am_rok1_1, cond_true, cond_false, am_w_nat1, true_or, or_true, false_or, or_false, true_and, and_true, false_and, and_false, Int.reduceEq, Int.reduceNeg, Int.reduceLT, Int.reduceLE, or_self, and_self, if_pos, if_neg]
        rw [h3] at key
        exact key
      · simp (disch := omega) only [bk_102_0, bk_102_10, bk_102_27, c1, c2, c3, h3, dv_f0, dv_f1, dv_f2, dv_f3, dv_f4, dv_f5, dv_f6, dv_f7, dv_f8, dv_f9, dv_f10, dv_f11, dv_f12, dv_f13, dv_g0, dv_g1, dv_g2, dv_i0, dv_i1, dv_p0, dv_p1, dv_isc, dv_iscL, dv_r0, dv_r1, dv_r2, dv_r3, dv_r4, dv_r5, dv_r6, dv_r7, dv_r8, dv_r9, dv_r10, dv_r11, dv_r12, dv_r13, dv_r14, dv_r15, dv_w0, dv_w1, dv_w2, dv_w3, dv_w4, dv_w5, dv_w6, dv_w7, dv_w8, dv_w9, dv_w10, dv_w11, dv_w12, dv_w13, dv_w14, dv_w15, dvo_gfR, dvo_gfI, dvo_rd, dvo_isc, dvo_len, dup_t, dup_o, va_up_self, va_up_ne, drow_t, drow_o, Option.bind_some, Bool.cond_decide, am_oI_some, am_oV_some, am_oI_ite, am_oV_ite, am_bind_ite, Int.toNat_natCast, Int.toNat_zero, Int.reduceToNat, ite_true, ite_false, not_true_eq_false, not_false_eq_true, decide_true, decide_false, decide_eq_true_eq, Bool.false_eq_true, Nat.add_zero, am_rok1_0, am_rok1_1, cond_true, cond_false, am_w_nat1, true_or, or_true, false_or, or_false, true_and, and_true, false_and, and_false, Int.reduceEq, Int.reduceNeg, Int.reduceLT, Int.reduceLE, or_self, and_self, if_pos, if_neg]
        exact key
  · have c1 : am_cI 69 [am_R d, am_I key] (dv d D (dv e E h)) = some (0, dv d D (dv e E h)) := by rw [c_hasKey, if_neg h1]
    have e0 : wr_no D key val = -1 := by unfold wr_no; rw [if_pos h1]
    refine ⟨E, ?_⟩
    rw [e0, if_neg (by omega), if_neg (by omega)]
    rw [am_cI]; simp (disch := omega) only [en_102, bk_102_0, bk_102_10, bk_102_27, bk_102_64, bk_102_85, bk_102_93, bk_102_114, bk_102_133, c1, dv_f0, dv_f1, dv_f2, dv_f3, dv_f4, dv_f5, dv_f6, dv_f7, dv_f8, dv_f9, dv_f10, dv_f11, dv_f12, dv_f13, dv_g0, dv_g1, dv_g2, dv_i0, dv_i1, dv_p0, dv_p1, dv_isc, dv_iscL, dv_r0, dv_r1, dv_r2, dv_r3, dv_r4, dv_r5, dv_r6, dv_r7, dv_r8, dv_r9, dv_r10, dv_r11, dv_r12, dv_r13, dv_r14, dv_r15, dv_w0, dv_w1, dv_w2, dv_w3, dv_w4, dv_w5, dv_w6, dv_w7, dv_w8, dv_w9, dv_w10, dv_w11, dv_w12, dv_w13, dv_w14, dv_w15, dvo_gfR, dvo_gfI, dvo_rd, dvo_isc, dvo_len, dup_t, dup_o, va_up_self, va_up_ne, drow_t, drow_o, Option.bind_some, Bool.cond_decide, am_oI_some, am_oV_some, am_oI_ite, am_oV_ite, am_bind_ite, Int.toNat_natCast, Int.toNat_zero, Int.reduceToNat, ite_true, ite_false, not_true_eq_false, not_false_eq_true, decide_true, decide_false, decide_eq_true_eq, Bool.false_eq_true, Nat.add_zero, am_rok1_0, am_rok1_1, cond_true, cond_false, am_w_nat1, true_or, or_true, false_or, or_false, true_and, and_true, false_and, and_false, Int.reduceEq, Int.reduceNeg, Int.reduceLT, Int.reduceLE, or_self, and_self, if_pos, if_neg]
/-- a cleaning by hand -/
def cl_v (D : Nat → Nat → Int) (Z : Nat) : Int := if cd_zc D Z (D 0 6) = -1 then -3 else if w_bad D Z = true then -4 else (mvs D Z (cd_zc D Z (D 0 6)).toNat 16 16).2
def cl_D (D : Nat → Nat → Int) (Z : Nat) : Nat → Nat → Int := if w_bad D Z = true then D else w_cl D Z
theorem d_cleanByHand (w : DR D Z) : am_cI 176 [am_R d] (dv d D h) = some (cl_v D Z, dv d (cl_D D Z) h) := by
  have hZ := w.1.1.1
  have hZ0 := w.2.1
  have hZ8 := w.1.1.2.1
  have c1 := d_zc_room (d := d) (h := h) w
  have c1' := c1.1
  have hbz := cd_zc_le D Z (D 0 6)
  unfold cl_v cl_D
  by_cases e1 : cd_zc D Z (D 0 6) = -1
  · have e2 : w_bad D Z = true := by unfold w_bad; rw [decide_eq_true_eq]; exact Or.inl e1
    rw [e1] at c1'
    rw [if_pos e1, if_pos e2]
    rw [am_cI]; simp (disch := omega) only [en_176, bk_176_0, bk_176_11, bk_176_24, bk_176_35, c1', dv_f0, dv_f1, dv_f2, dv_f3, dv_f4, dv_f5, dv_f6, dv_f7, dv_f8, dv_f9, dv_f10, dv_f11, dv_f12, dv_f13, dv_g0, dv_g1, dv_g2, dv_i0, dv_i1, dv_p0, dv_p1, dv_isc, dv_iscL, dv_r0, dv_r1, dv_r2, dv_r3, dv_r4, dv_r5, dv_r6, dv_r7, dv_r8, dv_r9, dv_r10, dv_r11, dv_r12, dv_r13, dv_r14, dv_r15, dv_w0, dv_w1, dv_w2, dv_w3, dv_w4, dv_w5, dv_w6, dv_w7, dv_w8, dv_w9, dv_w10, dv_w11, dv_w12, dv_w13, dv_w14, dv_w15, dvo_gfR, dvo_gfI, dvo_rd, dvo_isc, dvo_len, dup_t, dup_o, va_up_self, va_up_ne, drow_t, drow_o, Option.bind_some, Bool.cond_decide, am_oI_some, am_oV_some, am_oI_ite, am_oV_ite, am_bind_ite, Int.toNat_natCast, Int.toNat_zero, Int.reduceToNat, ite_true, ite_false, not_true_eq_false, not_false_eq_true, decide_true, decide_false, decide_eq_true_eq, Bool.false_eq_true, Nat.add_zero, am_rok1_0, am_rok1_1, cond_true, cond_false, am_w_nat1, true_or, or_true, false_or, or_false, true_and, and_true, false_and, and_false, Int.reduceEq, Int.reduceNeg, Int.reduceLT, Int.reduceLE, or_self, and_self, if_pos, if_neg]
  · have c2 := c1.2 e1
    rw [if_neg e1]
    cases e2 : w_bad D Z with
    | true =>
      rw [e2] at c2
      rw [am_cI]; simp (disch := omega) only [en_176, bk_176_0, bk_176_11, bk_176_24, bk_176_35, c1', c2, e1, dv_f0, dv_f1, dv_f2, dv_f3, dv_f4, dv_f5, dv_f6, dv_f7, dv_f8, dv_f9, dv_f10, dv_f11, dv_f12, dv_f13, dv_g0, dv_g1, dv_g2, dv_i0, dv_i1, dv_p0, dv_p1, dv_isc, dv_iscL, dv_r0, dv_r1, dv_r2, dv_r3, dv_r4, dv_r5, dv_r6, dv_r7, dv_r8, dv_r9, dv_r10, dv_r11, dv_r12, dv_r13, dv_r14, dv_r15, dv_w0, dv_w1, dv_w2, dv_w3, dv_w4, dv_w5, dv_w6, dv_w7, dv_w8, dv_w9, dv_w10, dv_w11, dv_w12, dv_w13, dv_w14, dv_w15, dvo_gfR, dvo_gfI, dvo_rd, dvo_isc, dvo_len, dup_t, dup_o, va_up_self, va_up_ne, drow_t, drow_o, Option.bind_some, Bool.cond_decide, am_oI_some, am_oV_some, am_oI_ite, am_oV_ite, am_bind_ite, Int.toNat_natCast, Int.toNat_zero, Int.reduceToNat, ite_true, ite_false, not_true_eq_false, not_false_eq_true, decide_true, decide_false, decide_eq_true_eq, Bool.false_eq_true, Nat.add_zero, am_rok1_0, am_rok1_1, cond_true, cond_false, am_w_nat1, true_or, or_true, false_or, or_false, true_and, and_true, false_and, and_false, Int.reduceEq, Int.reduceNeg, Int.reduceLT, Int.reduceLE, or_self, and_self, if_pos, if_neg]
    | false =>
      rw [e2] at c2
      unfold w_cl
      obtain ⟨q, hq⟩ : ∃ q : Nat, cd_zc D Z (D 0 6) = q := ⟨(cd_zc D Z (D 0 6)).toNat, by omega⟩
      rw [hq] at c1' c2
      rw [hq, Int.toNat_natCast]
      have c3 := d_moveLive (d := d) (h := h) w.1 w.2.2.1 (z := q) (by omega) 16
      have M := mvs_I w.1 (z := q) (by omega) 16 16
      have c4 := d_endCleaning (d := d) (h := h) M.1 (by rw [M.2.1]; exact w.2.2.2) (z := q) (by omega)
      rw [am_cI]; simp (disch := omega) only [en_176, bk_176_0, bk_176_11, bk_176_24, bk_176_35, c1', c2, c3, c4, dv_f0, dv_f1, dv_f2, dv_f3, dv_f4, dv_f5, dv_f6, dv_f7, dv_f8, dv_f9, dv_f10, dv_f11, dv_f12, dv_f13, dv_g0, dv_g1, dv_g2, dv_i0, dv_i1, dv_p0, dv_p1, dv_isc, dv_iscL, dv_r0, dv_r1, dv_r2, dv_r3, dv_r4, dv_r5, dv_r6, dv_r7, dv_r8, dv_r9, dv_r10, dv_r11, dv_r12, dv_r13, dv_r14, dv_r15, dv_w0, dv_w1, dv_w2, dv_w3, dv_w4, dv_w5, dv_w6, dv_w7, dv_w8, dv_w9, dv_w10, dv_w11, dv_w12, dv_w13, dv_w14, dv_w15, dvo_gfR, dvo_gfI, dvo_rd, dvo_isc, dvo_len, dup_t, dup_o, va_up_self, va_up_ne, drow_t, drow_o, Option.bind_some, Bool.cond_decide, am_oI_some, am_oV_some, am_oI_ite, am_oV_ite, am_bind_ite, Int.toNat_natCast, Int.toNat_zero, Int.reduceToNat, ite_true, ite_false, not_true_eq_false, not_false_eq_true, decide_true, decide_false, decide_eq_true_eq, Bool.false_eq_true, Nat.add_zero, am_rok1_0, am_rok1_1, cond_true, cond_false, am_w_nat1, true_or, or_true, false_or, or_false, true_and, and_true, false_and, and_false, Int.reduceEq, Int.reduceNeg, Int.reduceLT, Int.reduceLE, or_self, and_self, if_pos, if_neg]
theorem d_finishByHand (w : DR D Z) (z : Int) : am_cI 191 [am_R d, am_I z] (dv d D h) = some (if ¬ (0 ≤ z ∧ z < Z) then -1 else if ¬ (D 2 z.toNat = 1 ∨ D 2 z.toNat = 2) then -3 else D 3 z.toNat, dv d (if (0 ≤ z ∧ z < Z) ∧ (D 2 z.toNat = 1 ∨ D 2 z.toNat = 2) then o_fi D z.toNat else D) h) := by
  have hZ := w.1.1.1
  have hZ8 := w.1.1.2.1
  have c0 := c_hasZone d D h z
  rw [hZ] at c0
  by_cases h1 : 0 ≤ z ∧ z < Z
  · obtain ⟨q, hq⟩ : ∃ q : Nat, z = q := ⟨z.toNat, by omega⟩
    subst hq
    rw [if_pos h1] at c0
    rw [Int.toNat_natCast]
    have c1 := c_isActive d D h q (by omega)
    have c2 := d_finishZone (d := d) (h := h) w.1.2.2 (z := q) (by omega)
    have e3 : o_fi D q 3 = D 3 := o_fi_o _ _ (by omega) (by omega)
    by_cases h2 : D 2 q = 1 ∨ D 2 q = 2
    · rw [if_pos h2] at c1
      rw [if_neg (not_not_intro h1), if_neg (not_not_intro h2), if_pos ⟨h1, h2⟩]
      rw [am_cI]; simp (disch := omega) only [en_191, bk_191_0, bk_191_10, bk_191_21, c0, c1, c2, e3, dv_f0, dv_f1, dv_f2, dv_f3, dv_f4, dv_f5, dv_f6, dv_f7, dv_f8, dv_f9, dv_f10, dv_f11, dv_f12, dv_f13, dv_g0, dv_g1, dv_g2, dv_i0, dv_i1, dv_p0, dv_p1, dv_isc, dv_iscL, dv_r0, dv_r1, dv_r2, dv_r3, dv_r4, dv_r5, dv_r6, dv_r7, dv_r8, dv_r9, dv_r10, dv_r11, dv_r12, dv_r13, dv_r14, dv_r15, dv_w0, dv_w1, dv_w2, dv_w3, dv_w4, dv_w5, dv_w6, dv_w7, dv_w8, dv_w9, dv_w10, dv_w11, dv_w12, dv_w13, dv_w14, dv_w15, dvo_gfR, dvo_gfI, dvo_rd, dvo_isc, dvo_len, dup_t, dup_o, va_up_self, va_up_ne, drow_t, drow_o, Option.bind_some, Bool.cond_decide, am_oI_some, am_oV_some, am_oI_ite, am_oV_ite, am_bind_ite, Int.toNat_natCast, Int.toNat_zero, Int.reduceToNat, ite_true, ite_false, not_true_eq_false, not_false_eq_true, decide_true, decide_false, decide_eq_true_eq, Bool.false_eq_true, Nat.add_zero, am_rok1_0, am_rok1_1, cond_true, cond_false, am_w_nat1, true_or, or_true, false_or, or_false, true_and, and_true, false_and, and_false, Int.reduceEq, Int.reduceNeg, Int.reduceLT, Int.reduceLE, or_self, and_self, if_pos, if_neg]
    · rw [if_neg h2] at c1
      rw [if_neg (not_not_intro h1), if_pos h2, if_neg (fun q => h2 q.2)]
      rw [am_cI]; simp (disch := omega) only [en_191, bk_191_0, bk_191_10, bk_191_21, c0, c1, c2, e3, dv_f0, dv_f1, dv_f2, dv_f3, dv_f4, dv_f5, dv_f6, dv_f7, dv_f8, dv_f9, dv_f10, dv_f11, dv_f12, dv_f13, dv_g0, dv_g1, dv_g2, dv_i0, dv_i1, dv_p0, dv_p1, dv_isc, dv_iscL, dv_r0, dv_r1, dv_r2, dv_r3, dv_r4, dv_r5, dv_r6, dv_r7, dv_r8, dv_r9, dv_r10, dv_r11, dv_r12, dv_r13, dv_r14, dv_r15, dv_w0, dv_w1, dv_w2, dv_w3, dv_w4, dv_w5, dv_w6, dv_w7, dv_w8, dv_w9, dv_w10, dv_w11, dv_w12, dv_w13, dv_w14, dv_w15, dvo_gfR, dvo_gfI, dvo_rd, dvo_isc, dvo_len, dup_t, dup_o, va_up_self, va_up_ne, drow_t, drow_o, Option.bind_some, Bool.cond_decide, am_oI_some, am_oV_some, am_oI_ite, am_oV_ite, am_bind_ite, Int.toNat_natCast, Int.toNat_zero, Int.reduceToNat, ite_true, ite_false, not_true_eq_false, not_false_eq_true, decide_true, decide_false, decide_eq_true_eq, Bool.false_eq_true, Nat.add_zero, am_rok1_0, am_rok1_1, cond_true, cond_false, am_w_nat1, true_or, or_true, false_or, or_false, true_and, and_true, false_and, and_false, Int.reduceEq, Int.reduceNeg, Int.reduceLT, Int.reduceLE, or_self, and_self, if_pos, if_neg]
  · rw [if_neg h1] at c0
    rw [if_pos h1, if_neg (fun q => h1 q.1)]
    rw [am_cI]; simp (disch := omega) only [en_191, bk_191_0, bk_191_10, bk_191_21, c0, dv_f0, dv_f1, dv_f2, dv_f3, dv_f4, dv_f5, dv_f6, dv_f7, dv_f8, dv_f9, dv_f10, dv_f11, dv_f12, dv_f13, dv_g0, dv_g1, dv_g2, dv_i0, dv_i1, dv_p0, dv_p1, dv_isc, dv_iscL, dv_r0, dv_r1, dv_r2, dv_r3, dv_r4, dv_r5, dv_r6, dv_r7, dv_r8, dv_r9, dv_r10, dv_r11, dv_r12, dv_r13, dv_r14, dv_r15, dv_w0, dv_w1, dv_w2, dv_w3, dv_w4, dv_w5, dv_w6, dv_w7, dv_w8, dv_w9, dv_w10, dv_w11, dv_w12, dv_w13, dv_w14, dv_w15, dvo_gfR, dvo_gfI, dvo_rd, dvo_isc, dvo_len, dup_t, dup_o, va_up_self, va_up_ne, drow_t, drow_o, Option.bind_some, Bool.cond_decide, am_oI_some, am_oV_some, am_oI_ite, am_oV_ite, am_bind_ite, Int.toNat_natCast, Int.toNat_zero, Int.reduceToNat, ite_true, ite_false, not_true_eq_false, not_false_eq_true, decide_true, decide_false, decide_eq_true_eq, Bool.false_eq_true, Nat.add_zero, am_rok1_0, am_rok1_1, cond_true, cond_false, am_w_nat1, true_or, or_true, false_or, or_false, true_and, and_true, false_and, and_false, Int.reduceEq, Int.reduceNeg, Int.reduceLT, Int.reduceLE, or_self, and_self, if_pos, if_neg]
theorem d_closeByHand (w : DR D Z) (z : Int) : am_cI 188 [am_R d, am_I z] (dv d D h) = some (if ¬ (0 ≤ z ∧ z < Z) then -1 else if ¬ D 2 z.toNat = 1 then -3 else (cd_many (o_cl D z.toNat) Z 1 : Int), dv d (if (0 ≤ z ∧ z < Z) ∧ D 2 z.toNat = 1 then o_cl D z.toNat else D) h) := by
  have hZ := w.1.1.1
  have hZ8 := w.1.1.2.1
  have c0 := c_hasZone d D h z
  rw [hZ] at c0
  by_cases h1 : 0 ≤ z ∧ z < Z
  · obtain ⟨q, hq⟩ : ∃ q : Nat, z = q := ⟨z.toNat, by omega⟩
    subst hq
    rw [if_pos h1] at c0
    rw [Int.toNat_natCast]
    have c2 := d_closeZone (d := d) (h := h) w.1.2.2 (z := q) (by omega)
    by_cases h2 : D 2 q = 1
    · have c3 := d_countOf (d := d) (h := h) (o_cl_DI w.1 h2).1 1
      rw [if_neg (not_not_intro h1), if_neg (not_not_intro h2), if_pos ⟨h1, h2⟩]
      rw [am_cI]; simp (disch := omega) only [en_188, bk_188_0, bk_188_10, bk_188_23, c0, c2, c3, h2, dv_f0, dv_f1, dv_f2, dv_f3, dv_f4, dv_f5, dv_f6, dv_f7, dv_f8, dv_f9, dv_f10, dv_f11, dv_f12, dv_f13, dv_g0, dv_g1, dv_g2, dv_i0, dv_i1, dv_p0, dv_p1, dv_isc, dv_iscL, dv_r0, dv_r1, dv_r2, dv_r3, dv_r4, dv_r5, dv_r6, dv_r7, dv_r8, dv_r9, dv_r10, dv_r11, dv_r12, dv_r13, dv_r14, dv_r15, dv_w0, dv_w1, dv_w2, dv_w3, dv_w4, dv_w5, dv_w6, dv_w7, dv_w8, dv_w9, dv_w10, dv_w11, dv_w12, dv_w13, dv_w14, dv_w15, dvo_gfR, dvo_gfI, dvo_rd, dvo_isc, dvo_len, dup_t, dup_o, va_up_self, va_up_ne, drow_t, drow_o, Option.bind_some, Bool.cond_decide, am_oI_some, am_oV_some, am_oI_ite, am_oV_ite, am_bind_ite, Int.toNat_natCast, Int.toNat_zero, Int.reduceToNat, ite_true, ite_false, not_true_eq_false, not_false_eq_true, decide_true, decide_false, decide_eq_true_eq, Bool.false_eq_true, Nat.add_zero, am_rok1_0, am_rok1_1, cond_true, cond_false, am_w_nat1, true_or, or_true, false_or, or_false, true_and, and_true, false_and, and_false, Int.reduceEq, Int.reduceNeg, Int.reduceLT, Int.reduceLE, or_self, and_self, if_pos, if_neg]
    · rw [if_neg (not_not_intro h1), if_pos h2, if_neg (fun q => h2 q.2)]
      rw [am_cI]; simp (disch := omega) only [en_188, bk_188_0, bk_188_10, bk_188_23, c0, c2, h2, dv_f0, dv_f1, dv_f2, dv_f3, dv_f4, dv_f5, dv_f6, dv_f7, dv_f8, dv_f9, dv_f10, dv_f11, dv_f12, dv_f13, dv_g0, dv_g1, dv_g2, dv_i0, dv_i1, dv_p0, dv_p1, dv_isc, dv_iscL, dv_r0, dv_r1, dv_r2, dv_r3, dv_r4, dv_r5, dv_r6, dv_r7, dv_r8, dv_r9, dv_r10, dv_r11, dv_r12, dv_r13, dv_r14, dv_r15, dv_w0, dv_w1, dv_w2, dv_w3, dv_w4, dv_w5, dv_w6, dv_w7, dv_w8, dv_w9, dv_w10, dv_w11, dv_w12, dv_w13, dv_w14, dv_w15, dvo_gfR, dvo_gfI, dvo_rd, dvo_isc, dvo_len, dup_t, dup_o, va_up_self, va_up_ne, drow_t, drow_o, Option.bind_some, Bool.cond_decide, am_oI_some, am_oV_some, am_oI_ite, am_oV_ite, am_bind_ite, Int.toNat_natCast, Int.toNat_zero, Int.reduceToNat, ite_true, ite_false, not_true_eq_false, not_false_eq_true, decide_true, decide_false, decide_eq_true_eq, Bool.false_eq_true, Nat.add_zero, am_rok1_0, am_rok1_1, cond_true, cond_false, am_w_nat1, true_or, or_true, false_or, or_false, true_and, and_true, false_and, and_false, Int.reduceEq, Int.reduceNeg, Int.reduceLT, Int.reduceLE, or_self, and_self, if_pos, if_neg]
  · rw [if_neg h1] at c0
    rw [if_pos h1, if_neg (fun q => h1 q.1)]
    rw [am_cI]; simp (disch := omega) only [en_188, bk_188_0, bk_188_10, bk_188_23, c0, dv_f0, dv_f1, dv_f2, dv_f3, dv_f4, dv_f5, dv_f6, dv_f7, dv_f8, dv_f9, dv_f10, dv_f11, dv_f12, dv_f13, dv_g0, dv_g1, dv_g2, dv_i0, dv_i1, dv_p0, dv_p1, dv_isc, dv_iscL, dv_r0, dv_r1, dv_r2, dv_r3, dv_r4, dv_r5, dv_r6, dv_r7, dv_r8, dv_r9, dv_r10, dv_r11, dv_r12, dv_r13, dv_r14, dv_r15, dv_w0, dv_w1, dv_w2, dv_w3, dv_w4, dv_w5, dv_w6, dv_w7, dv_w8, dv_w9, dv_w10, dv_w11, dv_w12, dv_w13, dv_w14, dv_w15, dvo_gfR, dvo_gfI, dvo_rd, dvo_isc, dvo_len, dup_t, dup_o, va_up_self, va_up_ne, drow_t, drow_o, Option.bind_some, Bool.cond_decide, am_oI_some, am_oV_some, am_oI_ite, am_oV_ite, am_bind_ite, Int.toNat_natCast, Int.toNat_zero, Int.reduceToNat, ite_true, ite_false, not_true_eq_false, not_false_eq_true, decide_true, decide_false, decide_eq_true_eq, Bool.false_eq_true, Nat.add_zero, am_rok1_0, am_rok1_1, cond_true, cond_false, am_w_nat1, true_or, or_true, false_or, or_false, true_and, and_true, false_and, and_false, Int.reduceEq, Int.reduceNeg, Int.reduceLT, Int.reduceLE, or_self, and_self, if_pos, if_neg]
/-- a zone is opened by hand -/
def o_hd (D : Nat → Nat → Int) (z : Nat) : Nat → Nat → Int := lga (dup (dup D 2 z 1) 5 z 0) 4 z 0
def op_ok (D : Nat → Nat → Int) (Z : Nat) (z : Int) : Int := if ¬ (0 ≤ z ∧ z < Z) then -1 else if D 2 z.toNat = 1 ∨ D 2 z.toNat = 3 then -3 else if D 0 2 ≤ (cd_many D Z 1 : Int) ∨ (D 2 z.toNat = 0 ∧ D 0 3 ≤ ((cd_many D Z 1 + cd_many D Z 2 : Nat) : Int)) then -4 else 0
theorem d_openByHand (w : DR D Z) (z : Int) : am_cI 185 [am_R d, am_I z] (dv d D h) = some (if op_ok D Z z = 0 then (cd_many (o_hd D z.toNat) Z 1 : Int) else op_ok D Z z, dv d (if op_ok D Z z = 0 then o_hd D z.toNat else D) h) := by
  have hZ := w.1.1.1
  have hZ8 := w.1.1.2.1
  have c0 := c_hasZone d D h z
  rw [hZ] at c0
  by_cases h1 : 0 ≤ z ∧ z < Z
  · obtain ⟨q, hq⟩ : ∃ q : Nat, z = q := ⟨z.toNat, by omega⟩
    subst hq
    rw [if_pos h1] at c0
    rw [Int.toNat_natCast]
    have c1 := d_countOf (d := d) (h := h) w.1.1 1
    have c2 := d_countActive (d := d) (h := h) w.1.1
    by_cases h2 : D 2 q = 1 ∨ D 2 q = 3
    · have e : op_ok D Z (q : Int) = -3 := by unfold op_ok; rw [if_neg (not_not_intro h1), Int.toNat_natCast, if_pos h2]
      rw [e, if_neg (by omega), if_neg (by omega)]
      by_cases h3 : D 2 q = 1
      · rw [am_cI]; simp (disch := omega) only [en_185, bk_185_0, bk_185_10, bk_185_30, c0, h3, dv_f0, dv_f1, dv_f2, dv_f3, dv_f4, dv_f5, dv_f6, dv_f7, dv_f8, dv_f9, dv_f10, dv_f11, dv_f12, dv_f13, dv_g0, dv_g1, dv_g2, dv_i0, dv_i1, dv_p0, dv_p1, dv_isc, dv_iscL, dv_r0, dv_r1, dv_r2, dv_r3, dv_r4, dv_r5, dv_r6, dv_r7, dv_r8, dv_r9, dv_r10, dv_r11, dv_r12, dv_r13, dv_r14, dv_r15, dv_w0, dv_w1, dv_w2, dv_w3, dv_w4, dv_w5, dv_w6, dv_w7, dv_w8, dv_w9, dv_w10, dv_w11, dv_w12, dv_w13, dv_w14, dv_w15, dvo_gfR, dvo_gfI, dvo_rd, dvo_isc, dvo_len, dup_t, dup_o, va_up_self, va_up_ne, drow_t, drow_o, Option.bind_some, Bool.cond_decide, am_oI_some, am_oV_some, am_oI_ite, am_oV_ite, am_bind_ite, Int.toNat_natCast, Int.toNat_zero, Int.reduceToNat, ite_true, ite_false, not_true_eq_false, not_false_eq_true, decide_true, decide_false, decide_eq_true_eq, Bool.false_eq_true, Nat.add_zero, am_rok1_0, am_rok1_1, cond_true, cond_false, am_w_nat1, true_or, or_true, false_or, or_false, true_and, and_true, false_and, and_false, Int.reduceEq, Int.reduceNeg, Int.reduceLT, Int.reduceLE, or_self, and_self, if_pos, if_neg]
      · have h4 : D 2 q = 3 := h2.resolve_left h3
        rw [am_cI]; simp (disch := omega) only [en_185, bk_185_0, bk_185_10, bk_185_30, c0, h4, dv_f0, dv_f1, dv_f2, dv_f3, dv_f4, dv_f5, dv_f6, dv_f7, dv_f8, dv_f9, dv_f10, dv_f11, dv_f12, dv_f13, dv_g0, dv_g1, dv_g2, dv_i0, dv_i1, dv_p0, dv_p1, dv_isc, dv_iscL, dv_r0, dv_r1, dv_r2, dv_r3, dv_r4, dv_r5, dv_r6, dv_r7, dv_r8, dv_r9, dv_r10, dv_r11, dv_r12, dv_r13, dv_r14, dv_r15, dv_w0, dv_w1, dv_w2, dv_w3, dv_w4, dv_w5, dv_w6, dv_w7, dv_w8, dv_w9, dv_w10, dv_w11, dv_w12, dv_w13, dv_w14, dv_w15, dvo_gfR, dvo_gfI, dvo_rd, dvo_isc, dvo_len, dup_t, dup_o, va_up_self, va_up_ne, drow_t, drow_o, Option.bind_some, Bool.cond_decide, am_oI_some, am_oV_some, am_oI_ite, am_oV_ite, am_bind_ite, Int.toNat_natCast, Int.toNat_zero, Int.reduceToNat, ite_true, ite_false, not_true_eq_false, not_false_eq_true, decide_true, decide_false, decide_eq_true_eq, Bool.false_eq_true, Nat.add_zero, am_rok1_0, am_rok1_1, cond_true, cond_false, am_w_nat1, true_or, or_true, false_or, or_false, true_and, and_true, false_and, and_false, Int.reduceEq, Int.reduceNeg, Int.reduceLT, Int.reduceLE, or_self, and_self, if_pos, if_neg]
    · have h2a : ¬ D 2 q = 1 := fun x => h2 (Or.inl x)
      have h2b : ¬ D 2 q = 3 := fun x => h2 (Or.inr x)
      by_cases h3 : D 0 2 ≤ (cd_many D Z 1 : Int)
      · have e : op_ok D Z (q : Int) = -4 := by unfold op_ok; rw [if_neg (not_not_intro h1), Int.toNat_natCast, if_neg h2, if_pos (Or.inl h3)]
        rw [e, if_neg (by omega), if_neg (by omega)]
        rw [am_cI]; simp (disch := omega) only [en_185, bk_185_0, bk_185_10, bk_185_30, bk_185_33, bk_185_50, bk_185_75, bk_185_95, c0, c1, h2a, h2b, dv_f0, dv_f1, dv_f2, dv_f3, dv_f4, dv_f5, dv_f6, dv_f7, dv_f8, dv_f9, dv_f10, dv_f11, dv_f12, dv_f13, dv_g0, dv_g1, dv_g2, dv_i0, dv_i1, dv_p0, dv_p1, dv_isc, dv_iscL, dv_r0, dv_r1, dv_r2, dv_r3, dv_r4, dv_r5, dv_r6, dv_r7, dv_r8, dv_r9, dv_r10, dv_r11, dv_r12, dv_r13, dv_r14, dv_r15, dv_w0, dv_w1, dv_w2, dv_w3, dv_w4, dv_w5, dv_w6, dv_w7, dv_w8, dv_w9, dv_w10, dv_w11, dv_w12, dv_w13, dv_w14, dv_w15, dvo_gfR, dvo_gfI, dvo_rd, dvo_isc, dvo_len, dup_t, dup_o, va_up_self, va_up_ne, drow_t, drow_o, Option.bind_some, Bool.cond_decide, am_oI_some, am_oV_some, am_oI_ite, am_oV_ite, am_bind_ite, Int.toNat_natCast, Int.toNat_zero, Int.reduceToNat, ite_true, ite_false, not_true_eq_false, not_false_eq_true, decide_true, decide_false, decide_eq_true_eq, Bool.false_eq_true, Nat.add_zero, am_rok1_0, am_rok1_1, cond_true, cond_false, am_w_nat1, true_or, or_true, false_or, or_false, true_and, and_true, false_and, and_false, Int.reduceEq, Int.reduceNeg, Int.reduceLT, Int.reduceLE, or_self, and_self, if_pos, if_neg]
      · by_cases h4 : D 2 q = 0 ∧ D 0 3 ≤ ((cd_many D Z 1 + cd_many D Z 2 : Nat) : Int)
        · have e : op_ok D Z (q : Int) = -4 := by unfold op_ok; rw [if_neg (not_not_intro h1), Int.toNat_natCast, if_neg h2, if_pos (Or.inr h4)]
          rw [e, if_neg (by omega), if_neg (by omega)]
          rw [am_cI]; simp (disch := omega) only [en_185, bk_185_0, bk_185_10, bk_185_30, bk_185_33, bk_185_50, bk_185_75, bk_185_95, c0, c1, c2, h4, dv_f0, dv_f1, dv_f2, dv_f3, dv_f4, dv_f5, dv_f6, dv_f7, dv_f8, dv_f9, dv_f10, dv_f11, dv_f12, dv_f13, dv_g0, dv_g1, dv_g2, dv_i0, dv_i1, dv_p0, dv_p1, dv_isc, dv_iscL, dv_r0, dv_r1, dv_r2, dv_r3, dv_r4, dv_r5, dv_r6, dv_r7, dv_r8, dv_r9, dv_r10, dv_r11, dv_r12, dv_r13, dv_r14, dv_r15, dv_w0, dv_w1, dv_w2, dv_w3, dv_w4, dv_w5, dv_w6, dv_w7, dv_w8, dv_w9, dv_w10, dv_w11, dv_w12, dv_w13, dv_w14, dv_w15, dvo_gfR, dvo_gfI, dvo_rd, dvo_isc, dvo_len, dup_t, dup_o, va_up_self, va_up_ne, drow_t, drow_o, Option.bind_some, Bool.cond_decide, am_oI_some, am_oV_some, am_oI_ite, am_oV_ite, am_bind_ite, Int.toNat_natCast, Int.toNat_zero, Int.reduceToNat, ite_true, ite_false, not_true_eq_false, not_false_eq_true, decide_true, decide_false, decide_eq_true_eq, Bool.false_eq_true, Nat.add_zero, am_rok1_0, am_rok1_1, cond_true, cond_false, am_w_nat1, true_or, or_true, false_or, or_false, true_and, and_true, false_and, and_false, Int.reduceEq, Int.reduceNeg, Int.reduceLT, Int.reduceLE, or_self, and_self, if_pos, if_neg]
        · have e : op_ok D Z (q : Int) = 0 := by unfold op_ok; rw [if_neg (not_not_intro h1), Int.toNat_natCast, if_neg h2, if_neg (by omega)]
          rw [e, if_pos rfl, if_pos rfl]
          unfold o_hd
          have hcw := (w.1.2.1 q (by omega)).2 h2b
          have w2 : DI (dup (dup D 2 q 1) 5 q 0) Z := dup_DI (st_DI w.1 (Or.inr (fun _ => hcw))) _ _ _ (by omega)
          have c3 := l_add (d := d) (h := h) w2.2.2 4 q 0
          have c4 := d_countOf (d := d) (h := h) (lga_DI w2 4 q 0).1 1
          by_cases h5 : D 2 q = 0
          · rw [am_cI]; simp (disch := omega) only [en_185, bk_185_0, bk_185_10, bk_185_30, bk_185_33, bk_185_50, bk_185_75, bk_185_95, c0, c1, c2, c3, c4, h5, dv_f0, dv_f1, dv_f2, dv_f3, dv_f4, dv_f5, dv_f6, dv_f7, dv_f8, dv_f9, dv_f10, dv_f11, dv_f12, dv_f13, dv_g0, dv_g1, dv_g2, dv_i0, dv_i1, dv_p0, dv_p1, dv_isc, dv_iscL, dv_r0, dv_r1, dv_r2, dv_r3, dv_r4, dv_r5, dv_r6, dv_r7, dv_r8, dv_r9, dv_r10, dv_r11, dv_r12, dv_r13, dv_r14, dv_r15, dv_w0, dv_w1, dv_w2, dv_w3, dv_w4, dv_w5, dv_w6, dv_w7, dv_w8, dv_w9, dv_w10, dv_w11, dv_w12, dv_w13, dv_w14, dv_w15, dvo_gfR, dvo_gfI, dvo_rd, dvo_isc, dvo_len, dup_t, dup_o, va_up_self, va_up_ne, drow_t, drow_o, Option.bind_some, Bool.cond_decide, am_oI_some, am_oV_some, am_oI_ite, am_oV_ite, am_bind_ite, Int.toNat_natCast, Int.toNat_zero, Int.reduceToNat, ite_true, ite_false, not_true_eq_false, not_false_eq_true, decide_true, decide_false, decide_eq_true_eq, Bool.false_eq_true, Nat.add_zero, am_rok1_0, am_rok1_1, cond_true, cond_false, am_w_nat1, true_or, or_true, false_or, or_false, true_and, and_true, false_and, and_false, Int.reduceEq, Int.reduceNeg, Int.reduceLT, Int.reduceLE, or_self, and_self, if_pos, if_neg]
          · rw [am_cI]; simp (disch := omega) only [en_185, bk_185_0, bk_185_10, bk_185_30, bk_185_33, bk_185_50, bk_185_75, bk_185_95, c0, c1, c2, c3, c4, h5, h2a, h2b, dv_f0, dv_f1, dv_f2, dv_f3, dv_f4, dv_f5, dv_f6, dv_f7, dv_f8, dv_f9, dv_f10, dv_f11, dv_f12, dv_f13, dv_g0, dv_g1, dv_g2, dv_i0, dv_i1, dv_p0, dv_p1, dv_isc, dv_iscL, dv_r0, dv_r1, dv_r2, dv_r3, dv_r4, dv_r5, dv_r6, dv_r7, dv_r8, dv_r9, dv_r10, dv_r11, dv_r12, dv_r13, dv_r14, dv_r15, dv_w0, dv_w1, dv_w2, dv_w3, dv_w4, dv_w5, dv_w6, dv_w7, dv_w8, dv_w9, dv_w10, dv_w11, dv_w12, dv_w13, dv_w14, dv_w15, dvo_gfR, dvo_gfI, dvo_rd, dvo_isc, dvo_len, dup_t, dup_o, va_up_self, va_up_ne, drow_t, drow_o, Option.bind_some, Bool.cond_decide, am_oI_some, am_oV_some, am_oI_ite, am_oV_ite, am_bind_ite, Int.toNat_natCast, Int.toNat_zero, Int.reduceToNat, ite_true, ite_false, not_true_eq_false, not_false_eq_true, decide_true, decide_false, decide_eq_true_eq, Bool.false_eq_true, Nat.add_zero, am_rok1_0, am_rok1_1, cond_true, cond_false, am_w_nat1, true_or, or_true, false_or, or_false, true_and, and_true, false_and, and_false, Int.reduceEq, Int.reduceNeg, Int.reduceLT, Int.reduceLE, or_self, and_self, if_pos, if_neg]
  · have e : op_ok D Z z = -1 := by unfold op_ok; rw [if_pos h1]
    rw [if_neg h1] at c0
    rw [e, if_neg (by omega), if_neg (by omega)]
    rw [am_cI]; simp (disch := omega) only [en_185, bk_185_0, c0, dv_f0, dv_f1, dv_f2, dv_f3, dv_f4, dv_f5, dv_f6, dv_f7, dv_f8, dv_f9, dv_f10, dv_f11, dv_f12, dv_f13, dv_g0, dv_g1, dv_g2, dv_i0, dv_i1, dv_p0, dv_p1, dv_isc, dv_iscL, dv_r0, dv_r1, dv_r2, dv_r3, dv_r4, dv_r5, dv_r6, dv_r7, dv_r8, dv_r9, dv_r10, dv_r11, dv_r12, dv_r13, dv_r14, dv_r15, dv_w0, dv_w1, dv_w2, dv_w3, dv_w4, dv_w5, dv_w6, dv_w7, dv_w8, dv_w9, dv_w10, dv_w11, dv_w12, dv_w13, dv_w14, dv_w15, dvo_gfR, dvo_gfI, dvo_rd, dvo_isc, dvo_len, dup_t, dup_o, va_up_self, va_up_ne, drow_t, drow_o, Option.bind_some, Bool.cond_decide, am_oI_some, am_oV_some, am_oI_ite, am_oV_ite, am_bind_ite, Int.toNat_natCast, Int.toNat_zero, Int.reduceToNat, ite_true, ite_false, not_true_eq_false, not_false_eq_true, decide_true, decide_false, decide_eq_true_eq, Bool.false_eq_true, Nat.add_zero, am_rok1_0, am_rok1_1, cond_true, cond_false, am_w_nat1, true_or, or_true, false_or, or_false, true_and, and_true, false_and, and_false, Int.reduceEq, Int.reduceNeg, Int.reduceLT, Int.reduceLE, or_self, and_self, if_pos, if_neg]
def rs_ok (D : Nat → Nat → Int) (Z : Nat) (z : Int) : Int := if ¬ (0 ≤ z ∧ z < Z) then -1 else if D 2 z.toNat = 0 then -3 else if 0 < cd_nl D z.toNat then -4 else 0
theorem d_resetByHand (w : DR D Z) (z : Int) : am_cI 194 [am_R d, am_I z] (dv d D h) = some (if rs_ok D Z z = 0 then am_w (D 4 z.toNat + 1) else rs_ok D Z z, dv d (if rs_ok D Z z = 0 then o_em D z.toNat else D) h) := by
  have hZ := w.1.1.1
  have hZ8 := w.1.1.2.1
  have c0 := c_hasZone d D h z
  rw [hZ] at c0
  by_cases h1 : 0 ≤ z ∧ z < Z
  · obtain ⟨q, hq⟩ : ∃ q : Nat, z = q := ⟨z.toNat, by omega⟩
    subst hq
    rw [if_pos h1] at c0
    rw [Int.toNat_natCast]
    have c1 := d_liveIn (d := d) (h := h) w.1.1 (z := q) (by omega)
    by_cases h2 : D 2 q = 0
    · have e : rs_ok D Z (q : Int) = -3 := by unfold rs_ok; rw [if_neg (not_not_intro h1), Int.toNat_natCast, if_pos h2]
      rw [e, if_neg (by omega), if_neg (by omega)]
      rw [am_cI]; simp (disch := omega) only [en_194, bk_194_0, bk_194_10, bk_194_22, bk_194_33, c0, h2, dv_f0, dv_f1, dv_f2, dv_f3, dv_f4, dv_f5, dv_f6, dv_f7, dv_f8, dv_f9, dv_f10, dv_f11, dv_f12, dv_f13, dv_g0, dv_g1, dv_g2, dv_i0, dv_i1, dv_p0, dv_p1, dv_isc, dv_iscL, dv_r0, dv_r1, dv_r2, dv_r3, dv_r4, dv_r5, dv_r6, dv_r7, dv_r8, dv_r9, dv_r10, dv_r11, dv_r12, dv_r13, dv_r14, dv_r15, dv_w0, dv_w1, dv_w2, dv_w3, dv_w4, dv_w5, dv_w6, dv_w7, dv_w8, dv_w9, dv_w10, dv_w11, dv_w12, dv_w13, dv_w14, dv_w15, dvo_gfR, dvo_gfI, dvo_rd, dvo_isc, dvo_len, dup_t, dup_o, va_up_self, va_up_ne, drow_t, drow_o, Option.bind_some, Bool.cond_decide, am_oI_some, am_oV_some, am_oI_ite, am_oV_ite, am_bind_ite, Int.toNat_natCast, Int.toNat_zero, Int.reduceToNat, ite_true, ite_false, not_true_eq_false, not_false_eq_true, decide_true, decide_false, decide_eq_true_eq, Bool.false_eq_true, Nat.add_zero, am_rok1_0, am_rok1_1, cond_true, cond_false, am_w_nat1, true_or, or_true, false_or, or_false, true_and, and_true, false_and, and_false, Int.reduceEq, Int.reduceNeg, Int.reduceLT, Int.reduceLE, or_self, and_self, if_pos, if_neg]
    · by_cases h3 : 0 < cd_nl D q
      · have e : rs_ok D Z (q : Int) = -4 := by unfold rs_ok; rw [if_neg (not_not_intro h1), Int.toNat_natCast, if_neg h2, if_pos h3]
        rw [e, if_neg (by omega), if_neg (by omega)]
        rw [am_cI]; simp (disch := omega) only [en_194, bk_194_0, bk_194_10, bk_194_22, bk_194_33, c0, c1, h2, dv_f0, dv_f1, dv_f2, dv_f3, dv_f4, dv_f5, dv_f6, dv_f7, dv_f8, dv_f9, dv_f10, dv_f11, dv_f12, dv_f13, dv_g0, dv_g1, dv_g2, dv_i0, dv_i1, dv_p0, dv_p1, dv_isc, dv_iscL, dv_r0, dv_r1, dv_r2, dv_r3, dv_r4, dv_r5, dv_r6, dv_r7, dv_r8, dv_r9, dv_r10, dv_r11, dv_r12, dv_r13, dv_r14, dv_r15, dv_w0, dv_w1, dv_w2, dv_w3, dv_w4, dv_w5, dv_w6, dv_w7, dv_w8, dv_w9, dv_w10, dv_w11, dv_w12, dv_w13, dv_w14, dv_w15, dvo_gfR, dvo_gfI, dvo_rd, dvo_isc, dvo_len, dup_t, dup_o, va_up_self, va_up_ne, drow_t, drow_o, Option.bind_some, Bool.cond_decide, am_oI_some, am_oV_some, am_oI_ite, am_oV_ite, am_bind_ite, Int.toNat_natCast, Int.toNat_zero, Int.reduceToNat, ite_true, ite_false, not_true_eq_false, not_false_eq_true, decide_true, decide_false, decide_eq_true_eq, Bool.false_eq_true, Nat.add_zero, am_rok1_0, am_rok1_1, cond_true, cond_false, am_w_nat1, true_or, or_true, false_or, or_false, true_and, and_true, false_and, and_false, Int.reduceEq, Int.reduceNeg, Int.reduceLT, Int.reduceLE, or_self, and_self, if_pos, if_neg]
      · have e : rs_ok D Z (q : Int) = 0 := by unfold rs_ok; rw [if_neg (not_not_intro h1), Int.toNat_natCast, if_neg h2, if_neg h3]
        rw [e, if_pos rfl, if_pos rfl]
        have c2 := d_emptyZone (d := d) (h := h) w.1 w.2.2.2 (z := q) (by omega)
        have e4 : o_em D q 4 q = am_w (D 4 q + 1) := by
          unfold o_em
          rw [lga_o _ _ _ _ (by omega), la_o _ (by omega), o_em2_o _ _ (by omega)]
          unfold o_em1
          rw [dup_t, va_up_self]
        rw [am_cI]; simp (disch := omega) only [en_194, bk_194_0, bk_194_10, bk_194_22, bk_194_33, c0, c1, c2, h2, e4, dv_f0, dv_f1, dv_f2, dv_f3, dv_f4, dv_f5, dv_f6, dv_f7, dv_f8, dv_f9, dv_f10, dv_f11, dv_f12, dv_f13, dv_g0, dv_g1, dv_g2, dv_i0, dv_i1, dv_p0, dv_p1, dv_isc, dv_iscL, dv_r0, dv_r1, dv_r2, dv_r3, dv_r4, dv_r5, dv_r6, dv_r7, dv_r8, dv_r9, dv_r10, dv_r11, dv_r12, dv_r13, dv_r14, dv_r15, dv_w0, dv_w1, dv_w2, dv_w3, dv_w4, dv_w5, dv_w6, dv_w7, dv_w8, dv_w9, dv_w10, dv_w11, dv_w12, dv_w13, dv_w14, dv_w15, dvo_gfR, dvo_gfI, dvo_rd, dvo_isc, dvo_len, dup_t, dup_o, va_up_self, va_up_ne, drow_t, drow_o, Option.bind_some, Bool.cond_decide, am_oI_some, am_oV_some, am_oI_ite, am_oV_ite, am_bind_ite, Int.toNat_natCast, Int.toNat_zero, Int.reduceToNat, ite_true, ite_false, not_true_eq_false, not_false_eq_true, decide_true, decide_false, decide_eq_true_eq, Bool.false_eq_true, Nat.add_zero, am_rok1_0, am_rok1_1, cond_true, cond_false, am_w_nat1, true_or, or_true, false_or, or_false, true_and, and_true, false_and, and_false, Int.reduceEq, Int.reduceNeg, Int.reduceLT, Int.reduceLE, or_self, and_self, if_pos, if_neg]
  · have e : rs_ok D Z z = -1 := by unfold rs_ok; rw [if_pos h1]
    rw [if_neg h1] at c0
    rw [e, if_neg (by omega), if_neg (by omega)]
    rw [am_cI]; simp (disch := omega) only [en_194, bk_194_0, bk_194_10, bk_194_22, bk_194_33, c0, dv_f0, dv_f1, dv_f2, dv_f3, dv_f4, dv_f5, dv_f6, dv_f7, dv_f8, dv_f9, dv_f10, dv_f11, dv_f12, dv_f13, dv_g0, dv_g1, dv_g2, dv_i0, dv_i1, dv_p0, dv_p1, dv_isc, dv_iscL, dv_r0, dv_r1, dv_r2, dv_r3, dv_r4, dv_r5, dv_r6, dv_r7, dv_r8, dv_r9, dv_r10, dv_r11, dv_r12, dv_r13, dv_r14, dv_r15, dv_w0, dv_w1, dv_w2, dv_w3, dv_w4, dv_w5, dv_w6, dv_w7, dv_w8, dv_w9, dv_w10, dv_w11, dv_w12, dv_w13, dv_w14, dv_w15, dvo_gfR, dvo_gfI, dvo_rd, dvo_isc, dvo_len, dup_t, dup_o, va_up_self, va_up_ne, drow_t, drow_o, Option.bind_some, Bool.cond_decide, am_oI_some, am_oV_some, am_oI_ite, am_oV_ite, am_bind_ite, Int.toNat_natCast, Int.toNat_zero, Int.reduceToNat, ite_true, ite_false, not_true_eq_false, not_false_eq_true, decide_true, decide_false, decide_eq_true_eq, Bool.false_eq_true, Nat.add_zero, am_rok1_0, am_rok1_1, cond_true, cond_false, am_w_nat1, true_or, or_true, false_or, or_false, true_and, and_true, false_and, and_false, Int.reduceEq, Int.reduceNeg, Int.reduceLT, Int.reduceLE, or_self, and_self, if_pos, if_neg]
end DRVC
