/-! ===== the class's drive, on ===== -/
/-- the drive's rows hold what they can hold -/
def DW (D : Nat → Nat → Int) (Z : Nat) : Prop := D 0 0 = Z ∧ Z ≤ 8 ∧ (0 ≤ D 0 1 ∧ D 0 1 ≤ 16) ∧ (0 ≤ D 0 4 ∧ D 0 4 ≤ 3) ∧ (∀ z, z < 8 → 0 ≤ D 3 z ∧ D 3 z ≤ 16) ∧ (∀ z i, z < 8 → ((i : Nat) : Int) < D 3 z → 0 ≤ D 7 (16 * z + i) ∧ D 7 (16 * z + i) < 32) ∧ ∀ k, k < 32 → D 10 k = -1 ∨ (0 ≤ D 10 k ∧ D 10 k < 128)
/-- how many blocks of a zone live -/
def cd_nl (D : Nat → Nat → Int) (z : Nat) : Nat := cnt (fun i => cd_live D (16 * z + i)) (D 3 z).toNat
section DRV2
variable {d : Nat} {D : Nat → Nat → Int} {h : am_H} {Z : Nat}
theorem d_liveIn (w : DW D Z) {z : Nat} (hz : z < 8) : am_cI 79 [am_R d, am_I z] (dv d D h) = some ((cd_nl D z : Int), dv d D h) := by
  obtain ⟨-, -, -, -, w3, w5, -⟩ := w
  have h3 := w3 z hz
  exact c_liveIn d D h z hz (D 3 z).toNat (by omega) (by omega) (fun i hi => w5 z i hz (by omega))
theorem cd_nl_le (w : DW D Z) {z : Nat} (hz : z < 8) : cd_nl D z ≤ 16 := by
  have := cnt_le (fun i => cd_live D (16 * z + i)) (D 3 z).toNat
  have h3 := w.2.2.2.2.1 z hz
  unfold cd_nl
  omega
/-- dead places -/
def cd_dead (D : Nat → Nat → Int) (z : Nat) : Int := D 0 1 - cd_nl D z
theorem d_deadIn (w : DW D Z) {z : Nat} (hz : z < 8) : am_cI 80 [am_R d, am_I z] (dv d D h) = some (cd_dead D z, dv d D h) := by
  have c1 := d_liveIn (d := d) (h := h) w hz
  have h1 := cd_nl_le w hz
  have h2 := w.2.2.1
  rw [am_cI]; simp (disch := omega) only [en_80, bk_80_0, c1, am_w_id, dv_f0, dv_f1, dv_f2, dv_f3, dv_f4, dv_f5, dv_f6, dv_f7, dv_f8, dv_f9, dv_f10, dv_f11, dv_f12, dv_f13, dv_g0, dv_g1, dv_g2, dv_i0, dv_i1, dv_p0, dv_p1, dv_isc, dv_iscL, dv_r0, dv_r1, dv_r2, dv_r3, dv_r4, dv_r5, dv_r6, dv_r7, dv_r8, dv_r9, dv_r10, dv_r11, dv_r12, dv_r13, dv_r14, dv_r15, Option.bind_some, Bool.cond_decide, am_oI_some, am_oV_some, am_oI_ite, am_oV_ite, am_bind_ite, Int.toNat_natCast, Int.toNat_zero, Int.reduceToNat, ite_true, ite_false, not_true_eq_false, not_false_eq_true, decide_true, decide_false, decide_eq_true_eq, Bool.false_eq_true, Nat.add_zero, am_rok1_0, am_rok1_1, cond_true, cond_false, am_w_nat1, true_or, or_true, false_or, or_false, true_and, and_true, false_and, and_false, Int.reduceEq, Int.reduceNeg, Int.reduceLT, Int.reduceLE, or_self, and_self, if_pos, if_neg]
  rfl
theorem d_countBlocks (w : DW D Z) : am_cI 275 [am_R d] (dv d D h) = some (sm (D 3) Z, dv d D h) := by
  have hb : ∀ n, n ≤ 8 → 0 ≤ sm (D 3) n ∧ sm (D 3) n ≤ 16 * n := by
    intro n
    induction n with
    | zero => intro _; show (0 : Int) ≤ 0 ∧ (0 : Int) ≤ 16 * ((0 : Nat) : Int); omega
    | succ n ih =>
      intro hn
      have h1 := ih (by omega)
      have h2 := w.2.2.2.2.1 n (by omega)
      show 0 ≤ sm (D 3) n + D 3 n ∧ sm (D 3) n + D 3 n ≤ _
      omega
  have hZ := w.1
  have hZ8 := w.2.1
  have step : ∀ z, z < Z → am_run am_ms 275 4 [am_R d, am_I (sm (D 3) z), am_I z] [] (dv d D h) = am_run am_ms 275 4 [am_R d, am_I (sm (D 3) (z + 1)), am_I ((z + 1 : Nat) : Int)] [] (dv d D h) := by
    intro z hz
    have h1 := hb z (by omega)
    have h2 := w.2.2.2.2.1 z (by omega)
    rw [bk_275_4]
    simp (disch := omega) only [bk_275_26, bk_275_29, hZ, sm, am_w_id, dv_f0, dv_f1, dv_f2, dv_f3, dv_f4, dv_f5, dv_f6, dv_f7, dv_f8, dv_f9, dv_f10, dv_f11, dv_f12, dv_f13, dv_g0, dv_g1, dv_g2, dv_i0, dv_i1, dv_p0, dv_p1, dv_isc, dv_iscL, dv_r0, dv_r1, dv_r2, dv_r3, dv_r4, dv_r5, dv_r6, dv_r7, dv_r8, dv_r9, dv_r10, dv_r11, dv_r12, dv_r13, dv_r14, dv_r15, Option.bind_some, Bool.cond_decide, am_oI_some, am_oV_some, am_oI_ite, am_oV_ite, am_bind_ite, Int.toNat_natCast, Int.toNat_zero, Int.reduceToNat, ite_true, ite_false, not_true_eq_false, not_false_eq_true, decide_true, decide_false, decide_eq_true_eq, Bool.false_eq_true, Nat.add_zero, am_rok1_0, am_rok1_1, cond_true, cond_false, am_w_nat1, true_or, or_true, false_or, or_false, true_and, and_true, false_and, and_false, Int.reduceEq, Int.reduceNeg, Int.reduceLT, Int.reduceLE, or_self, and_self, if_pos, if_neg]
    congr 3
  have key : am_run am_ms 275 4 [am_R d, am_I 0, am_I 0] [] (dv d D h) = am_run am_ms 275 4 [am_R d, am_I (sm (D 3) Z), am_I Z] [] (dv d D h) := loop_to (fun z => am_run am_ms 275 4 [am_R d, am_I (sm (D 3) z), am_I z] [] (dv d D h)) Z step
  rw [am_cI, en_275, bk_275_0, key, bk_275_4]
  simp (disch := omega) only [bk_275_26, bk_275_29, hZ, dv_f0, dv_f1, dv_f2, dv_f3, dv_f4, dv_f5, dv_f6, dv_f7, dv_f8, dv_f9, dv_f10, dv_f11, dv_f12, dv_f13, dv_g0, dv_g1, dv_g2, dv_i0, dv_i1, dv_p0, dv_p1, dv_isc, dv_iscL, dv_r0, dv_r1, dv_r2, dv_r3, dv_r4, dv_r5, dv_r6, dv_r7, dv_r8, dv_r9, dv_r10, dv_r11, dv_r12, dv_r13, dv_r14, dv_r15, Option.bind_some, Bool.cond_decide, am_oI_some, am_oV_some, am_oI_ite, am_oV_ite, am_bind_ite, Int.toNat_natCast, Int.toNat_zero, Int.reduceToNat, ite_true, ite_false, not_true_eq_false, not_false_eq_true, decide_true, decide_false, decide_eq_true_eq, Bool.false_eq_true, Nat.add_zero, am_rok1_0, am_rok1_1, cond_true, cond_false, am_w_nat1, true_or, or_true, false_or, or_false, true_and, and_true, false_and, and_false, Int.reduceEq, Int.reduceNeg, Int.reduceLT, Int.reduceLE, or_self, and_self, if_pos, if_neg]
theorem d_appended : am_cI 221 [am_R d] (dv d D h) = some (am_w (D 1 0 + D 1 1), dv d D h) := by
  rw [am_cI]; simp (disch := omega) only [en_221, bk_221_0, dv_f0, dv_f1, dv_f2, dv_f3, dv_f4, dv_f5, dv_f6, dv_f7, dv_f8, dv_f9, dv_f10, dv_f11, dv_f12, dv_f13, dv_g0, dv_g1, dv_g2, dv_i0, dv_i1, dv_p0, dv_p1, dv_isc, dv_iscL, dv_r0, dv_r1, dv_r2, dv_r3, dv_r4, dv_r5, dv_r6, dv_r7, dv_r8, dv_r9, dv_r10, dv_r11, dv_r12, dv_r13, dv_r14, dv_r15, Option.bind_some, Bool.cond_decide, am_oI_some, am_oV_some, am_oI_ite, am_oV_ite, am_bind_ite, Int.toNat_natCast, Int.toNat_zero, Int.reduceToNat, ite_true, ite_false, not_true_eq_false, not_false_eq_true, decide_true, decide_false, decide_eq_true_eq, Bool.false_eq_true, Nat.add_zero, am_rok1_0, am_rok1_1, cond_true, cond_false, am_w_nat1, true_or, or_true, false_or, or_false, true_and, and_true, false_and, and_false, Int.reduceEq, Int.reduceNeg, Int.reduceLT, Int.reduceLE, or_self, and_self, if_pos, if_neg]
def cd_many (D : Nat → Nat → Int) (Z : Nat) (x : Int) : Nat := cnt (fun z => decide (D 2 z = x)) Z
theorem d_countOf (w : DW D Z) (x : Int) : am_cI 74 [am_R d, am_I x] (dv d D h) = some ((cd_many D Z x : Int), dv d D h) := c_countOf d D h x Z w.1 w.2.1
theorem cd_many_le (D : Nat → Nat → Int) (Z : Nat) (x : Int) : cd_many D Z x ≤ Z := cnt_le _ _
theorem d_countActive (w : DW D Z) : am_cI 86 [am_R d] (dv d D h) = some (((cd_many D Z 1 + cd_many D Z 2 : Nat) : Int), dv d D h) := by
  have c1 := fun x => d_countOf (d := d) (h := h) w x
  have h1 := cd_many_le D Z 1
  have h2 := cd_many_le D Z 2
  have h3 := w.2.1
  rw [am_cI]; simp (disch := omega) only [en_86, bk_86_0, c1, am_w_id, dv_f0, dv_f1, dv_f2, dv_f3, dv_f4, dv_f5, dv_f6, dv_f7, dv_f8, dv_f9, dv_f10, dv_f11, dv_f12, dv_f13, dv_g0, dv_g1, dv_g2, dv_i0, dv_i1, dv_p0, dv_p1, dv_isc, dv_iscL, dv_r0, dv_r1, dv_r2, dv_r3, dv_r4, dv_r5, dv_r6, dv_r7, dv_r8, dv_r9, dv_r10, dv_r11, dv_r12, dv_r13, dv_r14, dv_r15, Option.bind_some, Bool.cond_decide, am_oI_some, am_oV_some, am_oI_ite, am_oV_ite, am_bind_ite, Int.toNat_natCast, Int.toNat_zero, Int.reduceToNat, ite_true, ite_false, not_true_eq_false, not_false_eq_true, decide_true, decide_false, decide_eq_true_eq, Bool.false_eq_true, Nat.add_zero, am_rok1_0, am_rok1_1, cond_true, cond_false, am_w_nat1, true_or, or_true, false_or, or_false, true_and, and_true, false_and, and_false, Int.reduceEq, Int.reduceNeg, Int.reduceLT, Int.reduceLE, or_self, and_self, if_pos, if_neg]
  rw [Int.natCast_add]
/-- a zone's age -/
def cd_age (D : Nat → Nat → Int) (z : Nat) : Int := if mxs (fun i => D 9 (16 * z + i)) (-1) (D 3 z).toNat = -1 then 0 else am_w (D 1 4 - mxs (fun i => D 9 (16 * z + i)) (-1) (D 3 z).toNat)
theorem d_ageOf (w : DW D Z) {z : Nat} (hz : z < 8) : am_cI 82 [am_R d, am_I z] (dv d D h) = some (cd_age D z, dv d D h) := by
  have h3 := w.2.2.2.2.1 z hz
  obtain ⟨P, hP⟩ : ∃ P : Nat, D 3 z = P := ⟨(D 3 z).toNat, by omega⟩
  have step : ∀ i, i < P → am_run am_ms 82 10 [am_R d, am_I z, am_I (mxs (fun i => D 9 (16 * z + i)) (-1) i), am_I ((16 * z : Nat) : Int), am_I i] [] (dv d D h) = am_run am_ms 82 10 [am_R d, am_I z, am_I (mxs (fun i => D 9 (16 * z + i)) (-1) (i + 1)), am_I ((16 * z : Nat) : Int), am_I ((i + 1 : Nat) : Int)] [] (dv d D h) := by
    intro i hi
    have ew : am_w (((16 * z : Nat) : Int) + (i : Int)) = ((16 * z + i : Nat) : Int) := by rw [am_w_id (by omega) (by omega)]; omega
    rw [bk_82_10]
    simp (disch := omega) only [bk_82_34, bk_82_41, bk_82_50, bk_82_58, ew, hP, mxs, dv_f0, dv_f1, dv_f2, dv_f3, dv_f4, dv_f5, dv_f6, dv_f7, dv_f8, dv_f9, dv_f10, dv_f11, dv_f12, dv_f13, dv_g0, dv_g1, dv_g2, dv_i0, dv_i1, dv_p0, dv_p1, dv_isc, dv_iscL, dv_r0, dv_r1, dv_r2, dv_r3, dv_r4, dv_r5, dv_r6, dv_r7, dv_r8, dv_r9, dv_r10, dv_r11, dv_r12, dv_r13, dv_r14, dv_r15, Option.bind_some, Bool.cond_decide, am_oI_some, am_oV_some, am_oI_ite, am_oV_ite, am_bind_ite, Int.toNat_natCast, Int.toNat_zero, Int.reduceToNat, ite_true, ite_false, not_true_eq_false, not_false_eq_true, decide_true, decide_false, decide_eq_true_eq, Bool.false_eq_true, Nat.add_zero, am_rok1_0, am_rok1_1, cond_true, cond_false, am_w_nat1, true_or, or_true, false_or, or_false, true_and, and_true, false_and, and_false, Int.reduceEq, Int.reduceNeg, Int.reduceLT, Int.reduceLE, or_self, and_self, if_pos, if_neg]
  have key : am_run am_ms 82 10 [am_R d, am_I z, am_I (-1), am_I ((16 * z : Nat) : Int), am_I 0] [] (dv d D h) = am_run am_ms 82 10 [am_R d, am_I z, am_I (mxs (fun i => D 9 (16 * z + i)) (-1) P), am_I ((16 * z : Nat) : Int), am_I P] [] (dv d D h) := loop_to (fun i => am_run am_ms 82 10 [am_R d, am_I z, am_I (mxs (fun i => D 9 (16 * z + i)) (-1) i), am_I ((16 * z : Nat) : Int), am_I i] [] (dv d D h)) P step
  have e0 : am_w ((z : Int) * 16) = ((16 * z : Nat) : Int) := by rw [am_w_id (by omega) (by omega)]; omega
  rw [am_cI, en_82, bk_82_0, e0, key, bk_82_10]
  unfold cd_age
  rw [show (D 3 z).toNat = P by omega]
  by_cases e : mxs (fun i => D 9 (16 * z + i)) (-1) P = -1
  · simp (disch := omega) only [bk_82_34, bk_82_41, bk_82_50, bk_82_58, hP, e, dv_f0, dv_f1, dv_f2, dv_f3, dv_f4, dv_f5, dv_f6, dv_f7, dv_f8, dv_f9, dv_f10, dv_f11, dv_f12, dv_f13, dv_g0, dv_g1, dv_g2, dv_i0, dv_i1, dv_p0, dv_p1, dv_isc, dv_iscL, dv_r0, dv_r1, dv_r2, dv_r3, dv_r4, dv_r5, dv_r6, dv_r7, dv_r8, dv_r9, dv_r10, dv_r11, dv_r12, dv_r13, dv_r14, dv_r15, Option.bind_some, Bool.cond_decide, am_oI_some, am_oV_some, am_oI_ite, am_oV_ite, am_bind_ite, Int.toNat_natCast, Int.toNat_zero, Int.reduceToNat, ite_true, ite_false, not_true_eq_false, not_false_eq_true, decide_true, decide_false, decide_eq_true_eq, Bool.false_eq_true, Nat.add_zero, am_rok1_0, am_rok1_1, cond_true, cond_false, am_w_nat1, true_or, or_true, false_or, or_false, true_and, and_true, false_and, and_false, Int.reduceEq, Int.reduceNeg, Int.reduceLT, Int.reduceLE, or_self, and_self, if_pos, if_neg]
  · simp (disch := omega) only [bk_82_34, bk_82_41, bk_82_50, bk_82_58, hP, e, dv_f0, dv_f1, dv_f2, dv_f3, dv_f4, dv_f5, dv_f6, dv_f7, dv_f8, dv_f9, dv_f10, dv_f11, dv_f12, dv_f13, dv_g0, dv_g1, dv_g2, dv_i0, dv_i1, dv_p0, dv_p1, dv_isc, dv_iscL, dv_r0, dv_r1, dv_r2, dv_r3, dv_r4, dv_r5, dv_r6, dv_r7, dv_r8, dv_r9, dv_r10, dv_r11, dv_r12, dv_r13, dv_r14, dv_r15, Option.bind_some, Bool.cond_decide, am_oI_some, am_oV_some, am_oI_ite, am_oV_ite, am_bind_ite, Int.toNat_natCast, Int.toNat_zero, Int.reduceToNat, ite_true, ite_false, not_true_eq_false, not_false_eq_true, decide_true, decide_false, decide_eq_true_eq, Bool.false_eq_true, Nat.add_zero, am_rok1_0, am_rok1_1, cond_true, cond_false, am_w_nat1, true_or, or_true, false_or, or_false, true_and, and_true, false_and, and_false, Int.reduceEq, Int.reduceNeg, Int.reduceLT, Int.reduceLE, or_self, and_self, if_pos, if_neg]
/-- whose stream a zone is -/
def cd_so (D : Nat → Nat → Int) (z : Int) : Int := fnd (fun s => decide (D 6 s = z)) (D 0 4).toNat
theorem d_streamOf (w : DW D Z) (z : Int) : am_cI 88 [am_R d, am_I z] (dv d D h) = some (cd_so D z, dv d D h) := by
  have h4 := w.2.2.2.1
  obtain ⟨S, hS⟩ : ∃ S : Nat, D 0 4 = S := ⟨(D 0 4).toNat, by omega⟩
  unfold cd_so
  rw [show (D 0 4).toNat = S by omega]
  have step : ∀ s, s < S → ¬ D 6 s = z → am_run am_ms 88 2 [am_R d, am_I z, am_I s] [] (dv d D h) = am_run am_ms 88 2 [am_R d, am_I z, am_I ((s + 1 : Nat) : Int)] [] (dv d D h) := by
    intro s hs hne
    rw [bk_88_2]
    simp (disch := omega) only [bk_88_24, bk_88_30, hS, hne, dv_f0, dv_f1, dv_f2, dv_f3, dv_f4, dv_f5, dv_f6, dv_f7, dv_f8, dv_f9, dv_f10, dv_f11, dv_f12, dv_f13, dv_g0, dv_g1, dv_g2, dv_i0, dv_i1, dv_p0, dv_p1, dv_isc, dv_iscL, dv_r0, dv_r1, dv_r2, dv_r3, dv_r4, dv_r5, dv_r6, dv_r7, dv_r8, dv_r9, dv_r10, dv_r11, dv_r12, dv_r13, dv_r14, dv_r15, Option.bind_some, Bool.cond_decide, am_oI_some, am_oV_some, am_oI_ite, am_oV_ite, am_bind_ite, Int.toNat_natCast, Int.toNat_zero, Int.reduceToNat, ite_true, ite_false, not_true_eq_false, not_false_eq_true, decide_true, decide_false, decide_eq_true_eq, Bool.false_eq_true, Nat.add_zero, am_rok1_0, am_rok1_1, cond_true, cond_false, am_w_nat1, true_or, or_true, false_or, or_false, true_and, and_true, false_and, and_false, Int.reduceEq, Int.reduceNeg, Int.reduceLT, Int.reduceLE, or_self, and_self, if_pos, if_neg]
  rcases first_or (fun s => decide (D 6 s = z)) S with hno | ⟨k, k1, k2, k3⟩
  · have key : am_run am_ms 88 2 [am_R d, am_I z, am_I 0] [] (dv d D h) = am_run am_ms 88 2 [am_R d, am_I z, am_I S] [] (dv d D h) := loop_to (fun s => am_run am_ms 88 2 [am_R d, am_I z, am_I s] [] (dv d D h)) S (fun s hs => step s hs (of_decide_eq_false (hno s hs)))
    rw [am_cI, en_88, bk_88_0, key, bk_88_2, fnd_none hno]
    simp (disch := omega) only [bk_88_24, bk_88_30, hS, dv_f0, dv_f1, dv_f2, dv_f3, dv_f4, dv_f5, dv_f6, dv_f7, dv_f8, dv_f9, dv_f10, dv_f11, dv_f12, dv_f13, dv_g0, dv_g1, dv_g2, dv_i0, dv_i1, dv_p0, dv_p1, dv_isc, dv_iscL, dv_r0, dv_r1, dv_r2, dv_r3, dv_r4, dv_r5, dv_r6, dv_r7, dv_r8, dv_r9, dv_r10, dv_r11, dv_r12, dv_r13, dv_r14, dv_r15, Option.bind_some, Bool.cond_decide, am_oI_some, am_oV_some, am_oI_ite, am_oV_ite, am_bind_ite, Int.toNat_natCast, Int.toNat_zero, Int.reduceToNat, ite_true, ite_false, not_true_eq_false, not_false_eq_true, decide_true, decide_false, decide_eq_true_eq, Bool.false_eq_true, Nat.add_zero, am_rok1_0, am_rok1_1, cond_true, cond_false, am_w_nat1, true_or, or_true, false_or, or_false, true_and, and_true, false_and, and_false, Int.reduceEq, Int.reduceNeg, Int.reduceLT, Int.reduceLE, or_self, and_self, if_pos, if_neg]
  · have key : am_run am_ms 88 2 [am_R d, am_I z, am_I 0] [] (dv d D h) = am_run am_ms 88 2 [am_R d, am_I z, am_I k] [] (dv d D h) := loop_to (fun s => am_run am_ms 88 2 [am_R d, am_I z, am_I s] [] (dv d D h)) k (fun s hs => step s (by omega) (of_decide_eq_false (k3 s hs)))
    have k2' : D 6 k = z := of_decide_eq_true k2
    rw [am_cI, en_88, bk_88_0, key, bk_88_2, fnd_at k2 k3 S k1]
    simp (disch := omega) only [bk_88_24, bk_88_30, hS, k2', dv_f0, dv_f1, dv_f2, dv_f3, dv_f4, dv_f5, dv_f6, dv_f7, dv_f8, dv_f9, dv_f10, dv_f11, dv_f12, dv_f13, dv_g0, dv_g1, dv_g2, dv_i0, dv_i1, dv_p0, dv_p1, dv_isc, dv_iscL, dv_r0, dv_r1, dv_r2, dv_r3, dv_r4, dv_r5, dv_r6, dv_r7, dv_r8, dv_r9, dv_r10, dv_r11, dv_r12, dv_r13, dv_r14, dv_r15, Option.bind_some, Bool.cond_decide, am_oI_some, am_oV_some, am_oI_ite, am_oV_ite, am_bind_ite, Int.toNat_natCast, Int.toNat_zero, Int.reduceToNat, ite_true, ite_false, not_true_eq_false, not_false_eq_true, decide_true, decide_false, decide_eq_true_eq, Bool.false_eq_true, Nat.add_zero, am_rok1_0, am_rok1_1, cond_true, cond_false, am_w_nat1, true_or, or_true, false_or, or_false, true_and, and_true, false_and, and_false, Int.reduceEq, Int.reduceNeg, Int.reduceLT, Int.reduceLE, or_self, and_self, if_pos, if_neg]
end DRV2
