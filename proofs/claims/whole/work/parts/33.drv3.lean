/-! ===== the class's drive: scores, rooms, what is taken ===== -/
/-- the best of the first n that are such (-1: none) -/
def bst (P : Nat → Bool) (lt : Nat → Nat → Bool) : Nat → Int
  | 0 => -1
  | n + 1 => if P n = true then (if bst P lt n = -1 ∨ lt n (bst P lt n).toNat = true then n else bst P lt n) else bst P lt n
theorem bst_le (P : Nat → Bool) (lt : Nat → Nat → Bool) (n : Nat) : -1 ≤ bst P lt n ∧ bst P lt n < n := by
  induction n with
  | zero => exact ⟨Int.le_refl _, by show (-1 : Int) < 0; omega⟩
  | succ n ih =>
    unfold bst
    split
    · split <;> omega
    · omega
theorem bst_at {P : Nat → Bool} {lt : Nat → Nat → Bool} {n : Nat} (h : ¬ bst P lt n = -1) : P (bst P lt n).toNat = true := by
  induction n with
  | zero => exact absurd rfl h
  | succ n ih =>
    unfold bst at h ⊢
    split at h
    · rename_i h1
      rw [if_pos h1]
      split at h
      · rename_i h2
        rw [if_pos h2]
        exact h1
      · rename_i h2
        rw [if_neg h2]
        exact ih h
    · rename_i h1
      rw [if_neg h1]
      exact ih h
theorem bst_congr {P Q : Nat → Bool} {lt lt' : Nat → Nat → Bool} {n : Nat} (h : ∀ j, j < n → P j = Q j) (h' : ∀ j k, j < n → k < n → P j = true → P k = true → lt j k = lt' j k) : bst P lt n = bst Q lt' n := by
  induction n with
  | zero => rfl
  | succ n ih =>
    have e := ih (fun j hj => h j (by omega)) (fun j k hj hk => h' j k (by omega) (by omega))
    have hb := bst_le P lt n
    unfold bst
    rw [← h n (by omega), ← e]
    cases hp : P n with
    | false => rfl
    | true =>
      by_cases h1 : bst P lt n = -1
      · rw [h1]; rfl
      · rw [h' n (bst P lt n).toNat (by omega) (by omega) hp (bst_at h1)]
/-- a zone's score by a policy -/
def cd_score (D : Nat → Nat → Int) (z : Nat) (p : Int) : Int := if p = 1 then (if D 0 1 + cd_nl D z ≤ 0 then 0 else am_w (am_ldiv (am_q ((am_q (1000 * cd_dead D z)) * cd_age D z)) (D 0 1 + cd_nl D z))) else if p = 2 then cd_age D z else if p = 3 then am_w ((am_w ((am_w (1000 - D 4 z)) * 20)) + cd_dead D z) else cd_dead D z
/-- a zone can be cleaned -/
def cd_toC (D : Nat → Nat → Int) (z : Nat) : Bool := decide (D 2 z = 3 ∧ 0 < cd_dead D z)
/-- the zone that is cleaned next -/
def cd_zc (D : Nat → Nat → Int) (Z : Nat) (p : Int) : Int := bst (cd_toC D) (fun z b => decide (cd_score D b p < cd_score D z p)) Z
/-- a stream lacks a zone -/
def cd_lz (D : Nat → Nat → Int) (s : Nat) : Bool := decide (¬ (0 ≤ D 6 s ∧ D 6 s < D 0 0) ∨ D 2 (D 6 s).toNat = 3)
def cd_room (D : Nat → Nat → Int) (Z : Nat) : Int := (cd_many D Z 0) * D 0 1 + if cd_lz D (D 0 4 - 1).toNat = true then 0 else D 0 1 - D 3 (D 6 (D 0 4 - 1).toNat).toNat
/-- the stream of a key's next block -/
def cd_sf (D : Nat → Nat → Int) (k : Nat) : Int :=
  if D 10 k = -1 then D 0 4 - 1 else if D 0 4 = 2 then (if am_w ((am_w (D 1 4 + 1)) - D 9 (D 10 k).toNat) ≤ 8 then 0 else 1) else if D 0 4 = 3 ∧ am_w ((am_w (D 1 4 + 1)) - D 9 (D 10 k).toNat) ≤ 16 then (if am_w ((am_w (D 1 4 + 1)) - D 9 (D 10 k).toNat) ≤ 4 then 0 else 1) else D 0 4 - 1
section DRV3
variable {d : Nat} {D : Nat → Nat → Int} {h : am_H} {Z : Nat}
theorem d_streamFor (w : DW D Z) {k : Nat} (hk : k < 32) : am_cI 71 [am_R d, am_I k] (dv d D h) = some (cd_sf D k, dv d D h) := by
  have h4 := w.2.2.2.1
  have hl := w.2.2.2.2.2.2 k hk
  have ew : am_w (D 0 4 - 1) = D 0 4 - 1 := am_w_id (by omega) (by omega)
  unfold cd_sf
  by_cases h1 : D 10 k = -1
  · rw [am_cI]; simp (disch := omega) only [en_71, bk_71_0, bk_71_20, bk_71_21, bk_71_41, bk_71_57, bk_71_58, bk_71_59, bk_71_79, bk_71_80, bk_71_81, h1, ew, dv_f0, dv_f1, dv_f2, dv_f3, dv_f4, dv_f5, dv_f6, dv_f7, dv_f8, dv_f9, dv_f10, dv_f11, dv_f12, dv_f13, dv_g0, dv_g1, dv_g2, dv_i0, dv_i1, dv_p0, dv_p1, dv_isc, dv_iscL, dv_r0, dv_r1, dv_r2, dv_r3, dv_r4, dv_r5, dv_r6, dv_r7, dv_r8, dv_r9, dv_r10, dv_r11, dv_r12, dv_r13, dv_r14, dv_r15, Option.bind_some, Bool.cond_decide, am_oI_some, am_oV_some, am_oI_ite, am_oV_ite, am_bind_ite, Int.toNat_natCast, Int.toNat_zero, Int.reduceToNat, ite_true, ite_false, not_true_eq_false, not_false_eq_true, decide_true, decide_false, decide_eq_true_eq, Bool.false_eq_true, Nat.add_zero, am_rok1_0, am_rok1_1, cond_true, cond_false, am_w_nat1, true_or, or_true, false_or, or_false, true_and, and_true, false_and, and_false, Int.reduceEq, Int.reduceNeg, Int.reduceLT, Int.reduceLE, or_self, and_self, if_pos, if_neg]
  · have h2 : 0 ≤ D 10 k ∧ D 10 k < 128 := hl.resolve_left h1
    generalize eX : am_w ((am_w (D 1 4 + 1)) - D 9 (D 10 k).toNat) = X
    by_cases h3 : D 0 4 = 2
    · by_cases h5 : X ≤ 8
      · rw [am_cI]; simp (disch := omega) only [en_71, bk_71_0, bk_71_20, bk_71_21, bk_71_41, bk_71_57, bk_71_58, bk_71_59, bk_71_79, bk_71_80, bk_71_81, h1, ew, eX, dv_f0, dv_f1, dv_f2, dv_f3, dv_f4, dv_f5, dv_f6, dv_f7, dv_f8, dv_f9, dv_f10, dv_f11, dv_f12, dv_f13, dv_g0, dv_g1, dv_g2, dv_i0, dv_i1, dv_p0, dv_p1, dv_isc, dv_iscL, dv_r0, dv_r1, dv_r2, dv_r3, dv_r4, dv_r5, dv_r6, dv_r7, dv_r8, dv_r9, dv_r10, dv_r11, dv_r12, dv_r13, dv_r14, dv_r15, Option.bind_some, Bool.cond_decide, am_oI_some, am_oV_some, am_oI_ite, am_oV_ite, am_bind_ite, Int.toNat_natCast, Int.toNat_zero, Int.reduceToNat, ite_true, ite_false, not_true_eq_false, not_false_eq_true, decide_true, decide_false, decide_eq_true_eq, Bool.false_eq_true, Nat.add_zero, am_rok1_0, am_rok1_1, cond_true, cond_false, am_w_nat1, true_or, or_true, false_or, or_false, true_and, and_true, false_and, and_false, Int.reduceEq, Int.reduceNeg, Int.reduceLT, Int.reduceLE, or_self, and_self, if_pos, if_neg]
      · rw [am_cI]; simp (disch := omega) only [en_71, bk_71_0, bk_71_20, bk_71_21, bk_71_41, bk_71_57, bk_71_58, bk_71_59, bk_71_79, bk_71_80, bk_71_81, h1, ew, eX, dv_f0, dv_f1, dv_f2, dv_f3, dv_f4, dv_f5, dv_f6, dv_f7, dv_f8, dv_f9, dv_f10, dv_f11, dv_f12, dv_f13, dv_g0, dv_g1, dv_g2, dv_i0, dv_i1, dv_p0, dv_p1, dv_isc, dv_iscL, dv_r0, dv_r1, dv_r2, dv_r3, dv_r4, dv_r5, dv_r6, dv_r7, dv_r8, dv_r9, dv_r10, dv_r11, dv_r12, dv_r13, dv_r14, dv_r15, Option.bind_some, Bool.cond_decide, am_oI_some, am_oV_some, am_oI_ite, am_oV_ite, am_bind_ite, Int.toNat_natCast, Int.toNat_zero, Int.reduceToNat, ite_true, ite_false, not_true_eq_false, not_false_eq_true, decide_true, decide_false, decide_eq_true_eq, Bool.false_eq_true, Nat.add_zero, am_rok1_0, am_rok1_1, cond_true, cond_false, am_w_nat1, true_or, or_true, false_or, or_false, true_and, and_true, false_and, and_false, Int.reduceEq, Int.reduceNeg, Int.reduceLT, Int.reduceLE, or_self, and_self, if_pos, if_neg]
    · by_cases h5 : D 0 4 = 3 ∧ X ≤ 16
      · by_cases h6 : X ≤ 4
        · rw [am_cI]; simp (disch := omega) only [en_71, bk_71_0, bk_71_20, bk_71_21, bk_71_41, bk_71_57, bk_71_58, bk_71_59, bk_71_79, bk_71_80, bk_71_81, h1, ew, eX, dv_f0, dv_f1, dv_f2, dv_f3, dv_f4, dv_f5, dv_f6, dv_f7, dv_f8, dv_f9, dv_f10, dv_f11, dv_f12, dv_f13, dv_g0, dv_g1, dv_g2, dv_i0, dv_i1, dv_p0, dv_p1, dv_isc, dv_iscL, dv_r0, dv_r1, dv_r2, dv_r3, dv_r4, dv_r5, dv_r6, dv_r7, dv_r8, dv_r9, dv_r10, dv_r11, dv_r12, dv_r13, dv_r14, dv_r15, Option.bind_some, Bool.cond_decide, am_oI_some, am_oV_some, am_oI_ite, am_oV_ite, am_bind_ite, Int.toNat_natCast, Int.toNat_zero, Int.reduceToNat, ite_true, ite_false, not_true_eq_false, not_false_eq_true, decide_true, decide_false, decide_eq_true_eq, Bool.false_eq_true, Nat.add_zero, am_rok1_0, am_rok1_1, cond_true, cond_false, am_w_nat1, true_or, or_true, false_or, or_false, true_and, and_true, false_and, and_false, Int.reduceEq, Int.reduceNeg, Int.reduceLT, Int.reduceLE, or_self, and_self, if_pos, if_neg]
        · rw [am_cI]; simp (disch := omega) only [en_71, bk_71_0, bk_71_20, bk_71_21, bk_71_41, bk_71_57, bk_71_58, bk_71_59, bk_71_79, bk_71_80, bk_71_81, h1, ew, eX, dv_f0, dv_f1, dv_f2, dv_f3, dv_f4, dv_f5, dv_f6, dv_f7, dv_f8, dv_f9, dv_f10, dv_f11, dv_f12, dv_f13, dv_g0, dv_g1, dv_g2, dv_i0, dv_i1, dv_p0, dv_p1, dv_isc, dv_iscL, dv_r0, dv_r1, dv_r2, dv_r3, dv_r4, dv_r5, dv_r6, dv_r7, dv_r8, dv_r9, dv_r10, dv_r11, dv_r12, dv_r13, dv_r14, dv_r15, Option.bind_some, Bool.cond_decide, am_oI_some, am_oV_some, am_oI_ite, am_oV_ite, am_bind_ite, Int.toNat_natCast, Int.toNat_zero, Int.reduceToNat, ite_true, ite_false, not_true_eq_false, not_false_eq_true, decide_true, decide_false, decide_eq_true_eq, Bool.false_eq_true, Nat.add_zero, am_rok1_0, am_rok1_1, cond_true, cond_false, am_w_nat1, true_or, or_true, false_or, or_false, true_and, and_true, false_and, and_false, Int.reduceEq, Int.reduceNeg, Int.reduceLT, Int.reduceLE, or_self, and_self, if_pos, if_neg]
      · rw [if_neg h3, if_neg h5]
        by_cases h6 : D 0 4 = 3
        · rw [am_cI]; simp (disch := omega) only [en_71, bk_71_0, bk_71_20, bk_71_21, bk_71_41, bk_71_57, bk_71_58, bk_71_59, bk_71_79, bk_71_80, bk_71_81, h1, ew, eX, dv_f0, dv_f1, dv_f2, dv_f3, dv_f4, dv_f5, dv_f6, dv_f7, dv_f8, dv_f9, dv_f10, dv_f11, dv_f12, dv_f13, dv_g0, dv_g1, dv_g2, dv_i0, dv_i1, dv_p0, dv_p1, dv_isc, dv_iscL, dv_r0, dv_r1, dv_r2, dv_r3, dv_r4, dv_r5, dv_r6, dv_r7, dv_r8, dv_r9, dv_r10, dv_r11, dv_r12, dv_r13, dv_r14, dv_r15, Option.bind_some, Bool.cond_decide, am_oI_some, am_oV_some, am_oI_ite, am_oV_ite, am_bind_ite, Int.toNat_natCast, Int.toNat_zero, Int.reduceToNat, ite_true, ite_false, not_true_eq_false, not_false_eq_true, decide_true, decide_false, decide_eq_true_eq, Bool.false_eq_true, Nat.add_zero, am_rok1_0, am_rok1_1, cond_true, cond_false, am_w_nat1, true_or, or_true, false_or, or_false, true_and, and_true, false_and, and_false, Int.reduceEq, Int.reduceNeg, Int.reduceLT, Int.reduceLE, or_self, and_self, if_pos, if_neg]
        · rw [am_cI]; simp (disch := omega) only [en_71, bk_71_0, bk_71_20, bk_71_21, bk_71_41, bk_71_57, bk_71_58, bk_71_59, bk_71_79, bk_71_80, bk_71_81, h1, ew, eX, dv_f0, dv_f1, dv_f2, dv_f3, dv_f4, dv_f5, dv_f6, dv_f7, dv_f8, dv_f9, dv_f10, dv_f11, dv_f12, dv_f13, dv_g0, dv_g1, dv_g2, dv_i0, dv_i1, dv_p0, dv_p1, dv_isc, dv_iscL, dv_r0, dv_r1, dv_r2, dv_r3, dv_r4, dv_r5, dv_r6, dv_r7, dv_r8, dv_r9, dv_r10, dv_r11, dv_r12, dv_r13, dv_r14, dv_r15, Option.bind_some, Bool.cond_decide, am_oI_some, am_oV_some, am_oI_ite, am_oV_ite, am_bind_ite, Int.toNat_natCast, Int.toNat_zero, Int.reduceToNat, ite_true, ite_false, not_true_eq_false, not_false_eq_true, decide_true, decide_false, decide_eq_true_eq, Bool.false_eq_true, Nat.add_zero, am_rok1_0, am_rok1_1, cond_true, cond_false, am_w_nat1, true_or, or_true, false_or, or_false, true_and, and_true, false_and, and_false, Int.reduceEq, Int.reduceNeg, Int.reduceLT, Int.reduceLE, or_self, and_self, if_pos, if_neg]
theorem d_scoreOf (w : DW D Z) {z : Nat} (hz : z < 8) (p : Int) : am_cI 83 [am_R d, am_I z, am_I p] (dv d D h) = some (cd_score D z p, dv d D h) := by
  have c1 := d_liveIn (d := d) (h := h) w hz
  have c2 := d_ageOf (d := d) (h := h) w hz
  have h1 := cd_nl_le w hz
  have h2 := w.2.2.1
  have ew : am_w (D 0 1 - cd_nl D z) = cd_dead D z := am_w_id (by omega) (by omega)
  have ew' : am_w (D 0 1 + cd_nl D z) = D 0 1 + cd_nl D z := am_w_id (by omega) (by omega)
  unfold cd_score
  rw [am_cI, en_83, bk_83_0]
  by_cases p1 : p = 1
  · have et : am_tsw 17 89 1 3 #[27, 66, 72] p = 44 := by rw [p1]; rfl
    by_cases h3 : D 0 1 + cd_nl D z ≤ 0
    · simp (disch := omega) only [bk_83_17, bk_83_44, bk_83_63, bk_83_82, bk_83_83, bk_83_89, bk_83_106, c1, c2, ew, ew', et, dv_f0, dv_f1, dv_f2, dv_f3, dv_f4, dv_f5, dv_f6, dv_f7, dv_f8, dv_f9, dv_f10, dv_f11, dv_f12, dv_f13, dv_g0, dv_g1, dv_g2, dv_i0, dv_i1, dv_p0, dv_p1, dv_isc, dv_iscL, dv_r0, dv_r1, dv_r2, dv_r3, dv_r4, dv_r5, dv_r6, dv_r7, dv_r8, dv_r9, dv_r10, dv_r11, dv_r12, dv_r13, dv_r14, dv_r15, Option.bind_some, Bool.cond_decide, am_oI_some, am_oV_some, am_oI_ite, am_oV_ite, am_bind_ite, Int.toNat_natCast, Int.toNat_zero, Int.reduceToNat, ite_true, ite_false, not_true_eq_false, not_false_eq_true, decide_true, decide_false, decide_eq_true_eq, Bool.false_eq_true, Nat.add_zero, am_rok1_0, am_rok1_1, cond_true, cond_false, am_w_nat1, true_or, or_true, false_or, or_false, true_and, and_true, false_and, and_false, Int.reduceEq, Int.reduceNeg, Int.reduceLT, Int.reduceLE, or_self, and_self, if_pos, if_neg]
    · simp (disch := omega) only [bk_83_17, bk_83_44, bk_83_63, bk_83_82, bk_83_83, bk_83_89, bk_83_106, c1, c2, ew, ew', et, dv_f0, dv_f1, dv_f2, dv_f3, dv_f4, dv_f5, dv_f6, dv_f7, dv_f8, dv_f9, dv_f10, dv_f11, dv_f12, dv_f13, dv_g0, dv_g1, dv_g2, dv_i0, dv_i1, dv_p0, dv_p1, dv_isc, dv_iscL, dv_r0, dv_r1, dv_r2, dv_r3, dv_r4, dv_r5, dv_r6, dv_r7, dv_r8, dv_r9, dv_r10, dv_r11, dv_r12, dv_r13, dv_r14, dv_r15, Option.bind_some, Bool.cond_decide, am_oI_some, am_oV_some, am_oI_ite, am_oV_ite, am_bind_ite, Int.toNat_natCast, Int.toNat_zero, Int.reduceToNat, ite_true, ite_false, not_true_eq_false, not_false_eq_true, decide_true, decide_false, decide_eq_true_eq, Bool.false_eq_true, Nat.add_zero, am_rok1_0, am_rok1_1, cond_true, cond_false, am_w_nat1, true_or, or_true, false_or, or_false, true_and, and_true, false_and, and_false, Int.reduceEq, Int.reduceNeg, Int.reduceLT, Int.reduceLE, or_self, and_self, if_pos, if_neg]
  · by_cases p2 : p = 2
    · have et : am_tsw 17 89 1 3 #[27, 66, 72] p = 83 := by rw [p2]; rfl
      simp (disch := omega) only [bk_83_17, bk_83_44, bk_83_63, bk_83_82, bk_83_83, bk_83_89, bk_83_106, c1, c2, ew, ew', et, dv_f0, dv_f1, dv_f2, dv_f3, dv_f4, dv_f5, dv_f6, dv_f7, dv_f8, dv_f9, dv_f10, dv_f11, dv_f12, dv_f13, dv_g0, dv_g1, dv_g2, dv_i0, dv_i1, dv_p0, dv_p1, dv_isc, dv_iscL, dv_r0, dv_r1, dv_r2, dv_r3, dv_r4, dv_r5, dv_r6, dv_r7, dv_r8, dv_r9, dv_r10, dv_r11, dv_r12, dv_r13, dv_r14, dv_r15, Option.bind_some, Bool.cond_decide, am_oI_some, am_oV_some, am_oI_ite, am_oV_ite, am_bind_ite, Int.toNat_natCast, Int.toNat_zero, Int.reduceToNat, ite_true, ite_false, not_true_eq_false, not_false_eq_true, decide_true, decide_false, decide_eq_true_eq, Bool.false_eq_true, Nat.add_zero, am_rok1_0, am_rok1_1, cond_true, cond_false, am_w_nat1, true_or, or_true, false_or, or_false, true_and, and_true, false_and, and_false, Int.reduceEq, Int.reduceNeg, Int.reduceLT, Int.reduceLE, or_self, and_self, if_pos, if_neg]
    · by_cases p3 : p = 3
      · have et : am_tsw 17 89 1 3 #[27, 66, 72] p = 89 := by rw [p3]; rfl
        simp (disch := omega) only [bk_83_17, bk_83_44, bk_83_63, bk_83_82, bk_83_83, bk_83_89, bk_83_106, c1, c2, ew, ew', et, dv_f0, dv_f1, dv_f2, dv_f3, dv_f4, dv_f5, dv_f6, dv_f7, dv_f8, dv_f9, dv_f10, dv_f11, dv_f12, dv_f13, dv_g0, dv_g1, dv_g2, dv_i0, dv_i1, dv_p0, dv_p1, dv_isc, dv_iscL, dv_r0, dv_r1, dv_r2, dv_r3, dv_r4, dv_r5, dv_r6, dv_r7, dv_r8, dv_r9, dv_r10, dv_r11, dv_r12, dv_r13, dv_r14, dv_r15, Option.bind_some, Bool.cond_decide, am_oI_some, am_oV_some, am_oI_ite, am_oV_ite, am_bind_ite, Int.toNat_natCast, Int.toNat_zero, Int.reduceToNat, ite_true, ite_false, not_true_eq_false, not_false_eq_true, decide_true, decide_false, decide_eq_true_eq, Bool.false_eq_true, Nat.add_zero, am_rok1_0, am_rok1_1, cond_true, cond_false, am_w_nat1, true_or, or_true, false_or, or_false, true_and, and_true, false_and, and_false, Int.reduceEq, Int.reduceNeg, Int.reduceLT, Int.reduceLE, or_self, and_self, if_pos, if_neg]
      · have et : am_tsw 17 89 1 3 #[27, 66, 72] p = 106 := by unfold am_tsw; rw [if_pos (by omega)]; rfl
        simp (disch := omega) only [bk_83_17, bk_83_44, bk_83_63, bk_83_82, bk_83_83, bk_83_89, bk_83_106, c1, c2, ew, ew', et, dv_f0, dv_f1, dv_f2, dv_f3, dv_f4, dv_f5, dv_f6, dv_f7, dv_f8, dv_f9, dv_f10, dv_f11, dv_f12, dv_f13, dv_g0, dv_g1, dv_g2, dv_i0, dv_i1, dv_p0, dv_p1, dv_isc, dv_iscL, dv_r0, dv_r1, dv_r2, dv_r3, dv_r4, dv_r5, dv_r6, dv_r7, dv_r8, dv_r9, dv_r10, dv_r11, dv_r12, dv_r13, dv_r14, dv_r15, Option.bind_some, Bool.cond_decide, am_oI_some, am_oV_some, am_oI_ite, am_oV_ite, am_bind_ite, Int.toNat_natCast, Int.toNat_zero, Int.reduceToNat, ite_true, ite_false, not_true_eq_false, not_false_eq_true, decide_true, decide_false, decide_eq_true_eq, Bool.false_eq_true, Nat.add_zero, am_rok1_0, am_rok1_1, cond_true, cond_false, am_w_nat1, true_or, or_true, false_or, or_false, true_and, and_true, false_and, and_false, Int.reduceEq, Int.reduceNeg, Int.reduceLT, Int.reduceLE, or_self, and_self, if_pos, if_neg]
theorem d_isToClean (w : DW D Z) {z : Nat} (hz : z < 8) : am_cI 81 [am_R d, am_I z] (dv d D h) = some (if cd_toC D z = true then 1 else 0, dv d D h) := by
  have c1 := d_deadIn (d := d) (h := h) w hz
  unfold cd_toC
  by_cases h1 : D 2 z = 3
  · by_cases h2 : 0 < cd_dead D z
    · rw [am_cI]; simp (disch := omega) only [en_81, bk_81_0, bk_81_22, bk_81_23, c1, h1, dv_f0, dv_f1, dv_f2, dv_f3, dv_f4, dv_f5, dv_f6, dv_f7, dv_f8, dv_f9, dv_f10, dv_f11, dv_f12, dv_f13, dv_g0, dv_g1, dv_g2, dv_i0, dv_i1, dv_p0, dv_p1, dv_isc, dv_iscL, dv_r0, dv_r1, dv_r2, dv_r3, dv_r4, dv_r5, dv_r6, dv_r7, dv_r8, dv_r9, dv_r10, dv_r11, dv_r12, dv_r13, dv_r14, dv_r15, Option.bind_some, Bool.cond_decide, am_oI_some, am_oV_some, am_oI_ite, am_oV_ite, am_bind_ite, Int.toNat_natCast, Int.toNat_zero, Int.reduceToNat, ite_true, ite_false, not_true_eq_false, not_false_eq_true, decide_true, decide_false, decide_eq_true_eq, Bool.false_eq_true, Nat.add_zero, am_rok1_0, am_rok1_1, cond_true, cond_false, am_w_nat1, true_or, or_true, false_or, or_false, true_and, and_true, false_and, and_false, Int.reduceEq, Int.reduceNeg, Int.reduceLT, Int.reduceLE, or_self, and_self, if_pos, if_neg]
    · rw [am_cI]; simp (disch := omega) only [en_81, bk_81_0, bk_81_22, bk_81_23, c1, h1, dv_f0, dv_f1, dv_f2, dv_f3, dv_f4, dv_f5, dv_f6, dv_f7, dv_f8, dv_f9, dv_f10, dv_f11, dv_f12, dv_f13, dv_g0, dv_g1, dv_g2, dv_i0, dv_i1, dv_p0, dv_p1, dv_isc, dv_iscL, dv_r0, dv_r1, dv_r2, dv_r3, dv_r4, dv_r5, dv_r6, dv_r7, dv_r8, dv_r9, dv_r10, dv_r11, dv_r12, dv_r13, dv_r14, dv_r15, Option.bind_some, Bool.cond_decide, am_oI_some, am_oV_some, am_oI_ite, am_oV_ite, am_bind_ite, Int.toNat_natCast, Int.toNat_zero, Int.reduceToNat, ite_true, ite_false, not_true_eq_false, not_false_eq_true, decide_true, decide_false, decide_eq_true_eq, Bool.false_eq_true, Nat.add_zero, am_rok1_0, am_rok1_1, cond_true, cond_false, am_w_nat1, true_or, or_true, false_or, or_false, true_and, and_true, false_and, and_false, Int.reduceEq, Int.reduceNeg, Int.reduceLT, Int.reduceLE, or_self, and_self, if_pos, if_neg]
  · rw [am_cI]; simp (disch := omega) only [en_81, bk_81_0, bk_81_22, bk_81_23, c1, h1, dv_f0, dv_f1, dv_f2, dv_f3, dv_f4, dv_f5, dv_f6, dv_f7, dv_f8, dv_f9, dv_f10, dv_f11, dv_f12, dv_f13, dv_g0, dv_g1, dv_g2, dv_i0, dv_i1, dv_p0, dv_p1, dv_isc, dv_iscL, dv_r0, dv_r1, dv_r2, dv_r3, dv_r4, dv_r5, dv_r6, dv_r7, dv_r8, dv_r9, dv_r10, dv_r11, dv_r12, dv_r13, dv_r14, dv_r15, Option.bind_some, Bool.cond_decide, am_oI_some, am_oV_some, am_oI_ite, am_oV_ite, am_bind_ite, Int.toNat_natCast, Int.toNat_zero, Int.reduceToNat, ite_true, ite_false, not_true_eq_false, not_false_eq_true, decide_true, decide_false, decide_eq_true_eq, Bool.false_eq_true, Nat.add_zero, am_rok1_0, am_rok1_1, cond_true, cond_false, am_w_nat1, true_or, or_true, false_or, or_false, true_and, and_true, false_and, and_false, Int.reduceEq, Int.reduceNeg, Int.reduceLT, Int.reduceLE, or_self, and_self, if_pos, if_neg]
theorem d_zoneToClean (w : DW D Z) : am_cI 84 [am_R d] (dv d D h) = some (cd_zc D Z (D 0 6), dv d D h) := by
  have hZ := w.1
  have hZ8 := w.2.1
  have step : ∀ z (v : am_V), z < Z → ∃ v', am_run am_ms 84 6 [am_R d, am_I (cd_zc D z (D 0 6)), am_I (if cd_zc D z (D 0 6) = -1 then 0 else cd_score D (cd_zc D z (D 0 6)).toNat (D 0 6)), am_I z, v] [] (dv d D h) = am_run am_ms 84 6 [am_R d, am_I (cd_zc D (z + 1) (D 0 6)), am_I (if cd_zc D (z + 1) (D 0 6) = -1 then 0 else cd_score D (cd_zc D (z + 1) (D 0 6)).toNat (D 0 6)), am_I ((z + 1 : Nat) : Int), v'] [] (dv d D h) := by
    intro z v hz
    have c1 := d_isToClean (d := d) (h := h) w (z := z) (by omega)
    have c2 := d_scoreOf (d := d) (h := h) w (z := z) (by omega) (D 0 6)
    have hb := bst_le (cd_toC D) (fun z b => decide (cd_score D b (D 0 6) < cd_score D z (D 0 6))) z
    have ez : cd_zc D (z + 1) (D 0 6) = if cd_toC D z = true then (if cd_zc D z (D 0 6) = -1 ∨ decide (cd_score D (cd_zc D z (D 0 6)).toNat (D 0 6) < cd_score D z (D 0 6)) = true then (z : Int) else cd_zc D z (D 0 6)) else cd_zc D z (D 0 6) := rfl
    have hb' : -1 ≤ cd_zc D z (D 0 6) ∧ cd_zc D z (D 0 6) < z := hb
    rw [bk_84_6]
    cases e : cd_toC D z with
    | false =>
      rw [e] at c1 ez
      rw [if_neg (by decide)] at ez
      refine ⟨v, ?_⟩
      rw [ez]
      simp (disch := omega) only [bk_84_30, bk_84_49, bk_84_54, bk_84_60, c1, hZ, dv_f0, dv_f1, dv_f2, dv_f3, dv_f4, dv_f5, dv_f6, dv_f7, dv_f8, dv_f9, dv_f10, dv_f11, dv_f12, dv_f13, dv_g0, dv_g1, dv_g2, dv_i0, dv_i1, dv_p0, dv_p1, dv_isc, dv_iscL, dv_r0, dv_r1, dv_r2, dv_r3, dv_r4, dv_r5, dv_r6, dv_r7, dv_r8, dv_r9, dv_r10, dv_r11, dv_r12, dv_r13, dv_r14, dv_r15, Option.bind_some, Bool.cond_decide, am_oI_some, am_oV_some, am_oI_ite, am_oV_ite, am_bind_ite, Int.toNat_natCast, Int.toNat_zero, Int.reduceToNat, ite_true, ite_false, not_true_eq_false, not_false_eq_true, decide_true, decide_false, decide_eq_true_eq, Bool.false_eq_true, Nat.add_zero, am_rok1_0, am_rok1_1, cond_true, cond_false, am_w_nat1, true_or, or_true, false_or, or_false, true_and, and_true, false_and, and_false, Int.reduceEq, Int.reduceNeg, Int.reduceLT, Int.reduceLE, or_self, and_self, if_pos, if_neg]
    | true =>
      rw [e] at c1 ez
      rw [if_pos rfl] at ez
      refine ⟨am_I (cd_score D z (D 0 6)), ?_⟩
      by_cases e1 : cd_zc D z (D 0 6) = -1
      · rw [if_pos (Or.inl e1)] at ez
        rw [ez, e1]
        simp (disch := omega) only [bk_84_30, bk_84_49, bk_84_54, bk_84_60, c1, c2, hZ, dv_f0, dv_f1, dv_f2, dv_f3, dv_f4, dv_f5, dv_f6, dv_f7, dv_f8, dv_f9, dv_f10, dv_f11, dv_f12, dv_f13, dv_g0, dv_g1, dv_g2, dv_i0, dv_i1, dv_p0, dv_p1, dv_isc, dv_iscL, dv_r0, dv_r1, dv_r2, dv_r3, dv_r4, dv_r5, dv_r6, dv_r7, dv_r8, dv_r9, dv_r10, dv_r11, dv_r12, dv_r13, dv_r14, dv_r15, Option.bind_some, Bool.cond_decide, am_oI_some, am_oV_some, am_oI_ite, am_oV_ite, am_bind_ite, Int.toNat_natCast, Int.toNat_zero, Int.reduceToNat, ite_true, ite_false, not_true_eq_false, not_false_eq_true, decide_true, decide_false, decide_eq_true_eq, Bool.false_eq_true, Nat.add_zero, am_rok1_0, am_rok1_1, cond_true, cond_false, am_w_nat1, true_or, or_true, false_or, or_false, true_and, and_true, false_and, and_false, Int.reduceEq, Int.reduceNeg, Int.reduceLT, Int.reduceLE, or_self, and_self, if_pos, if_neg]
      · by_cases e2 : cd_score D (cd_zc D z (D 0 6)).toNat (D 0 6) < cd_score D z (D 0 6)
        · rw [if_pos (Or.inr (decide_eq_true e2))] at ez
          rw [ez]
          simp (disch := omega) only [bk_84_30, bk_84_49, bk_84_54, bk_84_60, c1, c2, hZ, e1, dv_f0, dv_f1, dv_f2, dv_f3, dv_f4, dv_f5, dv_f6, dv_f7, dv_f8, dv_f9, dv_f10, dv_f11, dv_f12, dv_f13, dv_g0, dv_g1, dv_g2, dv_i0, dv_i1, dv_p0, dv_p1, dv_isc, dv_iscL, dv_r0, dv_r1, dv_r2, dv_r3, dv_r4, dv_r5, dv_r6, dv_r7, dv_r8, dv_r9, dv_r10, dv_r11, dv_r12, dv_r13, dv_r14, dv_r15, Option.bind_some, Bool.cond_decide, am_oI_some, am_oV_some, am_oI_ite, am_oV_ite, am_bind_ite, Int.toNat_natCast, Int.toNat_zero, Int.reduceToNat, ite_true, ite_false, not_true_eq_false, not_false_eq_true, decide_true, decide_false, decide_eq_true_eq, Bool.false_eq_true, Nat.add_zero, am_rok1_0, am_rok1_1, cond_true, cond_false, am_w_nat1, true_or, or_true, false_or, or_false, true_and, and_true, false_and, and_false, Int.reduceEq, Int.reduceNeg, Int.reduceLT, Int.reduceLE, or_self, and_self, if_pos, if_neg]
        · rw [if_neg (by rw [decide_eq_true_eq]; omega)] at ez
          rw [ez]
          simp (disch := omega) only [bk_84_30, bk_84_49, bk_84_54, bk_84_60, c1, c2, hZ, e1, dv_f0, dv_f1, dv_f2, dv_f3, dv_f4, dv_f5, dv_f6, dv_f7, dv_f8, dv_f9, dv_f10, dv_f11, dv_f12, dv_f13, dv_g0, dv_g1, dv_g2, dv_i0, dv_i1, dv_p0, dv_p1, dv_isc, dv_iscL, dv_r0, dv_r1, dv_r2, dv_r3, dv_r4, dv_r5, dv_r6, dv_r7, dv_r8, dv_r9, dv_r10, dv_r11, dv_r12, dv_r13, dv_r14, dv_r15, Option.bind_some, Bool.cond_decide, am_oI_some, am_oV_some, am_oI_ite, am_oV_ite, am_bind_ite, Int.toNat_natCast, Int.toNat_zero, Int.reduceToNat, ite_true, ite_false, not_true_eq_false, not_false_eq_true, decide_true, decide_false, decide_eq_true_eq, Bool.false_eq_true, Nat.add_zero, am_rok1_0, am_rok1_1, cond_true, cond_false, am_w_nat1, true_or, or_true, false_or, or_false, true_and, and_true, false_and, and_false, Int.reduceEq, Int.reduceNeg, Int.reduceLT, Int.reduceLE, or_self, and_self, if_pos, if_neg]
  obtain ⟨v', key⟩ := loop_v (fun z (v : am_V) => am_run am_ms 84 6 [am_R d, am_I (cd_zc D z (D 0 6)), am_I (if cd_zc D z (D 0 6) = -1 then 0 else cd_score D (cd_zc D z (D 0 6)).toNat (D 0 6)), am_I z, v] [] (dv d D h)) Z step (am_K 1)
  have key' : am_run am_ms 84 6 [am_R d, am_I (-1), am_I 0, am_I 0, am_K 1] [] (dv d D h) = am_run am_ms 84 6 [am_R d, am_I (cd_zc D Z (D 0 6)), am_I (if cd_zc D Z (D 0 6) = -1 then 0 else cd_score D (cd_zc D Z (D 0 6)).toNat (D 0 6)), am_I Z, v'] [] (dv d D h) := key
  rw [am_cI, en_84, bk_84_0, key', bk_84_6]
  simp (disch := omega) only [bk_84_30, bk_84_49, bk_84_54, bk_84_60, hZ, dv_f0, dv_f1, dv_f2, dv_f3, dv_f4, dv_f5, dv_f6, dv_f7, dv_f8, dv_f9, dv_f10, dv_f11, dv_f12, dv_f13, dv_g0, dv_g1, dv_g2, dv_i0, dv_i1, dv_p0, dv_p1, dv_isc, dv_iscL, dv_r0, dv_r1, dv_r2, dv_r3, dv_r4, dv_r5, dv_r6, dv_r7, dv_r8, dv_r9, dv_r10, dv_r11, dv_r12, dv_r13, dv_r14, dv_r15, Option.bind_some, Bool.cond_decide, am_oI_some, am_oV_some, am_oI_ite, am_oV_ite, am_bind_ite, Int.toNat_natCast, Int.toNat_zero, Int.reduceToNat, ite_true, ite_false, not_true_eq_false, not_false_eq_true, decide_true, decide_false, decide_eq_true_eq, Bool.false_eq_true, Nat.add_zero, am_rok1_0, am_rok1_1, cond_true, cond_false, am_w_nat1, true_or, or_true, false_or, or_false, true_and, and_true, false_and, and_false, Int.reduceEq, Int.reduceNeg, Int.reduceLT, Int.reduceLE, or_self, and_self, if_pos, if_neg]
theorem d_lacksZone (w : DW D Z) {s : Nat} (hs : (s : Int) < D 0 4) : am_cI 73 [am_R d, am_I s] (dv d D h) = some (if cd_lz D s = true then 1 else 0, dv d D h) := by
  have h4 := w.2.2.2.1
  have hZ := w.1
  have hZ8 := w.2.1
  have c1 : am_cI 72 [am_R d, am_I s] (dv d D h) = some (1, dv d D h) := by rw [c_hasStream, if_pos ⟨by omega, hs⟩]
  have c2 := c_hasZone d D h (D 6 s)
  unfold cd_lz
  by_cases h1 : 0 ≤ D 6 s ∧ D 6 s < D 0 0
  · rw [if_pos h1] at c2
    by_cases h2 : D 2 (D 6 s).toNat = 3
    · rw [am_cI]; simp (disch := omega) only [en_73, bk_73_0, bk_73_10, bk_73_32, bk_73_35, bk_73_39, bk_73_40, c1, c2, h2, dv_f0, dv_f1, dv_f2, dv_f3, dv_f4, dv_f5, dv_f6, dv_f7, dv_f8, dv_f9, dv_f10, dv_f11, dv_f12, dv_f13, dv_g0, dv_g1, dv_g2, dv_i0, dv_i1, dv_p0, dv_p1, dv_isc, dv_iscL, dv_r0, dv_r1, dv_r2, dv_r3, dv_r4, dv_r5, dv_r6, dv_r7, dv_r8, dv_r9, dv_r10, dv_r11, dv_r12, dv_r13, dv_r14, dv_r15, Option.bind_some, Bool.cond_decide, am_oI_some, am_oV_some, am_oI_ite, am_oV_ite, am_bind_ite, Int.toNat_natCast, Int.toNat_zero, Int.reduceToNat, ite_true, ite_false, not_true_eq_false, not_false_eq_true, decide_true, decide_false, decide_eq_true_eq, Bool.false_eq_true, Nat.add_zero, am_rok1_0, am_rok1_1, cond_true, cond_false, am_w_nat1, true_or, or_true, false_or, or_false, true_and, and_true, false_and, and_false, Int.reduceEq, Int.reduceNeg, Int.reduceLT, Int.reduceLE, or_self, and_self, if_pos, if_neg]
    · rw [am_cI]; simp (disch := omega) only [en_73, bk_73_0, bk_73_10, bk_73_32, bk_73_35, bk_73_39, bk_73_40, c1, c2, h1, h2, dv_f0, dv_f1, dv_f2, dv_f3, dv_f4, dv_f5, dv_f6, dv_f7, dv_f8, dv_f9, dv_f10, dv_f11, dv_f12, dv_f13, dv_g0, dv_g1, dv_g2, dv_i0, dv_i1, dv_p0, dv_p1, dv_isc, dv_iscL, dv_r0, dv_r1, dv_r2, dv_r3, dv_r4, dv_r5, dv_r6, dv_r7, dv_r8, dv_r9, dv_r10, dv_r11, dv_r12, dv_r13, dv_r14, dv_r15, Option.bind_some, Bool.cond_decide, am_oI_some, am_oV_some, am_oI_ite, am_oV_ite, am_bind_ite, Int.toNat_natCast, Int.toNat_zero, Int.reduceToNat, ite_true, ite_false, not_true_eq_false, not_false_eq_true, decide_true, decide_false, decide_eq_true_eq, Bool.false_eq_true, Nat.add_zero, am_rok1_0, am_rok1_1, cond_true, cond_false, am_w_nat1, true_or, or_true, false_or, or_false, true_and, and_true, false_and, and_false, Int.reduceEq, Int.reduceNeg, Int.reduceLT, Int.reduceLE, or_self, and_self, if_pos, if_neg]
  · rw [if_neg h1] at c2
    rw [am_cI]; simp (disch := omega) only [en_73, bk_73_0, bk_73_10, bk_73_32, bk_73_35, bk_73_39, bk_73_40, c1, c2, h1, dv_f0, dv_f1, dv_f2, dv_f3, dv_f4, dv_f5, dv_f6, dv_f7, dv_f8, dv_f9, dv_f10, dv_f11, dv_f12, dv_f13, dv_g0, dv_g1, dv_g2, dv_i0, dv_i1, dv_p0, dv_p1, dv_isc, dv_iscL, dv_r0, dv_r1, dv_r2, dv_r3, dv_r4, dv_r5, dv_r6, dv_r7, dv_r8, dv_r9, dv_r10, dv_r11, dv_r12, dv_r13, dv_r14, dv_r15, Option.bind_some, Bool.cond_decide, am_oI_some, am_oV_some, am_oI_ite, am_oV_ite, am_bind_ite, Int.toNat_natCast, Int.toNat_zero, Int.reduceToNat, ite_true, ite_false, not_true_eq_false, not_false_eq_true, decide_true, decide_false, decide_eq_true_eq, Bool.false_eq_true, Nat.add_zero, am_rok1_0, am_rok1_1, cond_true, cond_false, am_w_nat1, true_or, or_true, false_or, or_false, true_and, and_true, false_and, and_false, Int.reduceEq, Int.reduceNeg, Int.reduceLT, Int.reduceLE, or_self, and_self, if_pos, if_neg]
theorem cd_lz_no {D : Nat → Nat → Int} {s : Nat} (h : cd_lz D s = false) : (0 ≤ D 6 s ∧ D 6 s < D 0 0) ∧ ¬ D 2 (D 6 s).toNat = 3 := by
  unfold cd_lz at h
  have := of_decide_eq_false h
  omega
theorem d_hasRoomFor (w : DW D Z) (h04 : 0 < D 0 4) {z : Nat} (hz : z < 8) : am_cI 85 [am_R d, am_I z] (dv d D h) = some (if (cd_nl D z : Int) ≤ cd_room D Z then 1 else 0, dv d D h) := by
  have h4 := w.2.2.2.1
  have hZ := w.1
  have hZ8 := w.2.1
  obtain ⟨S, hS⟩ : ∃ S : Nat, D 0 4 = ((S + 1 : Nat) : Int) := ⟨(D 0 4 - 1).toNat, by omega⟩
  have h1 := w.2.2.1
  have c1 := d_countOf (d := d) (h := h) w 0
  have c2 := d_lacksZone (d := d) (h := h) w (s := S) (by omega)
  have c3 := d_liveIn (d := d) (h := h) w hz
  have hm := cd_many_le D Z 0
  have hmul : (0 : Int) ≤ (cd_many D Z 0 : Int) * D 0 1 ∧ (cd_many D Z 0 : Int) * D 0 1 ≤ 8 * 16 := ⟨Int.mul_nonneg (by omega) (by omega), Int.mul_le_mul (by omega) (by omega) (by omega) (by omega)⟩
  have ew : am_w (((S + 1 : Nat) : Int) - 1) = (S : Int) := by rw [am_w_id (by omega) (by omega)]; omega
  have ew2 : am_w ((cd_many D Z 0 : Int) * D 0 1) = (cd_many D Z 0 : Int) * D 0 1 := am_w_id (by omega) (by omega)
  unfold cd_room
  rw [show (D 0 4 - 1).toNat = S by omega]
  generalize eX : (cd_many D Z 0 : Int) * D 0 1 = X at hmul ew2 ⊢
  cases e : cd_lz D S with
  | true =>
    rw [e] at c2
    by_cases h5 : (cd_nl D z : Int) ≤ X + 0
    · rw [am_cI]; simp (disch := omega) only [en_85, bk_85_0, bk_85_20, bk_85_42, bk_85_51, bk_85_64, bk_85_65, c1, c2, c3, eX, ew, ew2, hS, dv_f0, dv_f1, dv_f2, dv_f3, dv_f4, dv_f5, dv_f6, dv_f7, dv_f8, dv_f9, dv_f10, dv_f11, dv_f12, dv_f13, dv_g0, dv_g1, dv_g2, dv_i0, dv_i1, dv_p0, dv_p1, dv_isc, dv_iscL, dv_r0, dv_r1, dv_r2, dv_r3, dv_r4, dv_r5, dv_r6, dv_r7, dv_r8, dv_r9, dv_r10, dv_r11, dv_r12, dv_r13, dv_r14, dv_r15, Option.bind_some, Bool.cond_decide, am_oI_some, am_oV_some, am_oI_ite, am_oV_ite, am_bind_ite, Int.toNat_natCast, Int.toNat_zero, Int.reduceToNat, ite_true, ite_false, not_true_eq_false, not_false_eq_true, decide_true, decide_false, decide_eq_true_eq, Bool.false_eq_true, Nat.add_zero, am_rok1_0, am_rok1_1, cond_true, cond_false, am_w_nat1, true_or, or_true, false_or, or_false, true_and, and_true, false_and, and_false, Int.reduceEq, Int.reduceNeg, Int.reduceLT, Int.reduceLE, or_self, and_self, if_pos, if_neg]
    · rw [am_cI]; simp (disch := omega) only [en_85, bk_85_0, bk_85_20, bk_85_42, bk_85_51, bk_85_64, bk_85_65, c1, c2, c3, eX, ew, ew2, hS, dv_f0, dv_f1, dv_f2, dv_f3, dv_f4, dv_f5, dv_f6, dv_f7, dv_f8, dv_f9, dv_f10, dv_f11, dv_f12, dv_f13, dv_g0, dv_g1, dv_g2, dv_i0, dv_i1, dv_p0, dv_p1, dv_isc, dv_iscL, dv_r0, dv_r1, dv_r2, dv_r3, dv_r4, dv_r5, dv_r6, dv_r7, dv_r8, dv_r9, dv_r10, dv_r11, dv_r12, dv_r13, dv_r14, dv_r15, Option.bind_some, Bool.cond_decide, am_oI_some, am_oV_some, am_oI_ite, am_oV_ite, am_bind_ite, Int.toNat_natCast, Int.toNat_zero, Int.reduceToNat, ite_true, ite_false, not_true_eq_false, not_false_eq_true, decide_true, decide_false, decide_eq_true_eq, Bool.false_eq_true, Nat.add_zero, am_rok1_0, am_rok1_1, cond_true, cond_false, am_w_nat1, true_or, or_true, false_or, or_false, true_and, and_true, false_and, and_false, Int.reduceEq, Int.reduceNeg, Int.reduceLT, Int.reduceLE, or_self, and_self, if_pos, if_neg]
  | false =>
    rw [e] at c2
    have h6 := cd_lz_no e
    have h7 := w.2.2.2.2.1 (D 6 S).toNat (by omega)
    have ew3 : am_w (D 0 1 - D 3 (D 6 S).toNat) = D 0 1 - D 3 (D 6 S).toNat := am_w_id (by omega) (by omega)
    have ew4 : am_w (X + (D 0 1 - D 3 (D 6 S).toNat)) = X + (D 0 1 - D 3 (D 6 S).toNat) := am_w_id (by omega) (by omega)
    by_cases h5 : (cd_nl D z : Int) ≤ X + (D 0 1 - D 3 (D 6 S).toNat)
    · rw [am_cI]; simp (disch := omega) only [en_85, bk_85_0, bk_85_20, bk_85_42, bk_85_51, bk_85_64, bk_85_65, c1, c2, c3, eX, ew, ew2, ew3, ew4, hS, dv_f0, dv_f1, dv_f2, dv_f3, dv_f4, dv_f5, dv_f6, dv_f7, dv_f8, dv_f9, dv_f10, dv_f11, dv_f12, dv_f13, dv_g0, dv_g1, dv_g2, dv_i0, dv_i1, dv_p0, dv_p1, dv_isc, dv_iscL, dv_r0, dv_r1, dv_r2, dv_r3, dv_r4, dv_r5, dv_r6, dv_r7, dv_r8, dv_r9, dv_r10, dv_r11, dv_r12, dv_r13, dv_r14, dv_r15, Option.bind_some, Bool.cond_decide, am_oI_some, am_oV_some, am_oI_ite, am_oV_ite, am_bind_ite, Int.toNat_natCast, Int.toNat_zero, Int.reduceToNat, ite_true, ite_false, not_true_eq_false, not_false_eq_true, decide_true, decide_false, decide_eq_true_eq, Bool.false_eq_true, Nat.add_zero, am_rok1_0, am_rok1_1, cond_true, cond_false, am_w_nat1, true_or, or_true, false_or, or_false, true_and, and_true, false_and, and_false, Int.reduceEq, Int.reduceNeg, Int.reduceLT, Int.reduceLE, or_self, and_self, if_pos, if_neg]
    · rw [am_cI]; simp (disch := omega) only [en_85, bk_85_0, bk_85_20, bk_85_42, bk_85_51, bk_85_64, bk_85_65, c1, c2, c3, eX, ew, ew2, ew3, ew4, hS, dv_f0, dv_f1, dv_f2, dv_f3, dv_f4, dv_f5, dv_f6, dv_f7, dv_f8, dv_f9, dv_f10, dv_f11, dv_f12, dv_f13, dv_g0, dv_g1, dv_g2, dv_i0, dv_i1, dv_p0, dv_p1, dv_isc, dv_iscL, dv_r0, dv_r1, dv_r2, dv_r3, dv_r4, dv_r5, dv_r6, dv_r7, dv_r8, dv_r9, dv_r10, dv_r11, dv_r12, dv_r13, dv_r14, dv_r15, Option.bind_some, Bool.cond_decide, am_oI_some, am_oV_some, am_oI_ite, am_oV_ite, am_bind_ite, Int.toNat_natCast, Int.toNat_zero, Int.reduceToNat, ite_true, ite_false, not_true_eq_false, not_false_eq_true, decide_true, decide_false, decide_eq_true_eq, Bool.false_eq_true, Nat.add_zero, am_rok1_0, am_rok1_1, cond_true, cond_false, am_w_nat1, true_or, or_true, false_or, or_false, true_and, and_true, false_and, and_false, Int.reduceEq, Int.reduceNeg, Int.reduceLT, Int.reduceLE, or_self, and_self, if_pos, if_neg]
theorem d_mustClean (w : DW D Z) {s : Nat} (hs : (s : Int) < D 0 4) : am_cI 75 [am_R d, am_I s] (dv d D h) = some (if cd_lz D s = true ∧ (cd_many D Z 0 : Int) ≤ D 0 5 then 1 else 0, dv d D h) := by
  have c1 := d_countOf (d := d) (h := h) w 0
  have c2 := d_lacksZone (d := d) (h := h) w hs
  cases e : cd_lz D s with
  | true =>
    rw [e] at c2
    by_cases h5 : (cd_many D Z 0 : Int) ≤ D 0 5
    · rw [am_cI]; simp (disch := omega) only [en_75, bk_75_0, bk_75_26, bk_75_27, c1, c2, dv_f0, dv_f1, dv_f2, dv_f3, dv_f4, dv_f5, dv_f6, dv_f7, dv_f8, dv_f9, dv_f10, dv_f11, dv_f12, dv_f13, dv_g0, dv_g1, dv_g2, dv_i0, dv_i1, dv_p0, dv_p1, dv_isc, dv_iscL, dv_r0, dv_r1, dv_r2, dv_r3, dv_r4, dv_r5, dv_r6, dv_r7, dv_r8, dv_r9, dv_r10, dv_r11, dv_r12, dv_r13, dv_r14, dv_r15, Option.bind_some, Bool.cond_decide, am_oI_some, am_oV_some, am_oI_ite, am_oV_ite, am_bind_ite, Int.toNat_natCast, Int.toNat_zero, Int.reduceToNat, ite_true, ite_false, not_true_eq_false, not_false_eq_true, decide_true, decide_false, decide_eq_true_eq, Bool.false_eq_true, Nat.add_zero, am_rok1_0, am_rok1_1, cond_true, cond_false, am_w_nat1, true_or, or_true, false_or, or_false, true_and, and_true, false_and, and_false, Int.reduceEq, Int.reduceNeg, Int.reduceLT, Int.reduceLE, or_self, and_self, if_pos, if_neg]
    · rw [am_cI]; simp (disch := omega) only [en_75, bk_75_0, bk_75_26, bk_75_27, c1, c2, dv_f0, dv_f1, dv_f2, dv_f3, dv_f4, dv_f5, dv_f6, dv_f7, dv_f8, dv_f9, dv_f10, dv_f11, dv_f12, dv_f13, dv_g0, dv_g1, dv_g2, dv_i0, dv_i1, dv_p0, dv_p1, dv_isc, dv_iscL, dv_r0, dv_r1, dv_r2, dv_r3, dv_r4, dv_r5, dv_r6, dv_r7, dv_r8, dv_r9, dv_r10, dv_r11, dv_r12, dv_r13, dv_r14, dv_r15, Option.bind_some, Bool.cond_decide, am_oI_some, am_oV_some, am_oI_ite, am_oV_ite, am_bind_ite, Int.toNat_natCast, Int.toNat_zero, Int.reduceToNat, ite_true, ite_false, not_true_eq_false, not_false_eq_true, decide_true, decide_false, decide_eq_true_eq, Bool.false_eq_true, Nat.add_zero, am_rok1_0, am_rok1_1, cond_true, cond_false, am_w_nat1, true_or, or_true, false_or, or_false, true_and, and_true, false_and, and_false, Int.reduceEq, Int.reduceNeg, Int.reduceLT, Int.reduceLE, or_self, and_self, if_pos, if_neg]
  | false =>
    rw [e] at c2
    rw [am_cI]; simp (disch := omega) only [en_75, bk_75_0, bk_75_26, bk_75_27, c1, c2, dv_f0, dv_f1, dv_f2, dv_f3, dv_f4, dv_f5, dv_f6, dv_f7, dv_f8, dv_f9, dv_f10, dv_f11, dv_f12, dv_f13, dv_g0, dv_g1, dv_g2, dv_i0, dv_i1, dv_p0, dv_p1, dv_isc, dv_iscL, dv_r0, dv_r1, dv_r2, dv_r3, dv_r4, dv_r5, dv_r6, dv_r7, dv_r8, dv_r9, dv_r10, dv_r11, dv_r12, dv_r13, dv_r14, dv_r15, Option.bind_some, Bool.cond_decide, am_oI_some, am_oV_some, am_oI_ite, am_oV_ite, am_bind_ite, Int.toNat_natCast, Int.toNat_zero, Int.reduceToNat, ite_true, ite_false, not_true_eq_false, not_false_eq_true, decide_true, decide_false, decide_eq_true_eq, Bool.false_eq_true, Nat.add_zero, am_rok1_0, am_rok1_1, cond_true, cond_false, am_w_nat1, true_or, or_true, false_or, or_false, true_and, and_true, false_and, and_false, Int.reduceEq, Int.reduceNeg, Int.reduceLT, Int.reduceLE, or_self, and_self, if_pos, if_neg]
end DRV3
