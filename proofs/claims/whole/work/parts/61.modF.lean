/-! ===== THE MODEL: a crash ===== -/
/-- the greatest number of the first zones -/
def mxz (A : Nat → Nat → Int) : Nat → Int
  | 0 => 0
  | z + 1 => mxs (fun i => A 9 (16 * z + i)) (mxz A z) (A 3 z).toNat
theorem mxz_of {A B : Nat → Nat → Int} (e3 : B 3 = A 3) (e9 : B 9 = A 9) : ∀ n, mxz B n = mxz A n := by
  intro n
  induction n with
  | zero => rfl
  | succ n ih => unfold mxz; rw [ih, e3, e9]
def mc1 (A : Nat → Nat → Int) (Z : Nat) : Nat → Nat → Int := drow A 2 (cr_s A Z)
def mc2 (A : Nat → Nat → Int) (Z : Nat) : Nat → Nat → Int := drow (dup A 1 4 (mxz A Z)) 6 (fhs A Z).1
def mc3 (A : Nat → Nat → Int) : Nat → Nat → Int := dup A 1 3 (am_w (A 1 3 + 1))
def mc (A : Nat → Nat → Int) (Z : Nat) : Nat → Nat → Int := mc3 (mc2 (mc1 A Z) Z)
def m_cr (A : Nat → Nat → Int) (Z : Nat) : Nat → Nat → Int := nts (mc A Z) 6 (-1) (ml_kv (mc A Z) Z 32)
theorem mc_o (A : Nat → Nat → Int) (Z : Nat) {r : Nat} (h : r ≠ 1 ∧ r ≠ 2 ∧ r ≠ 6) : mc A Z r = A r := by
  unfold mc mc3 mc2 mc1
  rw [dup_o _ _ _ (by omega), drow_o _ _ (by omega), dup_o _ _ _ (by omega), drow_o _ _ (by omega)]
theorem fhs_home (A : Nat → Nat → Int) : ∀ n s, s < 3 → (fhs A n).1 s = -1 ∨ (0 ≤ (fhs A n).1 s ∧ (fhs A n).1 s < n) := by
  intro n
  induction n with
  | zero => intro s hs; exact Or.inl (if_pos hs)
  | succ n ih =>
    intro s hs
    have := ih s hs
    unfold fhs
    split
    · show va_up (fhs A n).1 (fhs A n).2 n s = -1 ∨ (0 ≤ va_up (fhs A n).1 (fhs A n).2 n s ∧ va_up (fhs A n).1 (fhs A n).2 n s < ((n + 1 : Nat) : Int))
      by_cases e : s = (fhs A n).2
      · rw [e, va_up_self]; omega
      · rw [va_up_ne _ _ e]; omega
    · omega
theorem mc_AW {A : Nat → Nat → Int} {Z : Nat} (w : AW A Z) : AW (mc A Z) Z := by
  have e0 : mc A Z 0 = A 0 := mc_o _ _ (by omega)
  have e3 : mc A Z 3 = A 3 := mc_o _ _ (by omega)
  have e7 : mc A Z 7 = A 7 := mc_o _ _ (by omega)
  have e6 : mc A Z 6 = (fhs (mc1 A Z) Z).1 := by unfold mc mc3 mc2; rw [dup_o _ _ _ (by omega), drow_t]
  unfold AW
  rw [e0, e3, e7, e6]
  exact ⟨w.1, w.2.1, w.2.2.1, w.2.2.2.1, w.2.2.2.2.1, w.2.2.2.2.2.1, fhs_home _ _⟩
section MODF
variable {m c : Nat} {M A : Nat → Nat → Int} {h : am_H} {Z : Nat}
theorem m_cr2 (hc : 8 ≤ c ∧ c ≤ 11) (hr : MR M A) (w : AW A Z) : am_run am_ms 166 2 [am_R m, am_R (m + c), am_I 0, am_K 1, am_K 1] [] (mv m (drow M c (pack A)) h) = am_run am_ms 166 50 [am_R m, am_R (m + c), am_I 0, am_I 0, am_K 1] [] (mv m (drow M c (pack (mc1 A Z))) h) := by
  have hZ8 := w.2.1
  have r0 : M 3 0 = (Z : Int) := hr.1.trans w.1
  have step : ∀ z : Nat, z < Z → am_run am_ms 166 2 [am_R m, am_R (m + c), am_I z, am_K 1, am_K 1] [] (mv m (drow M c (pack (drow A 2 (cr_s A z)))) h) = am_run am_ms 166 2 [am_R m, am_R (m + c), am_I ((z + 1 : Nat) : Int), am_K 1, am_K 1] [] (mv m (drow M c (pack (drow A 2 (cr_s A (z + 1))))) h) := by
    intro z hz
    have e2 : cr_s A z z = A 2 z := if_neg (by omega)
    rw [bk_166_2]
    by_cases q : A 2 z = 1
    · have ef : va_up (cr_s A z) z (if A 3 z = 0 then 0 else 2) = cr_s A (z + 1) := by
        funext j
        unfold va_up cr_s
        by_cases qj : j = z
        · rw [if_pos qj, qj, if_pos (show z < z + 1 ∧ A 2 z = 1 from ⟨by omega, q⟩)]
        · rw [if_neg qj]
          by_cases q3 : j < z ∧ A 2 j = 1
          · rw [if_pos q3, if_pos (show j < z + 1 ∧ A 2 j = 1 from ⟨by omega, q3.2⟩)]
          · rw [if_neg q3, if_neg (show ¬ (j < z + 1 ∧ A 2 j = 1) by omega)]
      by_cases q2 : A 3 z = 0
      · rw [if_pos q2] at ef
        simp (disch := omega) only [bk_166_22, bk_166_38, bk_166_39, bk_166_40, r0, e2, q, q2, dup_drow, ef, am_w_id, mv_c0, mv_f0_0, mv_f0_1, mv_f0_2, mv_f0_3, mv_f0_4, mv_f0_5, mv_f0_6, mv_f0_7, mv_f0_8, mv_f0_9, mv_f0_10, mv_f0_11, mv_f0_12, mv_f0_13, mv_f0_14, mv_f0_15, mv_f0_16, mv_f0_17, mv_f0_18, mv_f0_19, mv_f0_20, mv_f0_21, mv_f0_22, mv_f0_23, mv_f0_24, mv_f0_25, mv_f0_26, mv_f0_27, mv_f0_28, mv_f0_29, mv_f0_30, mv_r1, mv_r2, mv_r3, mv_r4, mv_r5, mv_r6, mv_r7, mv_r8, mv_r9, mv_r10, mv_r11, mv_r12, mv_r13, mv_r14, mv_l1, mv_l2, mv_l3, mv_l4, mv_l5, mv_l6, mv_l7, mv_l8, mv_l9, mv_l10, mv_l11, mv_l12, mv_l13, mv_l14, mr2, mr3, mr4, mr5, mr6, mr7, mr8, mr9, mr13, mr1_4, mr0_6, mr1_5, mr1_0, mr1_1, mr1_2, mr1_3, mr1_6, mr1_7, mw2, mw3, mw4, mw5, mw6, mw7, mw8, mw9, mw13, mw1_4, mw0_6, mw1_5, mw1_0, mw1_1, mw1_2, mw1_3, mw1_6, mw1_7, drow_o, drow_t, Option.bind_some, Bool.cond_decide, am_oI_some, am_oV_some, am_oI_ite, am_oV_ite, am_bind_ite, Int.toNat_natCast, Int.toNat_zero, Int.reduceToNat, ite_true, ite_false, not_true_eq_false, not_false_eq_true, decide_true, decide_false, decide_eq_true_eq, Bool.false_eq_true, Nat.add_zero, am_rok1_0, am_rok1_1, cond_true, cond_false, am_w_nat1, true_or, or_true, false_or, or_false, true_and, and_true, false_and, and_false, Int.reduceEq, Int.reduceNeg, Int.reduceLT, Int.reduceLE, or_self, and_self, if_pos, if_neg] <;> rfl
      · rw [if_neg q2] at ef
        simp (disch := omega) only [bk_166_22, bk_166_38, bk_166_39, bk_166_40, r0, e2, q, q2, dup_drow, ef, am_w_id, mv_c0, mv_f0_0, mv_f0_1, mv_f0_2, mv_f0_3, mv_f0_4, mv_f0_5, mv_f0_6, mv_f0_7, mv_f0_8, mv_f0_9, mv_f0_10, mv_f0_11, mv_f0_12, mv_f0_13, mv_f0_14, mv_f0_15, mv_f0_16, mv_f0_17, mv_f0_18, mv_f0_19, mv_f0_20, mv_f0_21, mv_f0_22, mv_f0_23, mv_f0_24, mv_f0_25, mv_f0_26, mv_f0_27, mv_f0_28, mv_f0_29, mv_f0_30, mv_r1, mv_r2, mv_r3, mv_r4, mv_r5, mv_r6, mv_r7, mv_r8, mv_r9, mv_r10, mv_r11, mv_r12, mv_r13, mv_r14, mv_l1, mv_l2, mv_l3, mv_l4, mv_l5, mv_l6, mv_l7, mv_l8, mv_l9, mv_l10, mv_l11, mv_l12, mv_l13, mv_l14, mr2, mr3, mr4, mr5, mr6, mr7, mr8, mr9, mr13, mr1_4, mr0_6, mr1_5, mr1_0, mr1_1, mr1_2, mr1_3, mr1_6, mr1_7, mw2, mw3, mw4, mw5, mw6, mw7, mw8, mw9, mw13, mw1_4, mw0_6, mw1_5, mw1_0, mw1_1, mw1_2, mw1_3, mw1_6, mw1_7, drow_o, drow_t, Option.bind_some, Bool.cond_decide, am_oI_some, am_oV_some, am_oI_ite, am_oV_ite, am_bind_ite, Int.toNat_natCast, Int.toNat_zero, Int.reduceToNat, ite_true, ite_false, not_true_eq_false, not_false_eq_true, decide_true, decide_false, decide_eq_true_eq, Bool.false_eq_true, Nat.add_zero, am_rok1_0, am_rok1_1, cond_true, cond_false, am_w_nat1, true_or, or_true, false_or, or_false, true_and, and_true, false_and, and_false, Int.reduceEq, Int.reduceNeg, Int.reduceLT, Int.reduceLE, or_self, and_self, if_pos, if_neg] <;> rfl
    · have ef : cr_s A (z + 1) = cr_s A z := by
        funext j
        unfold cr_s
        by_cases qj : j = z
        · rw [qj, if_neg (fun p => q p.2), if_neg (by omega)]
        · by_cases q3 : j < z ∧ A 2 j = 1
          · rw [if_pos q3, if_pos (show j < z + 1 ∧ A 2 j = 1 from ⟨by omega, q3.2⟩)]
          · rw [if_neg q3, if_neg (show ¬ (j < z + 1 ∧ A 2 j = 1) by omega)]
      rw [ef]
      simp (disch := omega) only [bk_166_22, bk_166_38, bk_166_39, bk_166_40, r0, e2, q, am_w_id, mv_c0, mv_f0_0, mv_f0_1, mv_f0_2, mv_f0_3, mv_f0_4, mv_f0_5, mv_f0_6, mv_f0_7, mv_f0_8, mv_f0_9, mv_f0_10, mv_f0_11, mv_f0_12, mv_f0_13, mv_f0_14, mv_f0_15, mv_f0_16, mv_f0_17, mv_f0_18, mv_f0_19, mv_f0_20, mv_f0_21, mv_f0_22, mv_f0_23, mv_f0_24, mv_f0_25, mv_f0_26, mv_f0_27, mv_f0_28, mv_f0_29, mv_f0_30, mv_r1, mv_r2, mv_r3, mv_r4, mv_r5, mv_r6, mv_r7, mv_r8, mv_r9, mv_r10, mv_r11, mv_r12, mv_r13, mv_r14, mv_l1, mv_l2, mv_l3, mv_l4, mv_l5, mv_l6, mv_l7, mv_l8, mv_l9, mv_l10, mv_l11, mv_l12, mv_l13, mv_l14, mr2, mr3, mr4, mr5, mr6, mr7, mr8, mr9, mr13, mr1_4, mr0_6, mr1_5, mr1_0, mr1_1, mr1_2, mr1_3, mr1_6, mr1_7, mw2, mw3, mw4, mw5, mw6, mw7, mw8, mw9, mw13, mw1_4, mw0_6, mw1_5, mw1_0, mw1_1, mw1_2, mw1_3, mw1_6, mw1_7, drow_o, drow_t, Option.bind_some, Bool.cond_decide, am_oI_some, am_oV_some, am_oI_ite, am_oV_ite, am_bind_ite, Int.toNat_natCast, Int.toNat_zero, Int.reduceToNat, ite_true, ite_false, not_true_eq_false, not_false_eq_true, decide_true, decide_false, decide_eq_true_eq, Bool.false_eq_true, Nat.add_zero, am_rok1_0, am_rok1_1, cond_true, cond_false, am_w_nat1, true_or, or_true, false_or, or_false, true_and, and_true, false_and, and_false, Int.reduceEq, Int.reduceNeg, Int.reduceLT, Int.reduceLE, or_self, and_self, if_pos, if_neg] <;> rfl
  have key := loop_to (fun z : Nat => am_run am_ms 166 2 [am_R m, am_R (m + c), am_I z, am_K 1, am_K 1] [] (mv m (drow M c (pack (drow A 2 (cr_s A z)))) h)) Z step
  have e0 : drow A 2 (cr_s A 0) = A := by
    rw [show cr_s A 0 = A 2 from funext (fun j => if_neg (by omega)), drow_self]
  rw [e0] at key
  refine Eq.trans key ?_
  unfold mc1
  rw [bk_166_2]
  simp (disch := omega) only [bk_166_46, r0, am_w_id, mv_c0, mv_f0_0, mv_f0_1, mv_f0_2, mv_f0_3, mv_f0_4, mv_f0_5, mv_f0_6, mv_f0_7, mv_f0_8, mv_f0_9, mv_f0_10, mv_f0_11, mv_f0_12, mv_f0_13, mv_f0_14, mv_f0_15, mv_f0_16, mv_f0_17, mv_f0_18, mv_f0_19, mv_f0_20, mv_f0_21, mv_f0_22, mv_f0_23, mv_f0_24, mv_f0_25, mv_f0_26, mv_f0_27, mv_f0_28, mv_f0_29, mv_f0_30, mv_r1, mv_r2, mv_r3, mv_r4, mv_r5, mv_r6, mv_r7, mv_r8, mv_r9, mv_r10, mv_r11, mv_r12, mv_r13, mv_r14, mv_l1, mv_l2, mv_l3, mv_l4, mv_l5, mv_l6, mv_l7, mv_l8, mv_l9, mv_l10, mv_l11, mv_l12, mv_l13, mv_l14, mr2, mr3, mr4, mr5, mr6, mr7, mr8, mr9, mr13, mr1_4, mr0_6, mr1_5, mr1_0, mr1_1, mr1_2, mr1_3, mr1_6, mr1_7, mw2, mw3, mw4, mw5, mw6, mw7, mw8, mw9, mw13, mw1_4, mw0_6, mw1_5, mw1_0, mw1_1, mw1_2, mw1_3, mw1_6, mw1_7, drow_o, drow_t, Option.bind_some, Bool.cond_decide, am_oI_some, am_oV_some, am_oI_ite, am_oV_ite, am_bind_ite, Int.toNat_natCast, Int.toNat_zero, Int.reduceToNat, ite_true, ite_false, not_true_eq_false, not_false_eq_true, decide_true, decide_false, decide_eq_true_eq, Bool.false_eq_true, Nat.add_zero, am_rok1_0, am_rok1_1, cond_true, cond_false, am_w_nat1, true_or, or_true, false_or, or_false, true_and, and_true, false_and, and_false, Int.reduceEq, Int.reduceNeg, Int.reduceLT, Int.reduceLE, or_self, and_self, if_pos, if_neg]
theorem m_cr50 (hc : 8 ≤ c ∧ c ≤ 11) (hr : MR M A) (w : AW A Z) : ∃ v : am_V, am_run am_ms 166 50 [am_R m, am_R (m + c), am_I 0, am_I 0, am_K 1] [] (mv m (drow M c (pack A)) h) = am_run am_ms 166 121 [am_R m, am_R (m + c), am_I (mxz A Z), am_I Z, v] [] (mv m (drow M c (pack A)) h) := by
  have hZ8 := w.2.1
  have r0 : M 3 0 = (Z : Int) := hr.1.trans w.1
  have hp := w.2.2.2.2.1
  have step : ∀ (z : Nat) (v : am_V), z < Z → ∃ v' : am_V, am_run am_ms 166 50 [am_R m, am_R (m + c), am_I (mxz A z), am_I z, v] [] (mv m (drow M c (pack A)) h) = am_run am_ms 166 50 [am_R m, am_R (m + c), am_I (mxz A (z + 1)), am_I ((z + 1 : Nat) : Int), v'] [] (mv m (drow M c (pack A)) h) := by
    intro z v hz
    have h3 := hp z (by omega)
    obtain ⟨P, hP⟩ : ∃ P : Nat, A 3 z = P := ⟨(A 3 z).toNat, by omega⟩
    have inner : ∀ i : Nat, i < P → am_run am_ms 166 63 [am_R m, am_R (m + c), am_I (mxs (fun i => A 9 (16 * z + i)) (mxz A z) i), am_I z, am_I i] [] (mv m (drow M c (pack A)) h) = am_run am_ms 166 63 [am_R m, am_R (m + c), am_I (mxs (fun i => A 9 (16 * z + i)) (mxz A z) (i + 1)), am_I z, am_I ((i + 1 : Nat) : Int)] [] (mv m (drow M c (pack A)) h) := by
      intro i hi
      have ew : (288 : Int) + (16 * (z : Int)) + (i : Int) = 288 + ((16 * z + i : Nat) : Int) := by omega
      have em : mxs (fun i => A 9 (16 * z + i)) (mxz A z) (i + 1) = if mxs (fun i => A 9 (16 * z + i)) (mxz A z) i < A 9 (16 * z + i) then A 9 (16 * z + i) else mxs (fun i => A 9 (16 * z + i)) (mxz A z) i := rfl
      rw [bk_166_63, em]
      generalize mxs (fun i => A 9 (16 * z + i)) (mxz A z) i = X
      by_cases q : X < A 9 (16 * z + i)
      · simp (disch := omega) only [bk_166_85, bk_166_107, bk_166_108, hP, ew, am_w_id, mv_c0, mv_f0_0, mv_f0_1, mv_f0_2, mv_f0_3, mv_f0_4, mv_f0_5, mv_f0_6, mv_f0_7, mv_f0_8, mv_f0_9, mv_f0_10, mv_f0_11, mv_f0_12, mv_f0_13, mv_f0_14, mv_f0_15, mv_f0_16, mv_f0_17, mv_f0_18, mv_f0_19, mv_f0_20, mv_f0_21, mv_f0_22, mv_f0_23, mv_f0_24, mv_f0_25, mv_f0_26, mv_f0_27, mv_f0_28, mv_f0_29, mv_f0_30, mv_r1, mv_r2, mv_r3, mv_r4, mv_r5, mv_r6, mv_r7, mv_r8, mv_r9, mv_r10, mv_r11, mv_r12, mv_r13, mv_r14, mv_l1, mv_l2, mv_l3, mv_l4, mv_l5, mv_l6, mv_l7, mv_l8, mv_l9, mv_l10, mv_l11, mv_l12, mv_l13, mv_l14, mr2, mr3, mr4, mr5, mr6, mr7, mr8, mr9, mr13, mr1_4, mr0_6, mr1_5, mr1_0, mr1_1, mr1_2, mr1_3, mr1_6, mr1_7, mw2, mw3, mw4, mw5, mw6, mw7, mw8, mw9, mw13, mw1_4, mw0_6, mw1_5, mw1_0, mw1_1, mw1_2, mw1_3, mw1_6, mw1_7, drow_o, drow_t, Option.bind_some, Bool.cond_decide, am_oI_some, am_oV_some, am_oI_ite, am_oV_ite, am_bind_ite, Int.toNat_natCast, Int.toNat_zero, Int.reduceToNat, ite_true, ite_false, not_true_eq_false, not_false_eq_true, decide_true, decide_false, decide_eq_true_eq, Bool.false_eq_true, Nat.add_zero, am_rok1_0, am_rok1_1, cond_true, cond_false, am_w_nat1, true_or, or_true, false_or, or_false, true_and, and_true, false_and, and_false, Int.reduceEq, Int.reduceNeg, Int.reduceLT, Int.reduceLE, or_self, and_self, if_pos, if_neg] <;> rfl
      · simp (disch := omega) only [bk_166_85, bk_166_107, bk_166_108, hP, ew, am_w_id, mv_c0, mv_f0_0, mv_f0_1, mv_f0_2, mv_f0_3, mv_f0_4, mv_f0_5, mv_f0_6, mv_f0_7, mv_f0_8, mv_f0_9, mv_f0_10, mv_f0_11, mv_f0_12, mv_f0_13, mv_f0_14, mv_f0_15, mv_f0_16, mv_f0_17, mv_f0_18, mv_f0_19, mv_f0_20, mv_f0_21, mv_f0_22, mv_f0_23, mv_f0_24, mv_f0_25, mv_f0_26, mv_f0_27, mv_f0_28, mv_f0_29, mv_f0_30, mv_r1, mv_r2, mv_r3, mv_r4, mv_r5, mv_r6, mv_r7, mv_r8, mv_r9, mv_r10, mv_r11, mv_r12, mv_r13, mv_r14, mv_l1, mv_l2, mv_l3, mv_l4, mv_l5, mv_l6, mv_l7, mv_l8, mv_l9, mv_l10, mv_l11, mv_l12, mv_l13, mv_l14, mr2, mr3, mr4, mr5, mr6, mr7, mr8, mr9, mr13, mr1_4, mr0_6, mr1_5, mr1_0, mr1_1, mr1_2, mr1_3, mr1_6, mr1_7, mw2, mw3, mw4, mw5, mw6, mw7, mw8, mw9, mw13, mw1_4, mw0_6, mw1_5, mw1_0, mw1_1, mw1_2, mw1_3, mw1_6, mw1_7, drow_o, drow_t, Option.bind_some, Bool.cond_decide, am_oI_some, am_oV_some, am_oI_ite, am_oV_ite, am_bind_ite, Int.toNat_natCast, Int.toNat_zero, Int.reduceToNat, ite_true, ite_false, not_true_eq_false, not_false_eq_true, decide_true, decide_false, decide_eq_true_eq, Bool.false_eq_true, Nat.add_zero, am_rok1_0, am_rok1_1, cond_true, cond_false, am_w_nat1, true_or, or_true, false_or, or_false, true_and, and_true, false_and, and_false, Int.reduceEq, Int.reduceNeg, Int.reduceLT, Int.reduceLE, or_self, and_self, if_pos, if_neg] <;> rfl
    have key := loop_to (fun i : Nat => am_run am_ms 166 63 [am_R m, am_R (m + c), am_I (mxs (fun i => A 9 (16 * z + i)) (mxz A z) i), am_I z, am_I i] [] (mv m (drow M c (pack A)) h)) P inner
    have key' : am_run am_ms 166 63 [am_R m, am_R (m + c), am_I (mxz A z), am_I z, am_I 0] [] (mv m (drow M c (pack A)) h) = am_run am_ms 166 63 [am_R m, am_R (m + c), am_I (mxz A (z + 1)), am_I z, am_I P] [] (mv m (drow M c (pack A)) h) := by
      have e : mxz A (z + 1) = mxs (fun i => A 9 (16 * z + i)) (mxz A z) P := by
        show mxs _ (mxz A z) (A 3 z).toNat = _
        rw [hP, Int.toNat_natCast]
      rw [e]
      exact key
    refine ⟨am_I P, ?_⟩
    rw [bk_166_50]
    simp (disch := omega) only [r0, am_w_id, mv_c0, mv_f0_0, mv_f0_1, mv_f0_2, mv_f0_3, mv_f0_4, mv_f0_5, mv_f0_6, mv_f0_7, mv_f0_8, mv_f0_9, mv_f0_10, mv_f0_11, mv_f0_12, mv_f0_13, mv_f0_14, mv_f0_15, mv_f0_16, mv_f0_17, mv_f0_18, mv_f0_19, mv_f0_20, mv_f0_21, mv_f0_22, mv_f0_23, mv_f0_24, mv_f0_25, mv_f0_26, mv_f0_27, mv_f0_28, mv_f0_29, mv_f0_30, mv_r1, mv_r2, mv_r3, mv_r4, mv_r5, mv_r6, mv_r7, mv_r8, mv_r9, mv_r10, mv_r11, mv_r12, mv_r13, mv_r14, mv_l1, mv_l2, mv_l3, mv_l4, mv_l5, mv_l6, mv_l7, mv_l8, mv_l9, mv_l10, mv_l11, mv_l12, mv_l13, mv_l14, mr2, mr3, mr4, mr5, mr6, mr7, mr8, mr9, mr13, mr1_4, mr0_6, mr1_5, mr1_0, mr1_1, mr1_2, mr1_3, mr1_6, mr1_7, mw2, mw3, mw4, mw5, mw6, mw7, mw8, mw9, mw13, mw1_4, mw0_6, mw1_5, mw1_0, mw1_1, mw1_2, mw1_3, mw1_6, mw1_7, drow_o, drow_t, Option.bind_some, Bool.cond_decide, am_oI_some, am_oV_some, am_oI_ite, am_oV_ite, am_bind_ite, Int.toNat_natCast, Int.toNat_zero, Int.reduceToNat, ite_true, ite_false, not_true_eq_false, not_false_eq_true, decide_true, decide_false, decide_eq_true_eq, Bool.false_eq_true, Nat.add_zero, am_rok1_0, am_rok1_1, cond_true, cond_false, am_w_nat1, true_or, or_true, false_or, or_false, true_and, and_true, false_and, and_false, Int.reduceEq, Int.reduceNeg, Int.reduceLT, Int.reduceLE, or_self, and_self, if_pos, if_neg]
    rw [key', bk_166_63]
    simp (disch := omega) only [bk_166_115, hP, am_w_id, mv_c0, mv_f0_0, mv_f0_1, mv_f0_2, mv_f0_3, mv_f0_4, mv_f0_5, mv_f0_6, mv_f0_7, mv_f0_8, mv_f0_9, mv_f0_10, mv_f0_11, mv_f0_12, mv_f0_13, mv_f0_14, mv_f0_15, mv_f0_16, mv_f0_17, mv_f0_18, mv_f0_19, mv_f0_20, mv_f0_21, mv_f0_22, mv_f0_23, mv_f0_24, mv_f0_25, mv_f0_26, mv_f0_27, mv_f0_28, mv_f0_29, mv_f0_30, mv_r1, mv_r2, mv_r3, mv_r4, mv_r5, mv_r6, mv_r7, mv_r8, mv_r9, mv_r10, mv_r11, mv_r12, mv_r13, mv_r14, mv_l1, mv_l2, mv_l3, mv_l4, mv_l5, mv_l6, mv_l7, mv_l8, mv_l9, mv_l10, mv_l11, mv_l12, mv_l13, mv_l14, mr2, mr3, mr4, mr5, mr6, mr7, mr8, mr9, mr13, mr1_4, mr0_6, mr1_5, mr1_0, mr1_1, mr1_2, mr1_3, mr1_6, mr1_7, mw2, mw3, mw4, mw5, mw6, mw7, mw8, mw9, mw13, mw1_4, mw0_6, mw1_5, mw1_0, mw1_1, mw1_2, mw1_3, mw1_6, mw1_7, drow_o, drow_t, Option.bind_some, Bool.cond_decide, am_oI_some, am_oV_some, am_oI_ite, am_oV_ite, am_bind_ite, Int.toNat_natCast, Int.toNat_zero, Int.reduceToNat, ite_true, ite_false, not_true_eq_false, not_false_eq_true, decide_true, decide_false, decide_eq_true_eq, Bool.false_eq_true, Nat.add_zero, am_rok1_0, am_rok1_1, cond_true, cond_false, am_w_nat1, true_or, or_true, false_or, or_false, true_and, and_true, false_and, and_false, Int.reduceEq, Int.reduceNeg, Int.reduceLT, Int.reduceLE, or_self, and_self, if_pos, if_neg] <;> rfl
  obtain ⟨v', key⟩ := loop_v (fun (z : Nat) (v : am_V) => am_run am_ms 166 50 [am_R m, am_R (m + c), am_I (mxz A z), am_I z, v] [] (mv m (drow M c (pack A)) h)) Z step (am_K 1)
  refine ⟨v', ?_⟩
  refine Eq.trans key ?_
  show am_run am_ms 166 50 [am_R m, am_R (m + c), am_I (mxz A Z), am_I Z, v'] [] (mv m (drow M c (pack A)) h) = _
  rw [bk_166_50]
  simp (disch := omega) only [r0, am_w_id, mv_c0, mv_f0_0, mv_f0_1, mv_f0_2, mv_f0_3, mv_f0_4, mv_f0_5, mv_f0_6, mv_f0_7, mv_f0_8, mv_f0_9, mv_f0_10, mv_f0_11, mv_f0_12, mv_f0_13, mv_f0_14, mv_f0_15, mv_f0_16, mv_f0_17, mv_f0_18, mv_f0_19, mv_f0_20, mv_f0_21, mv_f0_22, mv_f0_23, mv_f0_24, mv_f0_25, mv_f0_26, mv_f0_27, mv_f0_28, mv_f0_29, mv_f0_30, mv_r1, mv_r2, mv_r3, mv_r4, mv_r5, mv_r6, mv_r7, mv_r8, mv_r9, mv_r10, mv_r11, mv_r12, mv_r13, mv_r14, mv_l1, mv_l2, mv_l3, mv_l4, mv_l5, mv_l6, mv_l7, mv_l8, mv_l9, mv_l10, mv_l11, mv_l12, mv_l13, mv_l14, mr2, mr3, mr4, mr5, mr6, mr7, mr8, mr9, mr13, mr1_4, mr0_6, mr1_5, mr1_0, mr1_1, mr1_2, mr1_3, mr1_6, mr1_7, mw2, mw3, mw4, mw5, mw6, mw7, mw8, mw9, mw13, mw1_4, mw0_6, mw1_5, mw1_0, mw1_1, mw1_2, mw1_3, mw1_6, mw1_7, drow_o, drow_t, Option.bind_some, Bool.cond_decide, am_oI_some, am_oV_some, am_oI_ite, am_oV_ite, am_bind_ite, Int.toNat_natCast, Int.toNat_zero, Int.reduceToNat, ite_true, ite_false, not_true_eq_false, not_false_eq_true, decide_true, decide_false, decide_eq_true_eq, Bool.false_eq_true, Nat.add_zero, am_rok1_0, am_rok1_1, cond_true, cond_false, am_w_nat1, true_or, or_true, false_or, or_false, true_and, and_true, false_and, and_false, Int.reduceEq, Int.reduceNeg, Int.reduceLT, Int.reduceLE, or_self, and_self, if_pos, if_neg]
theorem m_cr129 (hc : 8 ≤ c ∧ c ≤ 11) (x : Int) (v : am_V) : am_run am_ms 166 129 [am_R m, am_R (m + c), am_I x, am_I 0, v] [] (mv m (drow M c (pack A)) h) = am_run am_ms 166 153 [am_R m, am_R (m + c), am_I x, am_I 0, am_I 0] [] (mv m (drow M c (pack (drow A 6 (fl 3 (-1) (A 6))))) h) := by
  have step : ∀ s : Nat, s < 3 → am_run am_ms 166 129 [am_R m, am_R (m + c), am_I x, am_I s, v] [] (mv m (drow M c (pack (drow A 6 (fl s (-1) (A 6))))) h) = am_run am_ms 166 129 [am_R m, am_R (m + c), am_I x, am_I ((s + 1 : Nat) : Int), v] [] (mv m (drow M c (pack (drow A 6 (fl (s + 1) (-1) (A 6))))) h) := by
    intro s hs
    have ef : va_up (fl s (-1) (A 6)) s (-1) = fl (s + 1) (-1) (A 6) := by
      funext j
      unfold va_up fl
      by_cases e : j = s
      · rw [if_pos e, if_pos (by omega)]
      · rw [if_neg e]
        by_cases e' : j < s
        · rw [if_pos e', if_pos (by omega)]
        · rw [if_neg e', if_neg (by omega)]
    rw [bk_166_129]
    simp (disch := omega) only [dup_drow, ef, am_w_id, mv_c0, mv_f0_0, mv_f0_1, mv_f0_2, mv_f0_3, mv_f0_4, mv_f0_5, mv_f0_6, mv_f0_7, mv_f0_8, mv_f0_9, mv_f0_10, mv_f0_11, mv_f0_12, mv_f0_13, mv_f0_14, mv_f0_15, mv_f0_16, mv_f0_17, mv_f0_18, mv_f0_19, mv_f0_20, mv_f0_21, mv_f0_22, mv_f0_23, mv_f0_24, mv_f0_25, mv_f0_26, mv_f0_27, mv_f0_28, mv_f0_29, mv_f0_30, mv_r1, mv_r2, mv_r3, mv_r4, mv_r5, mv_r6, mv_r7, mv_r8, mv_r9, mv_r10, mv_r11, mv_r12, mv_r13, mv_r14, mv_l1, mv_l2, mv_l3, mv_l4, mv_l5, mv_l6, mv_l7, mv_l8, mv_l9, mv_l10, mv_l11, mv_l12, mv_l13, mv_l14, mr2, mr3, mr4, mr5, mr6, mr7, mr8, mr9, mr13, mr1_4, mr0_6, mr1_5, mr1_0, mr1_1, mr1_2, mr1_3, mr1_6, mr1_7, mw2, mw3, mw4, mw5, mw6, mw7, mw8, mw9, mw13, mw1_4, mw0_6, mw1_5, mw1_0, mw1_1, mw1_2, mw1_3, mw1_6, mw1_7, drow_o, drow_t, Option.bind_some, Bool.cond_decide, am_oI_some, am_oV_some, am_oI_ite, am_oV_ite, am_bind_ite, Int.toNat_natCast, Int.toNat_zero, Int.reduceToNat, ite_true, ite_false, not_true_eq_false, not_false_eq_true, decide_true, decide_false, decide_eq_true_eq, Bool.false_eq_true, Nat.add_zero, am_rok1_0, am_rok1_1, cond_true, cond_false, am_w_nat1, true_or, or_true, false_or, or_false, true_and, and_true, false_and, and_false, Int.reduceEq, Int.reduceNeg, Int.reduceLT, Int.reduceLE, or_self, and_self, if_pos, if_neg] <;> rfl
  have key := loop_to (fun s : Nat => am_run am_ms 166 129 [am_R m, am_R (m + c), am_I x, am_I s, v] [] (mv m (drow M c (pack (drow A 6 (fl s (-1) (A 6))))) h)) 3 step
  have e0 : drow A 6 (fl 0 (-1) (A 6)) = A := by
    rw [show fl 0 (-1) (A 6) = A 6 from funext (fun j => if_neg (by omega)), drow_self]
  rw [e0] at key
  refine Eq.trans key ?_
  show am_run am_ms 166 129 [am_R m, am_R (m + c), am_I x, am_I 3, v] [] _ = _
  rw [bk_166_129]
  simp (disch := omega) only [bk_166_148, am_w_id, mv_c0, mv_f0_0, mv_f0_1, mv_f0_2, mv_f0_3, mv_f0_4, mv_f0_5, mv_f0_6, mv_f0_7, mv_f0_8, mv_f0_9, mv_f0_10, mv_f0_11, mv_f0_12, mv_f0_13, mv_f0_14, mv_f0_15, mv_f0_16, mv_f0_17, mv_f0_18, mv_f0_19, mv_f0_20, mv_f0_21, mv_f0_22, mv_f0_23, mv_f0_24, mv_f0_25, mv_f0_26, mv_f0_27, mv_f0_28, mv_f0_29, mv_f0_30, mv_r1, mv_r2, mv_r3, mv_r4, mv_r5, mv_r6, mv_r7, mv_r8, mv_r9, mv_r10, mv_r11, mv_r12, mv_r13, mv_r14, mv_l1, mv_l2, mv_l3, mv_l4, mv_l5, mv_l6, mv_l7, mv_l8, mv_l9, mv_l10, mv_l11, mv_l12, mv_l13, mv_l14, mr2, mr3, mr4, mr5, mr6, mr7, mr8, mr9, mr13, mr1_4, mr0_6, mr1_5, mr1_0, mr1_1, mr1_2, mr1_3, mr1_6, mr1_7, mw2, mw3, mw4, mw5, mw6, mw7, mw8, mw9, mw13, mw1_4, mw0_6, mw1_5, mw1_0, mw1_1, mw1_2, mw1_3, mw1_6, mw1_7, drow_o, drow_t, Option.bind_some, Bool.cond_decide, am_oI_some, am_oV_some, am_oI_ite, am_oV_ite, am_bind_ite, Int.toNat_natCast, Int.toNat_zero, Int.reduceToNat, ite_true, ite_false, not_true_eq_false, not_false_eq_true, decide_true, decide_false, decide_eq_true_eq, Bool.false_eq_true, Nat.add_zero, am_rok1_0, am_rok1_1, cond_true, cond_false, am_w_nat1, true_or, or_true, false_or, or_false, true_and, and_true, false_and, and_false, Int.reduceEq, Int.reduceNeg, Int.reduceLT, Int.reduceLE, or_self, and_self, if_pos, if_neg]
theorem fhs_same {A : Nat → Nat → Int} {n : Nat} (h : ¬ ((fhs A n).2 : Int) < A 0 4) : ∀ j, fhs A (n + j) = fhs A n := by
  intro j
  induction j with
  | zero => rfl
  | succ j ih =>
    show (if ((fhs A (n + j)).2 : Int) < A 0 4 ∧ cd_act A (n + j) = true then (va_up (fhs A (n + j)).1 (fhs A (n + j)).2 ((n + j : Nat) : Int), (fhs A (n + j)).2 + 1) else fhs A (n + j)) = _
    rw [ih, if_neg (fun q => h q.1)]
theorem m_cr153 (hc : 8 ≤ c ∧ c ≤ 11) (hr : MR M A) (w : AW A Z) (x : Int) : ∃ y t : Int, am_run am_ms 166 153 [am_R m, am_R (m + c), am_I x, am_I 0, am_I 0] [] (mv m (drow M c (pack (drow A 6 (fl 3 (-1) (A 6))))) h) = am_run am_ms 166 202 [am_R m, am_R (m + c), am_I x, am_I y, am_I t] [] (mv m (drow M c (pack (drow A 6 (fhs A Z).1))) h) := by
  have hZ8 := w.2.1
  have r0 : M 3 0 = (Z : Int) := hr.1.trans w.1
  have r4 := hr.2.2.2.2.1
  have h4 := w.2.2.2.1
  have step : ∀ z : Nat, z < Z → ((fhs A z).2 : Int) < A 0 4 → am_run am_ms 166 153 [am_R m, am_R (m + c), am_I x, am_I (fhs A z).2, am_I z] [] (mv m (drow M c (pack (drow A 6 (fhs A z).1))) h) = am_run am_ms 166 153 [am_R m, am_R (m + c), am_I x, am_I (fhs A (z + 1)).2, am_I ((z + 1 : Nat) : Int)] [] (mv m (drow M c (pack (drow A 6 (fhs A (z + 1)).1))) h) := by
    intro z hz hlt
    have ef : fhs A (z + 1) = if ((fhs A z).2 : Int) < A 0 4 ∧ cd_act A z = true then (va_up (fhs A z).1 (fhs A z).2 z, (fhs A z).2 + 1) else fhs A z := rfl
    rw [ef]
    generalize fhs A z = F at hlt ⊢
    have c1 := m_isActive (m := m) (M := M) (A := drow A 6 F.1) (h := h) hc (z := z) (by omega)
    have ea : cd_act (drow A 6 F.1) z = cd_act A z := by unfold cd_act; rw [drow_o _ _ (by omega)]
    rw [ea] at c1
    rw [bk_166_153]
    cases e : cd_act A z with
    | true =>
      rw [e] at c1
      rw [if_pos ⟨hlt, rfl⟩]
      simp (disch := omega) only [bk_166_181, bk_166_184, bk_166_196, r0, r4, c1, dup_drow, am_w_id, mv_c0, mv_f0_0, mv_f0_1, mv_f0_2, mv_f0_3, mv_f0_4, mv_f0_5, mv_f0_6, mv_f0_7, mv_f0_8, mv_f0_9, mv_f0_10, mv_f0_11, mv_f0_12, mv_f0_13, mv_f0_14, mv_f0_15, mv_f0_16, mv_f0_17, mv_f0_18, mv_f0_19, mv_f0_20, mv_f0_21, mv_f0_22, mv_f0_23, mv_f0_24, mv_f0_25, mv_f0_26, mv_f0_27, mv_f0_28, mv_f0_29, mv_f0_30, mv_r1, mv_r2, mv_r3, mv_r4, mv_r5, mv_r6, mv_r7, mv_r8, mv_r9, mv_r10, mv_r11, mv_r12, mv_r13, mv_r14, mv_l1, mv_l2, mv_l3, mv_l4, mv_l5, mv_l6, mv_l7, mv_l8, mv_l9, mv_l10, mv_l11, mv_l12, mv_l13, mv_l14, mr2, mr3, mr4, mr5, mr6, mr7, mr8, mr9, mr13, mr1_4, mr0_6, mr1_5, mr1_0, mr1_1, mr1_2, mr1_3, mr1_6, mr1_7, mw2, mw3, mw4, mw5, mw6, mw7, mw8, mw9, mw13, mw1_4, mw0_6, mw1_5, mw1_0, mw1_1, mw1_2, mw1_3, mw1_6, mw1_7, drow_o, drow_t, Option.bind_some, Bool.cond_decide, am_oI_some, am_oV_some, am_oI_ite, am_oV_ite, am_bind_ite, Int.toNat_natCast, Int.toNat_zero, Int.reduceToNat, ite_true, ite_false, not_true_eq_false, not_false_eq_true, decide_true, decide_false, decide_eq_true_eq, Bool.false_eq_true, Nat.add_zero, am_rok1_0, am_rok1_1, cond_true, cond_false, am_w_nat1, true_or, or_true, false_or, or_false, true_and, and_true, false_and, and_false, Int.reduceEq, Int.reduceNeg, Int.reduceLT, Int.reduceLE, or_self, and_self, if_pos, if_neg] <;> rfl
    | false =>
      rw [e] at c1
      rw [if_neg (fun q => absurd q.2 (by decide))]
      simp (disch := omega) only [bk_166_181, bk_166_184, bk_166_196, r0, r4, c1, dup_drow, am_w_id, mv_c0, mv_f0_0, mv_f0_1, mv_f0_2, mv_f0_3, mv_f0_4, mv_f0_5, mv_f0_6, mv_f0_7, mv_f0_8, mv_f0_9, mv_f0_10, mv_f0_11, mv_f0_12, mv_f0_13, mv_f0_14, mv_f0_15, mv_f0_16, mv_f0_17, mv_f0_18, mv_f0_19, mv_f0_20, mv_f0_21, mv_f0_22, mv_f0_23, mv_f0_24, mv_f0_25, mv_f0_26, mv_f0_27, mv_f0_28, mv_f0_29, mv_f0_30, mv_r1, mv_r2, mv_r3, mv_r4, mv_r5, mv_r6, mv_r7, mv_r8, mv_r9, mv_r10, mv_r11, mv_r12, mv_r13, mv_r14, mv_l1, mv_l2, mv_l3, mv_l4, mv_l5, mv_l6, mv_l7, mv_l8, mv_l9, mv_l10, mv_l11, mv_l12, mv_l13, mv_l14, mr2, mr3, mr4, mr5, mr6, mr7, mr8, mr9, mr13, mr1_4, mr0_6, mr1_5, mr1_0, mr1_1, mr1_2, mr1_3, mr1_6, mr1_7, mw2, mw3, mw4, mw5, mw6, mw7, mw8, mw9, mw13, mw1_4, mw0_6, mw1_5, mw1_0, mw1_1, mw1_2, mw1_3, mw1_6, mw1_7, drow_o, drow_t, Option.bind_some, Bool.cond_decide, am_oI_some, am_oV_some, am_oI_ite, am_oV_ite, am_bind_ite, Int.toNat_natCast, Int.toNat_zero, Int.reduceToNat, ite_true, ite_false, not_true_eq_false, not_false_eq_true, decide_true, decide_false, decide_eq_true_eq, Bool.false_eq_true, Nat.add_zero, am_rok1_0, am_rok1_1, cond_true, cond_false, am_w_nat1, true_or, or_true, false_or, or_false, true_and, and_true, false_and, and_false, Int.reduceEq, Int.reduceNeg, Int.reduceLT, Int.reduceLE, or_self, and_self, if_pos, if_neg] <;> rfl
  rcases first_or (fun z => decide (¬ ((fhs A z).2 : Int) < A 0 4)) Z with hno | ⟨k, k1, k2, k3⟩
  · have key := loop_to (fun z : Nat => am_run am_ms 166 153 [am_R m, am_R (m + c), am_I x, am_I (fhs A z).2, am_I z] [] (mv m (drow M c (pack (drow A 6 (fhs A z).1))) h)) Z (fun z hz => step z hz (by have := of_decide_eq_false (hno z hz); omega))
    refine ⟨(fhs A Z).2, Z, Eq.trans key ?_⟩
    rw [bk_166_153]
    simp (disch := omega) only [r0, am_w_id, mv_c0, mv_f0_0, mv_f0_1, mv_f0_2, mv_f0_3, mv_f0_4, mv_f0_5, mv_f0_6, mv_f0_7, mv_f0_8, mv_f0_9, mv_f0_10, mv_f0_11, mv_f0_12, mv_f0_13, mv_f0_14, mv_f0_15, mv_f0_16, mv_f0_17, mv_f0_18, mv_f0_19, mv_f0_20, mv_f0_21, mv_f0_22, mv_f0_23, mv_f0_24, mv_f0_25, mv_f0_26, mv_f0_27, mv_f0_28, mv_f0_29, mv_f0_30, mv_r1, mv_r2, mv_r3, mv_r4, mv_r5, mv_r6, mv_r7, mv_r8, mv_r9, mv_r10, mv_r11, mv_r12, mv_r13, mv_r14, mv_l1, mv_l2, mv_l3, mv_l4, mv_l5, mv_l6, mv_l7, mv_l8, mv_l9, mv_l10, mv_l11, mv_l12, mv_l13, mv_l14, mr2, mr3, mr4, mr5, mr6, mr7, mr8, mr9, mr13, mr1_4, mr0_6, mr1_5, mr1_0, mr1_1, mr1_2, mr1_3, mr1_6, mr1_7, mw2, mw3, mw4, mw5, mw6, mw7, mw8, mw9, mw13, mw1_4, mw0_6, mw1_5, mw1_0, mw1_1, mw1_2, mw1_3, mw1_6, mw1_7, drow_o, drow_t, Option.bind_some, Bool.cond_decide, am_oI_some, am_oV_some, am_oI_ite, am_oV_ite, am_bind_ite, Int.toNat_natCast, Int.toNat_zero, Int.reduceToNat, ite_true, ite_false, not_true_eq_false, not_false_eq_true, decide_true, decide_false, decide_eq_true_eq, Bool.false_eq_true, Nat.add_zero, am_rok1_0, am_rok1_1, cond_true, cond_false, am_w_nat1, true_or, or_true, false_or, or_false, true_and, and_true, false_and, and_false, Int.reduceEq, Int.reduceNeg, Int.reduceLT, Int.reduceLE, or_self, and_self, if_pos, if_neg]
  · have key := loop_to (fun z : Nat => am_run am_ms 166 153 [am_R m, am_R (m + c), am_I x, am_I (fhs A z).2, am_I z] [] (mv m (drow M c (pack (drow A 6 (fhs A z).1))) h)) k (fun z hz => step z (by omega) (by have := of_decide_eq_false (k3 z hz); omega))
    have k2' := of_decide_eq_true k2
    have eZ := fhs_same k2' (Z - k)
    rw [show k + (Z - k) = Z by omega] at eZ
    refine ⟨(fhs A k).2, k, Eq.trans key ?_⟩
    rw [bk_166_153, eZ]
    simp (disch := omega) only [r0, r4, am_w_id, mv_c0, mv_f0_0, mv_f0_1, mv_f0_2, mv_f0_3, mv_f0_4, mv_f0_5, mv_f0_6, mv_f0_7, mv_f0_8, mv_f0_9, mv_f0_10, mv_f0_11, mv_f0_12, mv_f0_13, mv_f0_14, mv_f0_15, mv_f0_16, mv_f0_17, mv_f0_18, mv_f0_19, mv_f0_20, mv_f0_21, mv_f0_22, mv_f0_23, mv_f0_24, mv_f0_25, mv_f0_26, mv_f0_27, mv_f0_28, mv_f0_29, mv_f0_30, mv_r1, mv_r2, mv_r3, mv_r4, mv_r5, mv_r6, mv_r7, mv_r8, mv_r9, mv_r10, mv_r11, mv_r12, mv_r13, mv_r14, mv_l1, mv_l2, mv_l3, mv_l4, mv_l5, mv_l6, mv_l7, mv_l8, mv_l9, mv_l10, mv_l11, mv_l12, mv_l13, mv_l14, mr2, mr3, mr4, mr5, mr6, mr7, mr8, mr9, mr13, mr1_4, mr0_6, mr1_5, mr1_0, mr1_1, mr1_2, mr1_3, mr1_6, mr1_7, mw2, mw3, mw4, mw5, mw6, mw7, mw8, mw9, mw13, mw1_4, mw0_6, mw1_5, mw1_0, mw1_1, mw1_2, mw1_3, mw1_6, mw1_7, drow_o, drow_t, Option.bind_some, Bool.cond_decide, am_oI_some, am_oV_some, am_oI_ite, am_oV_ite, am_bind_ite, Int.toNat_natCast, Int.toNat_zero, Int.reduceToNat, ite_true, ite_false, not_true_eq_false, not_false_eq_true, decide_true, decide_false, decide_eq_true_eq, Bool.false_eq_true, Nat.add_zero, am_rok1_0, am_rok1_1, cond_true, cond_false, am_w_nat1, true_or, or_true, false_or, or_false, true_and, and_true, false_and, and_false, Int.reduceEq, Int.reduceNeg, Int.reduceLT, Int.reduceLE, or_self, and_self, if_pos, if_neg]
theorem m_crashes (hc : 8 ≤ c ∧ c ≤ 11) (hr : MR M A) (w : AW A Z) (lg : LG A) : am_cV 166 [am_R m, am_R (m + c)] (mv m (drow M c (pack A)) h) = some (mv m (drow M c (pack (m_cr A Z))) h) := by
  have k1 := m_cr2 (m := m) (h := h) hc hr w
  have e10 : mc1 A Z 0 = A 0 := drow_o _ _ (by omega)
  have w1 : AW (mc1 A Z) Z := AW_of w (drow_o _ _ (by omega)) (drow_o _ _ (by omega)) (drow_o _ _ (by omega)) (drow_o _ _ (by omega))
  obtain ⟨v, k2⟩ := m_cr50 (m := m) (h := h) hc (MR_of hr e10) w1
  have k3 := m_cr129 (m := m) (M := M) (A := dup (mc1 A Z) 1 4 (mxz (mc1 A Z) Z)) (h := h) hc (mxz (mc1 A Z) Z) v
  have e20 : dup (mc1 A Z) 1 4 (mxz (mc1 A Z) Z) 0 = A 0 := by rw [dup_o _ _ _ (by omega), e10]
  have w2 : AW (dup (mc1 A Z) 1 4 (mxz (mc1 A Z) Z)) Z := AW_of w1 (dup_o _ _ _ (by omega)) (dup_o _ _ _ (by omega)) (dup_o _ _ _ (by omega)) (dup_o _ _ _ (by omega))
  obtain ⟨y, t, k4⟩ := m_cr153 (m := m) (h := h) hc (MR_of hr e20) w2 (mxz (mc1 A Z) Z)
  have ef : ∀ n, fhs (dup (mc1 A Z) 1 4 (mxz (mc1 A Z) Z)) n = fhs (mc1 A Z) n := by
    intro n
    induction n with
    | zero => unfold fhs; rw [dup_o _ _ _ (by omega)]
    | succ n ih =>
      have ea : cd_act (dup (mc1 A Z) 1 4 (mxz (mc1 A Z) Z)) n = cd_act (mc1 A Z) n := by unfold cd_act; rw [dup_o _ _ _ (by omega)]
      unfold fhs
      rw [ih, ea, dup_o _ _ _ (by omega)]
  rw [ef] at k4
  have e4 : drow (dup (mc1 A Z) 1 4 (mxz (mc1 A Z) Z)) 6 (fhs (mc1 A Z) Z).1 = mc2 (mc1 A Z) Z := rfl
  rw [e4] at k4
  have c5 := m_keysOf (m := m) (h := h) hc (MR_of hr (mc_o A Z (r := 0) (by omega))) (mc_AW w)
  have c6 := m_notes (m := m) (M := M) (A := mc A Z) (h := h) hc (LG_of lg (mc_o A Z (by omega))) 6 (-1) (ml_kv (mc A Z) Z 32)
  have e5 : mc A Z = dup (mc2 (mc1 A Z) Z) 1 3 (am_w (mc2 (mc1 A Z) Z 1 3 + 1)) := rfl
  unfold m_cr
  generalize mc A Z = X at c5 c6 e5 ⊢
  clear ef e4 w w1 w2 e10 e20 hr
  generalize mxz (mc1 A Z) Z = Y at k2 k3 k4
  rw [am_cV, en_166, bk_166_0, k1, k2]
  generalize mc1 A Z = B at k3 k4 e5 ⊢
  generalize mc2 B Z = C at k4 e5 ⊢
  subst e5
  simp (disch := omega) only [bk_166_121, k3, k4, am_w_id, mv_c0, mv_f0_0, mv_f0_1, mv_f0_2, mv_f0_3, mv_f0_4, mv_f0_5, mv_f0_6, mv_f0_7, mv_f0_8, mv_f0_9, mv_f0_10, mv_f0_11, mv_f0_12, mv_f0_13, mv_f0_14, mv_f0_15, mv_f0_16, mv_f0_17, mv_f0_18, mv_f0_19, mv_f0_20, mv_f0_21, mv_f0_22, mv_f0_23, mv_f0_24, mv_f0_25, mv_f0_26, mv_f0_27, mv_f0_28, mv_f0_29, mv_f0_30, mv_r1, mv_r2, mv_r3, mv_r4, mv_r5, mv_r6, mv_r7, mv_r8, mv_r9, mv_r10, mv_r11, mv_r12, mv_r13, mv_r14, mv_l1, mv_l2, mv_l3, mv_l4, mv_l5, mv_l6, mv_l7, mv_l8, mv_l9, mv_l10, mv_l11, mv_l12, mv_l13, mv_l14, mr2, mr3, mr4, mr5, mr6, mr7, mr8, mr9, mr13, mr1_4, mr0_6, mr1_5, mr1_0, mr1_1, mr1_2, mr1_3, mr1_6, mr1_7, mw2, mw3, mw4, mw5, mw6, mw7, mw8, mw9, mw13, mw1_4, mw0_6, mw1_5, mw1_0, mw1_1, mw1_2, mw1_3, mw1_6, mw1_7, drow_o, drow_t, Option.bind_some, Bool.cond_decide, am_oI_some, am_oV_some, am_oI_ite, am_oV_ite, am_bind_ite, Int.toNat_natCast, Int.toNat_zero, Int.reduceToNat, ite_true, ite_false, not_true_eq_false, not_false_eq_true, decide_true, decide_false, decide_eq_true_eq, Bool.false_eq_true, Nat.add_zero, am_rok1_0, am_rok1_1, cond_true, cond_false, am_w_nat1, true_or, or_true, false_or, or_false, true_and, and_true, false_and, and_false, Int.reduceEq, Int.reduceNeg, Int.reduceLT, Int.reduceLE, or_self, and_self, if_pos, if_neg]
  simp (disch := omega) only [bk_166_202, bk_166_221, c5, c6, am_w_id, mv_c0, mv_f0_0, mv_f0_1, mv_f0_2, mv_f0_3, mv_f0_4, mv_f0_5, mv_f0_6, mv_f0_7, mv_f0_8, mv_f0_9, mv_f0_10, mv_f0_11, mv_f0_12, mv_f0_13, mv_f0_14, mv_f0_15, mv_f0_16, mv_f0_17, mv_f0_18, mv_f0_19, mv_f0_20, mv_f0_21, mv_f0_22, mv_f0_23, mv_f0_24, mv_f0_25, mv_f0_26, mv_f0_27, mv_f0_28, mv_f0_29, mv_f0_30, mv_r1, mv_r2, mv_r3, mv_r4, mv_r5, mv_r6, mv_r7, mv_r8, mv_r9, mv_r10, mv_r11, mv_r12, mv_r13, mv_r14, mv_l1, mv_l2, mv_l3, mv_l4, mv_l5, mv_l6, mv_l7, mv_l8, mv_l9, mv_l10, mv_l11, mv_l12, mv_l13, mv_l14, mr2, mr3, mr4, mr5, mr6, mr7, mr8, mr9, mr13, mr1_4, mr0_6, mr1_5, mr1_0, mr1_1, mr1_2, mr1_3, mr1_6, mr1_7, mw2, mw3, mw4, mw5, mw6, mw7, mw8, mw9, mw13, mw1_4, mw0_6, mw1_5, mw1_0, mw1_1, mw1_2, mw1_3, mw1_6, mw1_7, drow_o, drow_t, Option.bind_some, Bool.cond_decide, am_oI_some, am_oV_some, am_oI_ite, am_oV_ite, am_bind_ite, Int.toNat_natCast, Int.toNat_zero, Int.reduceToNat, ite_true, ite_false, not_true_eq_false, not_false_eq_true, decide_true, decide_false, decide_eq_true_eq, Bool.false_eq_true, Nat.add_zero, am_rok1_0, am_rok1_1, cond_true, cond_false, am_w_nat1, true_or, or_true, false_or, or_false, true_and, and_true, false_and, and_false, Int.reduceEq, Int.reduceNeg, Int.reduceLT, Int.reduceLE, or_self, and_self, if_pos, if_neg]
end MODF
