/-! ===== THE MODEL: an act, as a call ===== -/
/-- the history's counts behind one more act -/
def rmM (M : Nat → Nat → Int) : Nat → Nat → Int := if M 0 21 = 40 then dup M 0 20 ((M 0 20 + 1) % 40) else dup M 0 21 (M 0 21 + 1)
def rms (M : Nat → Nat → Int) : Nat := ((rmM M 0 20 + rmM M 0 21 - 1) % 40).toNat
def rem_M (M : Nat → Nat → Int) : Nat → Nat → Int := drow (rmM M) 12 (cpr (M 12) (M 8) 0 (609 * rms M) 609)
theorem rmM_o (M : Nat → Nat → Int) {r : Nat} (hr : r ≠ 0) : rmM M r = M r := by
  unfold rmM
  split
  · exact dup_o _ _ _ hr
  · exact dup_o _ _ _ hr
theorem rmM_0 (M : Nat → Nat → Int) {j : Nat} (h20 : j ≠ 20) (h21 : j ≠ 21) : rmM M 0 j = M 0 j := by
  unfold rmM
  split
  · rw [dup_t, va_up_ne _ _ h20]
  · rw [dup_t, va_up_ne _ _ h21]
section MACT
variable {mo : Nat} {M A : Nat → Nat → Int} {g : am_H} {Z : Nat}
theorem m_remember (h20 : 0 ≤ M 0 20 ∧ M 0 20 ≤ 39) (h21 : 0 ≤ M 0 21 ∧ M 0 21 ≤ 40) : am_cV 169 [am_R mo] (mv mo M g) = some (mv mo (rem_M M) g) := by
  have b20 : 0 ≤ rmM M 0 20 ∧ rmM M 0 20 ≤ 39 := by
    unfold rmM
    split
    · rw [dup_t, va_up_self]; omega
    · rw [dup_t, va_up_ne _ _ (by omega)]; exact h20
  have b21 : 1 ≤ rmM M 0 21 ∧ rmM M 0 21 ≤ 40 := by
    unfold rmM
    split
    · rw [dup_t, va_up_ne _ _ (by omega)]; omega
    · rw [dup_t, va_up_self]; omega
  have e1 : am_w (rmM M 0 20 + rmM M 0 21) = rmM M 0 20 + rmM M 0 21 := am_w_id (by omega) (by omega)
  have e2 : am_w (rmM M 0 20 + rmM M 0 21 - 1) = rmM M 0 20 + rmM M 0 21 - 1 := am_w_id (by omega) (by omega)
  have hs : rms M < 40 := by unfold rms; omega
  have e3 : am_rem (rmM M 0 20 + rmM M 0 21 - 1) 40 = (rms M : Int) := by
    rw [am_rem_of ⟨by omega, by omega⟩ ⟨by omega, by omega⟩ (by omega) (by omega)]
    unfold rms
    omega
  have e4 : am_w (609 * (rms M : Int)) = ((609 * rms M : Nat) : Int) := by rw [am_w_id (by omega) (by omega)]; omega
  have cp := m_copyRow (m := mo) (a := 8) (b := 12) (f := 0) (t := 609 * rms M) (M := rmM M) (h := g) (by omega) (by omega) (by omega) (fun M' j hj => by
    have := mvc_rd (m := mo) (M := M') (h := g) (c := 8) (by omega) (j := ((0 + j : Nat) : Int)) (by omega) (by omega)
    rw [this, Int.toNat_natCast]) (fun M' j y hj => by
    have := mv_w12 (m := mo) (M := M') (h := g) (j := ((609 * rms M + j : Nat) : Int)) y (by omega) (by omega)
    rw [this, Int.toNat_natCast])
  rw [rmM_o M (by omega), rmM_o M (by omega)] at cp
  have cp' : am_cV 108 [am_R (mo + 8), am_I 0, am_R (mo + 12), am_I ((609 * rms M : Nat) : Int)] (mv mo (rmM M) g) = some (mv mo (rem_M M) g) := cp
  have k35 : am_oV (am_run am_ms 169 35 [am_R mo] [] (mv mo (rmM M) g)) = some (mv mo (rem_M M) g) := by
    clear cp
    simp (disch := omega) only [bk_169_35, bk_169_60, mv_f0_15, mv_f0_19, mv_f0_20, mv_f0_21, e1, e2, e3, e4, cp', Option.bind_some, Bool.cond_decide, am_oI_some, am_oV_some, am_oI_ite, am_oV_ite, am_bind_ite, Int.toNat_natCast, Int.toNat_zero, Int.reduceToNat, ite_true, ite_false, not_true_eq_false, not_false_eq_true, decide_true, decide_false, decide_eq_true_eq, Bool.false_eq_true, Nat.add_zero, am_rok1_0, am_rok1_1, cond_true, cond_false, am_w_nat1, true_or, or_true, false_or, or_false, true_and, and_true, false_and, and_false, Int.reduceEq, Int.reduceNeg, Int.reduceLT, Int.reduceLE, or_self, and_self, if_neg]
  clear cp cp' e1 e2 e3 e4
  unfold rmM at k35
  rw [am_cV, en_169, bk_169_0]
  by_cases e : M 0 21 = 40
  · rw [if_pos e] at k35
    have e5 : am_w (M 0 20 + 1) = M 0 20 + 1 := am_w_id (by omega) (by omega)
    have e6 : am_rem (M 0 20 + 1) 40 = (M 0 20 + 1) % 40 := am_rem_of ⟨by omega, by omega⟩ ⟨by omega, by omega⟩ (by omega) (by omega)
    clear b20 b21
    simp (disch := omega) only [mv_f0_20, mv_f0_21, mv_p0_20, e, e5, e6, k35, Option.bind_some, Bool.cond_decide, am_oI_some, am_oV_some, am_oI_ite, am_oV_ite, am_bind_ite, Int.toNat_natCast, Int.toNat_zero, Int.reduceToNat, ite_true, ite_false, not_true_eq_false, not_false_eq_true, decide_true, decide_false, decide_eq_true_eq, Bool.false_eq_true, Nat.add_zero, am_rok1_0, am_rok1_1, cond_true, cond_false, am_w_nat1, true_or, or_true, false_or, or_false, true_and, and_true, false_and, and_false, Int.reduceEq, Int.reduceNeg, Int.reduceLT, Int.reduceLE, or_self, and_self, if_neg]
  · rw [if_neg e] at k35
    have e5 : am_w (M 0 21 + 1) = M 0 21 + 1 := am_w_id (by omega) (by omega)
    clear b20 b21
    simp (disch := omega) only [bk_169_25, mv_f0_21, mv_p0_21, e, e5, k35, Option.bind_some, Bool.cond_decide, am_oI_some, am_oV_some, am_oI_ite, am_oV_ite, am_bind_ite, Int.toNat_natCast, Int.toNat_zero, Int.reduceToNat, ite_true, ite_false, not_true_eq_false, not_false_eq_true, decide_true, decide_false, decide_eq_true_eq, Bool.false_eq_true, Nat.add_zero, am_rok1_0, am_rok1_1, cond_true, cond_false, am_w_nat1, true_or, or_true, false_or, or_false, true_and, and_true, false_and, and_false, Int.reduceEq, Int.reduceNeg, Int.reduceLT, Int.reduceLE, or_self, and_self, if_pos]
/-- an act of the model that is refused, or can't be: nothing that counts is changed -/
theorem m_tries_no (hd : ¬ M 0 14 = 0) (mr : MR M A) (cq : CQ A Z) (pk : ∀ j, j < 609 → M 8 j = pack A j) {what a b : Int} (hs : ¬ st A Z what a b = -1) : am_cI 170 [am_R mo, am_I what, am_I a, am_I b] (mv mo M g) = some (st A Z what a b, mv mo M g) := by
  have c1 := m_stops (m := mo) (h := g) (c := 8) (by omega) mr cq hd what a b
  rw [← mv_pk (by omega) pk] at c1
  rw [am_cI]; simp (disch := omega) only [en_170, bk_170_0, c1, hs, am_w_id, mv_c0, mv_f0_0, mv_f0_1, mv_f0_2, mv_f0_3, mv_f0_4, mv_f0_5, mv_f0_6, mv_f0_7, mv_f0_8, mv_f0_9, mv_f0_10, mv_f0_11, mv_f0_12, mv_f0_13, mv_f0_14, mv_f0_15, mv_f0_16, mv_f0_17, mv_f0_18, mv_f0_19, mv_f0_20, mv_f0_21, mv_f0_22, mv_f0_23, mv_f0_24, mv_f0_25, mv_f0_26, mv_f0_27, mv_f0_28, mv_f0_29, mv_f0_30, mv_r1, mv_r2, mv_r3, mv_r4, mv_r5, mv_r6, mv_r7, mv_r8, mv_r9, mv_r10, mv_r11, mv_r12, mv_r13, mv_r14, mv_l1, mv_l2, mv_l3, mv_l4, mv_l5, mv_l6, mv_l7, mv_l8, mv_l9, mv_l10, mv_l11, mv_l12, mv_l13, mv_l14, mr2, mr3, mr4, mr5, mr6, mr7, mr8, mr9, mr13, mr1_4, mr0_6, mr1_5, mr1_0, mr1_1, mr1_2, mr1_3, mr1_6, mr1_7, mw2, mw3, mw4, mw5, mw6, mw7, mw8, mw9, mw13, mw1_4, mw0_6, mw1_5, mw1_0, mw1_1, mw1_2, mw1_3, mw1_6, mw1_7, drow_o, drow_t, Option.bind_some, Bool.cond_decide, am_oI_some, am_oV_some, am_oI_ite, am_oV_ite, am_bind_ite, Int.toNat_natCast, Int.toNat_zero, Int.reduceToNat, ite_true, ite_false, not_true_eq_false, not_false_eq_true, decide_true, decide_false, decide_eq_true_eq, Bool.false_eq_true, Nat.add_zero, am_rok1_0, am_rok1_1, cond_true, cond_false, am_w_nat1, true_or, or_true, false_or, or_false, true_and, and_true, false_and, and_false, Int.reduceEq, Int.reduceNeg, Int.reduceLT, Int.reduceLE, or_self, and_self, if_pos, if_neg]
theorem m_tries_none (hd : M 0 14 = 0) (what a b : Int) : am_cI 170 [am_R mo, am_I what, am_I a, am_I b] (mv mo M g) = some (0, mv mo M g) := by
  have c1 := m_stops_no (m := mo) (M := M) (h := g) (c := 8) hd what a b
  rw [am_cI]; simp (disch := omega) only [en_170, bk_170_0, c1, am_w_id, mv_c0, mv_f0_0, mv_f0_1, mv_f0_2, mv_f0_3, mv_f0_4, mv_f0_5, mv_f0_6, mv_f0_7, mv_f0_8, mv_f0_9, mv_f0_10, mv_f0_11, mv_f0_12, mv_f0_13, mv_f0_14, mv_f0_15, mv_f0_16, mv_f0_17, mv_f0_18, mv_f0_19, mv_f0_20, mv_f0_21, mv_f0_22, mv_f0_23, mv_f0_24, mv_f0_25, mv_f0_26, mv_f0_27, mv_f0_28, mv_f0_29, mv_f0_30, mv_r1, mv_r2, mv_r3, mv_r4, mv_r5, mv_r6, mv_r7, mv_r8, mv_r9, mv_r10, mv_r11, mv_r12, mv_r13, mv_r14, mv_l1, mv_l2, mv_l3, mv_l4, mv_l5, mv_l6, mv_l7, mv_l8, mv_l9, mv_l10, mv_l11, mv_l12, mv_l13, mv_l14, mr2, mr3, mr4, mr5, mr6, mr7, mr8, mr9, mr13, mr1_4, mr0_6, mr1_5, mr1_0, mr1_1, mr1_2, mr1_3, mr1_6, mr1_7, mw2, mw3, mw4, mw5, mw6, mw7, mw8, mw9, mw13, mw1_4, mw0_6, mw1_5, mw1_0, mw1_1, mw1_2, mw1_3, mw1_6, mw1_7, drow_o, drow_t, Option.bind_some, Bool.cond_decide, am_oI_some, am_oV_some, am_oI_ite, am_oV_ite, am_bind_ite, Int.toNat_natCast, Int.toNat_zero, Int.reduceToNat, ite_true, ite_false, not_true_eq_false, not_false_eq_true, decide_true, decide_false, decide_eq_true_eq, Bool.false_eq_true, Nat.add_zero, am_rok1_0, am_rok1_1, cond_true, cond_false, am_w_nat1, true_or, or_true, false_or, or_false, true_and, and_true, false_and, and_false, Int.reduceEq, Int.reduceNeg, Int.reduceLT, Int.reduceLE, or_self, and_self, if_pos, if_neg]
/-- rows of the model that an act that isn't done leaves -/
theorem MK_ME {M M' : Nat → Nat → Int} (h : ME M M') : MK M M' := ⟨fun r hr => h.1 r (by omega) (by omega) (by omega), fun j hj => h.2 j (by omega) (by omega)⟩
theorem m_tries (hd : ¬ M 0 14 = 0) (mr : MR M A) (cq : CQ A Z) (pk : ∀ j, j < 609 → M 8 j = pack A j) (h20 : 0 ≤ M 0 20 ∧ M 0 20 ≤ 39) (h21 : 0 ≤ M 0 21 ∧ M 0 21 ≤ 40) {what a b : Int} (hw : 0 ≤ what ∧ what ≤ 8) (hs : st A Z what a b = -1) (dp : DP A Z what a) : ∃ M1, MK M M1 ∧ (ds_b A Z what a = false → am_cI 170 [am_R mo, am_I what, am_I a, am_I b] (mv mo M g) = some (3, mv mo M1 g)) ∧ (ds_b A Z what a = true → M1 0 28 = ds_v A Z what a ∧ am_cI 170 [am_R mo, am_I what, am_I a, am_I b] (mv mo M g) = some (-1, mv mo (drow (rem_M M1) 8 (pack (ds_A A Z what a b))) g)) := by
  have c1 := m_stops (m := mo) (h := g) (c := 8) (by omega) mr cq hd what a b
  rw [← mv_pk (by omega) pk, hs] at c1
  have c2 := m_copy0 (m := mo) (a := 8) (b := 9) (M := M) (h := g) (by omega) (by omega) (by omega)
  have ec : mv mo (drow M 9 (M 8)) g = mv mo (drow M 9 (pack A)) g := mv_row_ext (by omega) pk
  rw [ec] at c2
  obtain ⟨M', me, hv, c3⟩ := m_does (m := mo) (h := g) (c := 9) (Or.inr rfl) mr cq b hw dp
  have mk := MK_ME me
  have mk9 : MK M (drow M' 9 (pack (ds_A A Z what a b))) := MK_trans mk (MK_row M' (by omega) _)
  refine ⟨drow M' 9 (pack (ds_A A Z what a b)), mk9, ?_, ?_⟩
  · intro hb
    rw [hb] at c3
    rw [if_neg (by decide)] at c3
    rw [am_cI, en_170, bk_170_0]
    simp (disch := omega) only [bk_170_22, bk_170_46, mv_f0_15, mv_f0_16, mv_c0, c1, c2, c3, Option.bind_some, Bool.cond_decide, am_oI_some, am_oV_some, am_oI_ite, am_oV_ite, am_bind_ite, Int.toNat_natCast, Int.toNat_zero, Int.reduceToNat, ite_true, ite_false, not_true_eq_false, not_false_eq_true, decide_true, decide_false, decide_eq_true_eq, Bool.false_eq_true, Nat.add_zero, am_rok1_0, am_rok1_1, cond_true, cond_false, am_w_nat1, true_or, or_true, false_or, or_false, true_and, and_true, false_and, and_false, Int.reduceEq, Int.reduceNeg, Int.reduceLT, Int.reduceLE, or_self, and_self, if_pos, if_neg]
  · intro hb
    refine ⟨by rw [drow_o _ _ (by omega)]; exact hv hb, ?_⟩
    rw [hb, if_pos rfl] at c3
    have f := mk9.2
    have c4 := m_remember (mo := mo) (M := drow M' 9 (pack (ds_A A Z what a b))) (g := g) (by rw [f 20 (by omega)]; exact h20) (by rw [f 21 (by omega)]; exact h21)
    have c5 := m_copy0 (m := mo) (a := 9) (b := 8) (M := rem_M (drow M' 9 (pack (ds_A A Z what a b)))) (h := g) (by omega) (by omega) (by omega)
    have e9 : rem_M (drow M' 9 (pack (ds_A A Z what a b))) 9 = pack (ds_A A Z what a b) := by unfold rem_M; rw [drow_o _ _ (by omega), rmM_o _ (by omega), drow_t]
    rw [e9] at c5
    rw [am_cI, en_170, bk_170_0]
    simp (disch := omega) only [bk_170_22, bk_170_46, bk_170_51, mv_f0_15, mv_f0_16, mv_c0, c1, c2, c3, c4, c5, Option.bind_some, Bool.cond_decide, am_oI_some, am_oV_some, am_oI_ite, am_oV_ite, am_bind_ite, Int.toNat_natCast, Int.toNat_zero, Int.reduceToNat, ite_true, ite_false, not_true_eq_false, not_false_eq_true, decide_true, decide_false, decide_eq_true_eq, Bool.false_eq_true, Nat.add_zero, am_rok1_0, am_rok1_1, cond_true, cond_false, am_w_nat1, true_or, or_true, false_or, or_false, true_and, and_true, false_and, and_false, Int.reduceEq, Int.reduceNeg, Int.reduceLT, Int.reduceLE, or_self, and_self, if_pos, if_neg]
theorem m_refuses {w : Nat} (hw : w < 4) : am_cI 171 [am_R mo, am_I w] (mv mo M g) = some (-1, mv mo (dup M 7 w (am_w (M 7 w + 1))) g) := by
  have q1 := mv_r7 (m := mo) (M := M) (h := g) (j := (w : Int)) (by omega) (by omega)
  have q2 := mv_w7 (m := mo) (M := M) (h := g) (j := (w : Int)) (am_w (M 7 w + 1)) (by omega) (by omega)
  rw [Int.toNat_natCast] at q1 q2
  rw [am_cI]; simp (disch := omega) only [en_171, bk_171_0, mv_f0_10, q1, q2, Option.bind_some, Bool.cond_decide, am_oI_some, am_oV_some, am_oI_ite, am_oV_ite, am_bind_ite, Int.toNat_natCast, Int.toNat_zero, Int.reduceToNat, ite_true, ite_false, not_true_eq_false, not_false_eq_true, decide_true, decide_false, decide_eq_true_eq, Bool.false_eq_true, Nat.add_zero, am_rok1_0, am_rok1_1, cond_true, cond_false, am_w_nat1, true_or, or_true, false_or, or_false, true_and, and_true, false_and, and_false, Int.reduceEq, Int.reduceNeg, Int.reduceLT, Int.reduceLE, or_self, and_self]
end MACT
