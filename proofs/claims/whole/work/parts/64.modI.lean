/-! ===== THE MODEL: a thing is done ===== -/
def m_stp (A : Nat → Nat → Int) (Z s : Nat) : Nat → Bool := fun j => !(w_must (m_it A Z j) Z s) || !(decide (ml_bad (m_it A Z j) Z = -1))
def m_k (A : Nat → Nat → Int) (Z s : Nat) : Nat := (fnd (m_stp A Z s) 1000).toNat
def pt_s (A : Nat → Nat → Int) (Z : Nat) (key : Int) : Nat := (ml_sf A Z key).toNat
def pt_n (A : Nat → Nat → Int) (Z : Nat) (key : Int) : Nat := m_k A Z (pt_s A Z key)
def pt_ok (A : Nat → Nat → Int) (Z : Nat) (key : Int) : Prop := PE A Z (pt_s A Z key) (pt_n A Z key)
def pt_b (A : Nat → Nat → Int) (Z : Nat) (key : Int) : Bool := !(w_must (m_it A Z (pt_n A Z key)) Z (pt_s A Z key))
def pt_A (A : Nat → Nat → Int) (Z : Nat) (key val : Int) : Nat → Nat → Int := mp_res A Z (pt_s A Z key) (pt_n A Z key) key val
def pt_v (A : Nat → Nat → Int) (Z : Nat) (key : Int) : Int := mv_at (m_nx (m_it A Z (pt_n A Z key))) Z (pt_s A Z key)
theorem ml_sf_le {A : Nat → Nat → Int} {Z : Nat} (h : 0 < A 0 4 ∧ A 0 4 ≤ 3) (k : Int) : 0 ≤ ml_sf A Z k ∧ ml_sf A Z k < 3 ∧ ml_sf A Z k < A 0 4 := by
  unfold ml_sf
  split
  · omega
  · split
    · omega
    · split
      · split <;> omega
      · split
        · omega
        · split <;> omega
def m_hd (A : Nat → Nat → Int) (z : Nat) : Nat → Nat → Int := nts (dup (dup A 2 z 1) 5 z 0) 4 z 0
/-- whether a thing that isn't stopped could be done -/
def ds_b (A : Nat → Nat → Int) (Z : Nat) (what a : Int) : Bool := if what = 0 ∨ what = 1 then pt_b A Z a else true
def ds_A (A : Nat → Nat → Int) (Z : Nat) (what a b : Int) : Nat → Nat → Int :=
  if what = 0 then pt_A A Z a b else if what = 1 then pt_A A Z a (-1) else if what = 2 then m_w A Z else if what = 3 then m_cr A Z else if what = 4 then m_hd A a.toNat else if what = 5 then m_cl A a.toNat else if what = 6 then m_fi A a.toNat else if what = 7 then m_em A a.toNat else dup A 0 6 a
def ds_v (A : Nat → Nat → Int) (Z : Nat) (what a : Int) : Int :=
  if what = 0 ∨ what = 1 then pt_v A Z a else if what = 2 then (ml_nl A Z (ml_tk A Z (A 0 6) 0 Z).toNat : Int) else if what = 3 then (ml_kv (m_cr A Z) Z 32 : Int) else if what = 4 then (cd_many (m_hd A a.toNat) Z 1 : Int) else if what = 5 then (cd_many (m_cl A a.toNat) Z 1 : Int) else if what = 6 then A 3 a.toNat else if what = 7 then am_w (A 4 a.toNat + 1) else A 0 6
/-- what the doing needs -/
def DP (A : Nat → Nat → Int) (Z : Nat) (what a : Int) : Prop := if what = 0 ∨ what = 1 then pt_ok A Z a else if what = 2 then ¬ ml_tk A Z (A 0 6) 0 Z = -1 ∧ MP A Z (ml_tk A Z (A 0 6) 0 Z).toNat 17 else if what = 3 then True else if 4 ≤ what ∧ what ≤ 7 then 0 ≤ a ∧ a < Z else True
theorem m_cr_o (A : Nat → Nat → Int) (Z : Nat) {r : Nat} (h : r ≠ 1 ∧ r ≠ 2 ∧ r ≠ 6 ∧ r ≠ 13) : m_cr A Z r = A r := by
  unfold m_cr
  rw [nts_o _ _ _ _ (by omega), mc_o _ _ (by omega)]
theorem m_cr_AW {A : Nat → Nat → Int} {Z : Nat} (w : AW A Z) : AW (m_cr A Z) Z := AW_of (mc_AW w) (nts_o _ _ _ _ (by omega)) (nts_o _ _ _ _ (by omega)) (nts_o _ _ _ _ (by omega)) (nts_o _ _ _ _ (by omega))
section MODI
variable {m c : Nat} {M A : Nat → Nat → Int} {h : am_H} {Z : Nat}
theorem m_puts' (hc : c = 8 ∨ c = 9) (hr : MR M A) (w : CQ A Z) {key : Int} (val : Int) (ok : pt_ok A Z key) : ∃ M', ME M M' ∧ (pt_b A Z key = true → M' 0 27 = pt_v A Z key) ∧ am_cI 135 [am_R m, am_R (m + c), am_I key, am_I val] (mv m (drow M c (pack A)) h) = some (if pt_b A Z key = true then 1 else 0, mv m (drow M' c (pack (pt_A A Z key val))) h) := by
  have hs := ml_sf_le (A := A) (Z := Z) ⟨w.2.2.2, w.1.2.2.2.1.2⟩ key
  obtain ⟨M', h1, h2, h3⟩ := m_puts (m := m) (h := h) (val := val) hc hr w (key := key) (s := pt_s A Z key) (by unfold pt_s; omega) (by unfold pt_s; omega) ok
  refine ⟨M', h1, ?_, ?_⟩
  · intro q
    refine h2 ?_
    unfold pt_b at q
    simpa using q
  · rw [h3]
    unfold pt_b pt_A pt_n
    cases w_must (m_it A Z (m_k A Z (pt_s A Z key))) Z (pt_s A Z key) <;> rfl
theorem m_doesToZone (hc : 8 ≤ c ∧ c ≤ 11) (hr : MR M A) (w : CQ A Z) {what a : Int} (hw : 4 ≤ what ∧ what ≤ 8) (dp : DP A Z what a) : am_cV 167 [am_R m, am_R (m + c), am_I what, am_I a] (mv m (drow M c (pack A)) h) = some (mv m (drow (dup M 0 28 (ds_v A Z what a)) c (pack (ds_A A Z what a 0))) h) := by
  obtain ⟨w, lg, hcap, h04⟩ := w
  have hZ8 := w.2.1
  have q4 := fun X x => mv_p0_28 (m := m) (M := drow M c X) (h := h) x
  have e28 := fun X x => dup_drow_o M (r := 0) (r' := c) X 28 x (by omega)
  rw [am_cV, en_167, bk_167_0, bk_167_1]
  unfold DP at dp
  rw [if_neg (by omega), if_neg (by omega), if_neg (by omega)] at dp
  unfold ds_v ds_A
  by_cases p4 : what = 4
  · subst p4
    rw [if_pos (by omega)] at dp
    obtain ⟨k, rfl⟩ : ∃ k : Nat, a = k := ⟨a.toNat, by omega⟩
    rw [if_neg (by omega), if_neg (by omega), if_neg (by omega), if_pos rfl, if_neg (by omega), if_neg (by omega), if_neg (by omega), if_neg (by omega), if_pos rfl, Int.toNat_natCast]
    have et : am_tsw 1 122 4 7 #[31, 65, 84, 103] 4 = 32 := rfl
    have c1 := m_notes (m := m) (M := M) (A := dup (dup A 2 k 1) 5 k 0) (h := h) hc (LG_of lg (by rw [dup_o _ _ _ (by omega), dup_o _ _ _ (by omega)])) 4 k 0
    have e0 : m_hd A k 0 = A 0 := by unfold m_hd; rw [nts_o _ _ _ _ (by omega), dup_o _ _ _ (by omega), dup_o _ _ _ (by omega)]
    have c2 := m_many (m := m) (h := h) hc (MR_of hr e0) (by rw [e0]; exact w.1) w.2.1 1
    unfold m_hd at c2 ⊢
    clear e0
    simp (disch := omega) only [et, bk_167_32, bk_167_47, bk_167_138, c1, c2, q4, e28, am_w_id, mv_c0, mv_f0_0, mv_f0_1, mv_f0_2, mv_f0_3, mv_f0_4, mv_f0_5, mv_f0_6, mv_f0_7, mv_f0_8, mv_f0_9, mv_f0_10, mv_f0_11, mv_f0_12, mv_f0_13, mv_f0_14, mv_f0_15, mv_f0_16, mv_f0_17, mv_f0_18, mv_f0_19, mv_f0_20, mv_f0_21, mv_f0_22, mv_f0_23, mv_f0_24, mv_f0_25, mv_f0_26, mv_f0_27, mv_f0_28, mv_f0_29, mv_f0_30, mv_r1, mv_r2, mv_r3, mv_r4, mv_r5, mv_r6, mv_r7, mv_r8, mv_r9, mv_r10, mv_r11, mv_r12, mv_r13, mv_r14, mv_l1, mv_l2, mv_l3, mv_l4, mv_l5, mv_l6, mv_l7, mv_l8, mv_l9, mv_l10, mv_l11, mv_l12, mv_l13, mv_l14, mr2, mr3, mr4, mr5, mr6, mr7, mr8, mr9, mr13, mr1_4, mr0_6, mr1_5, mr1_0, mr1_1, mr1_2, mr1_3, mr1_6, mr1_7, mw2, mw3, mw4, mw5, mw6, mw7, mw8, mw9, mw13, mw1_4, mw0_6, mw1_5, mw1_0, mw1_1, mw1_2, mw1_3, mw1_6, mw1_7, drow_o, drow_t, Option.bind_some, Bool.cond_decide, am_oI_some, am_oV_some, am_oI_ite, am_oV_ite, am_bind_ite, Int.toNat_natCast, Int.toNat_zero, Int.reduceToNat, ite_true, ite_false, not_true_eq_false, not_false_eq_true, decide_true, decide_false, decide_eq_true_eq, Bool.false_eq_true, Nat.add_zero, am_rok1_0, am_rok1_1, cond_true, cond_false, am_w_nat1, true_or, or_true, false_or, or_false, true_and, and_true, false_and, and_false, Int.reduceEq, Int.reduceNeg, Int.reduceLT, Int.reduceLE, or_self, and_self, if_pos, if_neg]
  · by_cases p5 : what = 5
    · subst p5
      rw [if_pos (by omega)] at dp
      obtain ⟨k, rfl⟩ : ∃ k : Nat, a = k := ⟨a.toNat, by omega⟩
      rw [if_neg (by omega), if_neg (by omega), if_neg (by omega), if_neg (by omega), if_pos rfl, if_neg (by omega), if_neg (by omega), if_neg (by omega), if_neg (by omega), if_neg (by omega), if_pos rfl, Int.toNat_natCast]
      have et : am_tsw 1 122 4 7 #[31, 65, 84, 103] 5 = 66 := rfl
      have c1 := m_closes (m := m) (M := M) (h := h) hc lg (z := k) (by omega)
      have e0 : m_cl A k 0 = A 0 := m_cl_o _ _ (by omega) (by omega)
      have c2 := m_many (m := m) (h := h) hc (MR_of hr e0) (by rw [e0]; exact w.1) w.2.1 1
      clear e0
      simp (disch := omega) only [et, bk_167_66, bk_167_138, c1, c2, q4, e28, am_w_id, mv_c0, mv_f0_0, mv_f0_1, mv_f0_2, mv_f0_3, mv_f0_4, mv_f0_5, mv_f0_6, mv_f0_7, mv_f0_8, mv_f0_9, mv_f0_10, mv_f0_11, mv_f0_12, mv_f0_13, mv_f0_14, mv_f0_15, mv_f0_16, mv_f0_17, mv_f0_18, mv_f0_19, mv_f0_20, mv_f0_21, mv_f0_22, mv_f0_23, mv_f0_24, mv_f0_25, mv_f0_26, mv_f0_27, mv_f0_28, mv_f0_29, mv_f0_30, mv_r1, mv_r2, mv_r3, mv_r4, mv_r5, mv_r6, mv_r7, mv_r8, mv_r9, mv_r10, mv_r11, mv_r12, mv_r13, mv_r14, mv_l1, mv_l2, mv_l3, mv_l4, mv_l5, mv_l6, mv_l7, mv_l8, mv_l9, mv_l10, mv_l11, mv_l12, mv_l13, mv_l14, mr2, mr3, mr4, mr5, mr6, mr7, mr8, mr9, mr13, mr1_4, mr0_6, mr1_5, mr1_0, mr1_1, mr1_2, mr1_3, mr1_6, mr1_7, mw2, mw3, mw4, mw5, mw6, mw7, mw8, mw9, mw13, mw1_4, mw0_6, mw1_5, mw1_0, mw1_1, mw1_2, mw1_3, mw1_6, mw1_7, drow_o, drow_t, Option.bind_some, Bool.cond_decide, am_oI_some, am_oV_some, am_oI_ite, am_oV_ite, am_bind_ite, Int.toNat_natCast, Int.toNat_zero, Int.reduceToNat, ite_true, ite_false, not_true_eq_false, not_false_eq_true, decide_true, decide_false, decide_eq_true_eq, Bool.false_eq_true, Nat.add_zero, am_rok1_0, am_rok1_1, cond_true, cond_false, am_w_nat1, true_or, or_true, false_or, or_false, true_and, and_true, false_and, and_false, Int.reduceEq, Int.reduceNeg, Int.reduceLT, Int.reduceLE, or_self, and_self, if_pos, if_neg]
    · by_cases p6 : what = 6
      · subst p6
        rw [if_pos (by omega)] at dp
        obtain ⟨k, rfl⟩ : ∃ k : Nat, a = k := ⟨a.toNat, by omega⟩
        rw [if_neg (by omega), if_neg (by omega), if_neg (by omega), if_neg (by omega), if_neg (by omega), if_pos rfl, if_neg (by omega), if_neg (by omega), if_neg (by omega), if_neg (by omega), if_neg (by omega), if_neg (by omega), if_pos rfl, Int.toNat_natCast]
        have et : am_tsw 1 122 4 7 #[31, 65, 84, 103] 6 = 85 := rfl
        have c1 := m_finishes (m := m) (M := M) (h := h) hc lg (z := k) (by omega)
        have e3 : m_fi A k 3 = A 3 := m_fi_o _ _ (by omega) (by omega)
        simp (disch := omega) only [et, bk_167_85, bk_167_138, c1, e3, q4, e28, am_w_id, mv_c0, mv_f0_0, mv_f0_1, mv_f0_2, mv_f0_3, mv_f0_4, mv_f0_5, mv_f0_6, mv_f0_7, mv_f0_8, mv_f0_9, mv_f0_10, mv_f0_11, mv_f0_12, mv_f0_13, mv_f0_14, mv_f0_15, mv_f0_16, mv_f0_17, mv_f0_18, mv_f0_19, mv_f0_20, mv_f0_21, mv_f0_22, mv_f0_23, mv_f0_24, mv_f0_25, mv_f0_26, mv_f0_27, mv_f0_28, mv_f0_29, mv_f0_30, mv_r1, mv_r2, mv_r3, mv_r4, mv_r5, mv_r6, mv_r7, mv_r8, mv_r9, mv_r10, mv_r11, mv_r12, mv_r13, mv_r14, mv_l1, mv_l2, mv_l3, mv_l4, mv_l5, mv_l6, mv_l7, mv_l8, mv_l9, mv_l10, mv_l11, mv_l12, mv_l13, mv_l14, mr2, mr3, mr4, mr5, mr6, mr7, mr8, mr9, mr13, mr1_4, mr0_6, mr1_5, mr1_0, mr1_1, mr1_2, mr1_3, mr1_6, mr1_7, mw2, mw3, mw4, mw5, mw6, mw7, mw8, mw9, mw13, mw1_4, mw0_6, mw1_5, mw1_0, mw1_1, mw1_2, mw1_3, mw1_6, mw1_7, drow_o, drow_t, Option.bind_some, Bool.cond_decide, am_oI_some, am_oV_some, am_oI_ite, am_oV_ite, am_bind_ite, Int.toNat_natCast, Int.toNat_zero, Int.reduceToNat, ite_true, ite_false, not_true_eq_false, not_false_eq_true, decide_true, decide_false, decide_eq_true_eq, Bool.false_eq_true, Nat.add_zero, am_rok1_0, am_rok1_1, cond_true, cond_false, am_w_nat1, true_or, or_true, false_or, or_false, true_and, and_true, false_and, and_false, Int.reduceEq, Int.reduceNeg, Int.reduceLT, Int.reduceLE, or_self, and_self, if_pos, if_neg]
      · by_cases p7 : what = 7
        · subst p7
          rw [if_pos (by omega)] at dp
          obtain ⟨k, rfl⟩ : ∃ k : Nat, a = k := ⟨a.toNat, by omega⟩
          rw [if_neg (by omega), if_neg (by omega), if_neg (by omega), if_neg (by omega), if_neg (by omega), if_neg (by omega), if_pos rfl, if_neg (by omega), if_neg (by omega), if_neg (by omega), if_neg (by omega), if_neg (by omega), if_neg (by omega), if_neg (by omega), if_pos rfl, Int.toNat_natCast]
          have et : am_tsw 1 122 4 7 #[31, 65, 84, 103] 7 = 104 := rfl
          have c1 := m_resets (m := m) (M := M) (h := h) hc lg (z := k) (by omega)
          have e4 : m_em A k 4 k = am_w (A 4 k + 1) := by unfold m_em m_em1; rw [nts_o _ _ _ _ (by omega), drow_o _ _ (by omega), dup_t, va_up_self]
          simp (disch := omega) only [et, bk_167_104, bk_167_138, c1, e4, q4, e28, am_w_id, mv_c0, mv_f0_0, mv_f0_1, mv_f0_2, mv_f0_3, mv_f0_4, mv_f0_5, mv_f0_6, mv_f0_7, mv_f0_8, mv_f0_9, mv_f0_10, mv_f0_11, mv_f0_12, mv_f0_13, mv_f0_14, mv_f0_15, mv_f0_16, mv_f0_17, mv_f0_18, mv_f0_19, mv_f0_20, mv_f0_21, mv_f0_22, mv_f0_23, mv_f0_24, mv_f0_25, mv_f0_26, mv_f0_27, mv_f0_28, mv_f0_29, mv_f0_30, mv_r1, mv_r2, mv_r3, mv_r4, mv_r5, mv_r6, mv_r7, mv_r8, mv_r9, mv_r10, mv_r11, mv_r12, mv_r13, mv_r14, mv_l1, mv_l2, mv_l3, mv_l4, mv_l5, mv_l6, mv_l7, mv_l8, mv_l9, mv_l10, mv_l11, mv_l12, mv_l13, mv_l14, mr2, mr3, mr4, mr5, mr6, mr7, mr8, mr9, mr13, mr1_4, mr0_6, mr1_5, mr1_0, mr1_1, mr1_2, mr1_3, mr1_6, mr1_7, mw2, mw3, mw4, mw5, mw6, mw7, mw8, mw9, mw13, mw1_4, mw0_6, mw1_5, mw1_0, mw1_1, mw1_2, mw1_3, mw1_6, mw1_7, drow_o, drow_t, Option.bind_some, Bool.cond_decide, am_oI_some, am_oV_some, am_oI_ite, am_oV_ite, am_bind_ite, Int.toNat_natCast, Int.toNat_zero, Int.reduceToNat, ite_true, ite_false, not_true_eq_false, not_false_eq_true, decide_true, decide_false, decide_eq_true_eq, Bool.false_eq_true, Nat.add_zero, am_rok1_0, am_rok1_1, cond_true, cond_false, am_w_nat1, true_or, or_true, false_or, or_false, true_and, and_true, false_and, and_false, Int.reduceEq, Int.reduceNeg, Int.reduceLT, Int.reduceLE, or_self, and_self, if_pos, if_neg]
        · have p8 : what = 8 := by omega
          subst p8
          rw [if_neg (by omega), if_neg (by omega), if_neg (by omega), if_neg (by omega), if_neg (by omega), if_neg (by omega), if_neg (by omega), if_neg (by omega), if_neg (by omega), if_neg (by omega), if_neg (by omega), if_neg (by omega), if_neg (by omega), if_neg (by omega), if_neg (by omega)]
          have et : am_tsw 1 122 4 7 #[31, 65, 84, 103] 8 = 123 := rfl
          simp (disch := omega) only [et, bk_167_123, bk_167_138, q4, e28, am_w_id, mv_c0, mv_f0_0, mv_f0_1, mv_f0_2, mv_f0_3, mv_f0_4, mv_f0_5, mv_f0_6, mv_f0_7, mv_f0_8, mv_f0_9, mv_f0_10, mv_f0_11, mv_f0_12, mv_f0_13, mv_f0_14, mv_f0_15, mv_f0_16, mv_f0_17, mv_f0_18, mv_f0_19, mv_f0_20, mv_f0_21, mv_f0_22, mv_f0_23, mv_f0_24, mv_f0_25, mv_f0_26, mv_f0_27, mv_f0_28, mv_f0_29, mv_f0_30, mv_r1, mv_r2, mv_r3, mv_r4, mv_r5, mv_r6, mv_r7, mv_r8, mv_r9, mv_r10, mv_r11, mv_r12, mv_r13, mv_r14, mv_l1, mv_l2, mv_l3, mv_l4, mv_l5, mv_l6, mv_l7, mv_l8, mv_l9, mv_l10, mv_l11, mv_l12, mv_l13, mv_l14, mr2, mr3, mr4, mr5, mr6, mr7, mr8, mr9, mr13, mr1_4, mr0_6, mr1_5, mr1_0, mr1_1, mr1_2, mr1_3, mr1_6, mr1_7, mw2, mw3, mw4, mw5, mw6, mw7, mw8, mw9, mw13, mw1_4, mw0_6, mw1_5, mw1_0, mw1_1, mw1_2, mw1_3, mw1_6, mw1_7, drow_o, drow_t, Option.bind_some, Bool.cond_decide, am_oI_some, am_oV_some, am_oI_ite, am_oV_ite, am_bind_ite, Int.toNat_natCast, Int.toNat_zero, Int.reduceToNat, ite_true, ite_false, not_true_eq_false, not_false_eq_true, decide_true, decide_false, decide_eq_true_eq, Bool.false_eq_true, Nat.add_zero, am_rok1_0, am_rok1_1, cond_true, cond_false, am_w_nat1, true_or, or_true, false_or, or_false, true_and, and_true, false_and, and_false, Int.reduceEq, Int.reduceNeg, Int.reduceLT, Int.reduceLE, or_self, and_self, if_pos, if_neg]
theorem m_does (hc : c = 8 ∨ c = 9) (hr : MR M A) (w : CQ A Z) {what a : Int} (b : Int) (hw : 0 ≤ what ∧ what ≤ 8) (dp : DP A Z what a) : ∃ M', ME M M' ∧ (ds_b A Z what a = true → M' 0 28 = ds_v A Z what a) ∧ am_cI 168 [am_R m, am_R (m + c), am_I what, am_I a, am_I b] (mv m (drow M c (pack A)) h) = some (if ds_b A Z what a = true then 1 else 0, mv m (drow M' c (pack (ds_A A Z what a b))) h) := by
  have hc' : 8 ≤ c ∧ c ≤ 11 := by omega
  have q4 := fun M X x => mv_p0_28 (m := m) (M := drow M c X) (h := h) x
  have e28 := fun M X x => dup_drow_o M (r := 0) (r' := c) X 28 x (by omega)
  have me28 : ∀ (M' : Nat → Nat → Int) (x : Int), ME M M' → ME M (dup M' 0 28 x) := by
    intro M' x me
    refine ME_trans me ⟨fun r h0 _ _ => dup_o _ _ _ h0, fun j _ h1 => ?_⟩
    rw [dup_t, va_up_ne _ _ h1]
  by_cases p01 : what = 0 ∨ what = 1
  · unfold DP at dp
    rw [if_pos p01] at dp
    have eb : ds_b A Z what a = pt_b A Z a := by unfold ds_b; rw [if_pos p01]
    have ev : ds_v A Z what a = pt_v A Z a := by unfold ds_v; rw [if_pos p01]
    have eA : ds_A A Z what a b = pt_A A Z a (if what = 0 then b else -1) := by
      unfold ds_A
      by_cases p0 : what = 0
      · rw [if_pos p0, if_pos p0]
      · rw [if_neg p0, if_neg p0, if_pos (p01.resolve_left p0)]
    obtain ⟨M', h1, h2, h3⟩ := m_puts' (m := m) (h := h) hc hr w (if what = 0 then b else -1) dp
    rw [eb, ev, eA]
    have et : am_tsw 1 91 0 3 #[31, 31, 62, 75] what = 32 := by
      rcases p01 with e | e
      · rw [e]; rfl
      · rw [e]; rfl
    have start : am_cI 168 [am_R m, am_R (m + c), am_I what, am_I a, am_I b] (mv m (drow M c (pack A)) h) = am_oI (am_run am_ms 168 45 [am_R m, am_R (m + c), am_I what, am_I a, am_I b] [am_I (if what = 0 then b else -1), am_I a, am_R (m + c), am_R m] (mv m (drow M c (pack A)) h)) := by
      rw [am_cI, en_168, bk_168_0, bk_168_1]
      by_cases p0 : what = 0
      · subst p0
        simp (disch := omega) only [et, bk_168_32, bk_168_44, am_w_id, mv_c0, mv_f0_0, mv_f0_1, mv_f0_2, mv_f0_3, mv_f0_4, mv_f0_5, mv_f0_6, mv_f0_7, mv_f0_8, mv_f0_9, mv_f0_10, mv_f0_11, mv_f0_12, mv_f0_13, mv_f0_14, mv_f0_15, mv_f0_16, mv_f0_17, mv_f0_18, mv_f0_19, mv_f0_20, mv_f0_21, mv_f0_22, mv_f0_23, mv_f0_24, mv_f0_25, mv_f0_26, mv_f0_27, mv_f0_28, mv_f0_29, mv_f0_30, mv_r1, mv_r2, mv_r3, mv_r4, mv_r5, mv_r6, mv_r7, mv_r8, mv_r9, mv_r10, mv_r11, mv_r12, mv_r13, mv_r14, mv_l1, mv_l2, mv_l3, mv_l4, mv_l5, mv_l6, mv_l7, mv_l8, mv_l9, mv_l10, mv_l11, mv_l12, mv_l13, mv_l14, mr2, mr3, mr4, mr5, mr6, mr7, mr8, mr9, mr13, mr1_4, mr0_6, mr1_5, mr1_0, mr1_1, mr1_2, mr1_3, mr1_6, mr1_7, mw2, mw3, mw4, mw5, mw6, mw7, mw8, mw9, mw13, mw1_4, mw0_6, mw1_5, mw1_0, mw1_1, mw1_2, mw1_3, mw1_6, mw1_7, drow_o, drow_t, Option.bind_some, Bool.cond_decide, am_oI_some, am_oV_some, am_oI_ite, am_oV_ite, am_bind_ite, Int.toNat_natCast, Int.toNat_zero, Int.reduceToNat, ite_true, ite_false, not_true_eq_false, not_false_eq_true, decide_true, decide_false, decide_eq_true_eq, Bool.false_eq_true, Nat.add_zero, am_rok1_0, am_rok1_1, cond_true, cond_false, am_w_nat1, true_or, or_true, false_or, or_false, true_and, and_true, false_and, and_false, Int.reduceEq, Int.reduceNeg, Int.reduceLT, Int.reduceLE, or_self, and_self, if_pos, if_neg]
      · simp (disch := omega) only [et, bk_168_32, bk_168_44, p0, am_w_id, mv_c0, mv_f0_0, mv_f0_1, mv_f0_2, mv_f0_3, mv_f0_4, mv_f0_5, mv_f0_6, mv_f0_7, mv_f0_8, mv_f0_9, mv_f0_10, mv_f0_11, mv_f0_12, mv_f0_13, mv_f0_14, mv_f0_15, mv_f0_16, mv_f0_17, mv_f0_18, mv_f0_19, mv_f0_20, mv_f0_21, mv_f0_22, mv_f0_23, mv_f0_24, mv_f0_25, mv_f0_26, mv_f0_27, mv_f0_28, mv_f0_29, mv_f0_30, mv_r1, mv_r2, mv_r3, mv_r4, mv_r5, mv_r6, mv_r7, mv_r8, mv_r9, mv_r10, mv_r11, mv_r12, mv_r13, mv_r14, mv_l1, mv_l2, mv_l3, mv_l4, mv_l5, mv_l6, mv_l7, mv_l8, mv_l9, mv_l10, mv_l11, mv_l12, mv_l13, mv_l14, mr2, mr3, mr4, mr5, mr6, mr7, mr8, mr9, mr13, mr1_4, mr0_6, mr1_5, mr1_0, mr1_1, mr1_2, mr1_3, mr1_6, mr1_7, mw2, mw3, mw4, mw5, mw6, mw7, mw8, mw9, mw13, mw1_4, mw0_6, mw1_5, mw1_0, mw1_1, mw1_2, mw1_3, mw1_6, mw1_7, drow_o, drow_t, Option.bind_some, Bool.cond_decide, am_oI_some, am_oV_some, am_oI_ite, am_oV_ite, am_bind_ite, Int.toNat_natCast, Int.toNat_zero, Int.reduceToNat, ite_true, ite_false, not_true_eq_false, not_false_eq_true, decide_true, decide_false, decide_eq_true_eq, Bool.false_eq_true, Nat.add_zero, am_rok1_0, am_rok1_1, cond_true, cond_false, am_w_nat1, true_or, or_true, false_or, or_false, true_and, and_true, false_and, and_false, Int.reduceEq, Int.reduceNeg, Int.reduceLT, Int.reduceLE, or_self, and_self, if_pos, if_neg]
    rw [start]
    generalize pt_A A Z a (if what = 0 then b else -1) = X at h3 ⊢
    cases e : pt_b A Z a with
    | true =>
      rw [e] at h2 h3
      refine ⟨dup M' 0 28 (pt_v A Z a), me28 _ _ h1, fun _ => by rw [dup_t, va_up_self], ?_⟩
      have h2' := h2 rfl
      simp (disch := omega) only [bk_168_45, bk_168_53, h3, h2', q4, e28, am_w_id, mv_c0, mv_f0_0, mv_f0_1, mv_f0_2, mv_f0_3, mv_f0_4, mv_f0_5, mv_f0_6, mv_f0_7, mv_f0_8, mv_f0_9, mv_f0_10, mv_f0_11, mv_f0_12, mv_f0_13, mv_f0_14, mv_f0_15, mv_f0_16, mv_f0_17, mv_f0_18, mv_f0_19, mv_f0_20, mv_f0_21, mv_f0_22, mv_f0_23, mv_f0_24, mv_f0_25, mv_f0_26, mv_f0_27, mv_f0_28, mv_f0_29, mv_f0_30, mv_r1, mv_r2, mv_r3, mv_r4, mv_r5, mv_r6, mv_r7, mv_r8, mv_r9, mv_r10, mv_r11, mv_r12, mv_r13, mv_r14, mv_l1, mv_l2, mv_l3, mv_l4, mv_l5, mv_l6, mv_l7, mv_l8, mv_l9, mv_l10, mv_l11, mv_l12, mv_l13, mv_l14, mr2, mr3, mr4, mr5, mr6, mr7, mr8, mr9, mr13, mr1_4, mr0_6, mr1_5, mr1_0, mr1_1, mr1_2, mr1_3, mr1_6, mr1_7, mw2, mw3, mw4, mw5, mw6, mw7, mw8, mw9, mw13, mw1_4, mw0_6, mw1_5, mw1_0, mw1_1, mw1_2, mw1_3, mw1_6, mw1_7, drow_o, drow_t, Option.bind_some, Bool.cond_decide, am_oI_some, am_oV_some, am_oI_ite, am_oV_ite, am_bind_ite, Int.toNat_natCast, Int.toNat_zero, Int.reduceToNat, ite_true, ite_false, not_true_eq_false, not_false_eq_true, decide_true, decide_false, decide_eq_true_eq, Bool.false_eq_true, Nat.add_zero, am_rok1_0, am_rok1_1, cond_true, cond_false, am_w_nat1, true_or, or_true, false_or, or_false, true_and, and_true, false_and, and_false, Int.reduceEq, Int.reduceNeg, Int.reduceLT, Int.reduceLE, or_self, and_self, if_pos, if_neg]
    | false =>
      rw [e] at h3
      refine ⟨M', h1, fun q => absurd q (by decide), ?_⟩
      simp (disch := omega) only [bk_168_45, bk_168_53, h3, am_w_id, mv_c0, mv_f0_0, mv_f0_1, mv_f0_2, mv_f0_3, mv_f0_4, mv_f0_5, mv_f0_6, mv_f0_7, mv_f0_8, mv_f0_9, mv_f0_10, mv_f0_11, mv_f0_12, mv_f0_13, mv_f0_14, mv_f0_15, mv_f0_16, mv_f0_17, mv_f0_18, mv_f0_19, mv_f0_20, mv_f0_21, mv_f0_22, mv_f0_23, mv_f0_24, mv_f0_25, mv_f0_26, mv_f0_27, mv_f0_28, mv_f0_29, mv_f0_30, mv_r1, mv_r2, mv_r3, mv_r4, mv_r5, mv_r6, mv_r7, mv_r8, mv_r9, mv_r10, mv_r11, mv_r12, mv_r13, mv_r14, mv_l1, mv_l2, mv_l3, mv_l4, mv_l5, mv_l6, mv_l7, mv_l8, mv_l9, mv_l10, mv_l11, mv_l12, mv_l13, mv_l14, mr2, mr3, mr4, mr5, mr6, mr7, mr8, mr9, mr13, mr1_4, mr0_6, mr1_5, mr1_0, mr1_1, mr1_2, mr1_3, mr1_6, mr1_7, mw2, mw3, mw4, mw5, mw6, mw7, mw8, mw9, mw13, mw1_4, mw0_6, mw1_5, mw1_0, mw1_1, mw1_2, mw1_3, mw1_6, mw1_7, drow_o, drow_t, Option.bind_some, Bool.cond_decide, am_oI_some, am_oV_some, am_oI_ite, am_oV_ite, am_bind_ite, Int.toNat_natCast, Int.toNat_zero, Int.reduceToNat, ite_true, ite_false, not_true_eq_false, not_false_eq_true, decide_true, decide_false, decide_eq_true_eq, Bool.false_eq_true, Nat.add_zero, am_rok1_0, am_rok1_1, cond_true, cond_false, am_w_nat1, true_or, or_true, false_or, or_false, true_and, and_true, false_and, and_false, Int.reduceEq, Int.reduceNeg, Int.reduceLT, Int.reduceLE, or_self, and_self, if_pos, if_neg]
  · have eb : ds_b A Z what a = true := by unfold ds_b; rw [if_neg p01]
    rw [eb, if_pos rfl]
    by_cases p2 : what = 2
    · subst p2
      unfold DP at dp
      rw [if_neg p01, if_pos rfl] at dp
      have hb := ml_tk_le A Z (A 0 6) 0 Z
      obtain ⟨z, hz⟩ : ∃ z : Nat, ml_tk A Z (A 0 6) 0 Z = z := ⟨(ml_tk A Z (A 0 6) 0 Z).toNat, by omega⟩
      rw [hz, Int.toNat_natCast] at dp
      obtain ⟨L, c4⟩ := m_cleans (m := m) (h := h) hc' hr w.1 w.2.1 w.2.2.1 w.2.2.2 hz (most := 17) (by omega) dp.2
      have eA : ds_A A Z 2 a b = mcl2 (mcl1 A Z z 17) z := by
        unfold ds_A
        rw [if_neg (by omega), if_neg (by omega), if_pos rfl]
        unfold m_w
        rw [hz, Int.toNat_natCast]
      have ev : ds_v A Z 2 a = (ml_nl A Z z : Int) := by
        unfold ds_v
        rw [if_neg (by omega), if_pos rfl, hz, Int.toNat_natCast]
      have c4' : am_cI 134 [am_R m, am_R (m + c), am_I 17] (mv m (drow M c (pack A)) h) = some ((ml_nl A Z z : Int), mv m (drow (drow M 13 L) c (pack (mcl2 (mcl1 A Z z 17) z))) h) := c4
      rw [eA, ev]
      refine ⟨dup (drow M 13 L) 0 28 (ml_nl A Z z : Int), me28 _ _ (ME_row M (by omega) L), fun _ => by rw [dup_t, va_up_self], ?_⟩
      have et : am_tsw 1 91 0 3 #[31, 31, 62, 75] 2 = 63 := rfl
      rw [am_cI, en_168, bk_168_0, bk_168_1]
      simp (disch := omega) only [et, bk_168_63, c4', q4, e28, am_w_id, mv_c0, mv_f0_0, mv_f0_1, mv_f0_2, mv_f0_3, mv_f0_4, mv_f0_5, mv_f0_6, mv_f0_7, mv_f0_8, mv_f0_9, mv_f0_10, mv_f0_11, mv_f0_12, mv_f0_13, mv_f0_14, mv_f0_15, mv_f0_16, mv_f0_17, mv_f0_18, mv_f0_19, mv_f0_20, mv_f0_21, mv_f0_22, mv_f0_23, mv_f0_24, mv_f0_25, mv_f0_26, mv_f0_27, mv_f0_28, mv_f0_29, mv_f0_30, mv_r1, mv_r2, mv_r3, mv_r4, mv_r5, mv_r6, mv_r7, mv_r8, mv_r9, mv_r10, mv_r11, mv_r12, mv_r13, mv_r14, mv_l1, mv_l2, mv_l3, mv_l4, mv_l5, mv_l6, mv_l7, mv_l8, mv_l9, mv_l10, mv_l11, mv_l12, mv_l13, mv_l14, mr2, mr3, mr4, mr5, mr6, mr7, mr8, mr9, mr13, mr1_4, mr0_6, mr1_5, mr1_0, mr1_1, mr1_2, mr1_3, mr1_6, mr1_7, mw2, mw3, mw4, mw5, mw6, mw7, mw8, mw9, mw13, mw1_4, mw0_6, mw1_5, mw1_0, mw1_1, mw1_2, mw1_3, mw1_6, mw1_7, drow_o, drow_t, Option.bind_some, Bool.cond_decide, am_oI_some, am_oV_some, am_oI_ite, am_oV_ite, am_bind_ite, Int.toNat_natCast, Int.toNat_zero, Int.reduceToNat, ite_true, ite_false, not_true_eq_false, not_false_eq_true, decide_true, decide_false, decide_eq_true_eq, Bool.false_eq_true, Nat.add_zero, am_rok1_0, am_rok1_1, cond_true, cond_false, am_w_nat1, true_or, or_true, false_or, or_false, true_and, and_true, false_and, and_false, Int.reduceEq, Int.reduceNeg, Int.reduceLT, Int.reduceLE, or_self, and_self, if_pos, if_neg]
    · by_cases p3 : what = 3
      · subst p3
        have c1 := m_crashes (m := m) (h := h) hc' hr w.1 w.2.1
        have c2 := m_keysOf (m := m) (h := h) hc' (MR_of hr (m_cr_o A Z (r := 0) (by omega))) (m_cr_AW w.1)
        have eA : ds_A A Z 3 a b = m_cr A Z := by unfold ds_A; rw [if_neg (by omega), if_neg (by omega), if_neg (by omega), if_pos rfl]
        have ev : ds_v A Z 3 a = (ml_kv (m_cr A Z) Z 32 : Int) := by unfold ds_v; rw [if_neg (by omega), if_neg (by omega), if_pos rfl]
        rw [eA, ev]
        refine ⟨dup M 0 28 (ml_kv (m_cr A Z) Z 32 : Int), me28 _ _ (ME_refl M), fun _ => by rw [dup_t, va_up_self], ?_⟩
        have et : am_tsw 1 91 0 3 #[31, 31, 62, 75] 3 = 76 := rfl
        rw [am_cI, en_168, bk_168_0, bk_168_1]
        simp (disch := omega) only [et, bk_168_76, c1, c2, q4, e28, am_w_id, mv_c0, mv_f0_0, mv_f0_1, mv_f0_2, mv_f0_3, mv_f0_4, mv_f0_5, mv_f0_6, mv_f0_7, mv_f0_8, mv_f0_9, mv_f0_10, mv_f0_11, mv_f0_12, mv_f0_13, mv_f0_14, mv_f0_15, mv_f0_16, mv_f0_17, mv_f0_18, mv_f0_19, mv_f0_20, mv_f0_21, mv_f0_22, mv_f0_23, mv_f0_24, mv_f0_25, mv_f0_26, mv_f0_27, mv_f0_28, mv_f0_29, mv_f0_30, mv_r1, mv_r2, mv_r3, mv_r4, mv_r5, mv_r6, mv_r7, mv_r8, mv_r9, mv_r10, mv_r11, mv_r12, mv_r13, mv_r14, mv_l1, mv_l2, mv_l3, mv_l4, mv_l5, mv_l6, mv_l7, mv_l8, mv_l9, mv_l10, mv_l11, mv_l12, mv_l13, mv_l14, mr2, mr3, mr4, mr5, mr6, mr7, mr8, mr9, mr13, mr1_4, mr0_6, mr1_5, mr1_0, mr1_1, mr1_2, mr1_3, mr1_6, mr1_7, mw2, mw3, mw4, mw5, mw6, mw7, mw8, mw9, mw13, mw1_4, mw0_6, mw1_5, mw1_0, mw1_1, mw1_2, mw1_3, mw1_6, mw1_7, drow_o, drow_t, Option.bind_some, Bool.cond_decide, am_oI_some, am_oV_some, am_oI_ite, am_oV_ite, am_bind_ite, Int.toNat_natCast, Int.toNat_zero, Int.reduceToNat, ite_true, ite_false, not_true_eq_false, not_false_eq_true, decide_true, decide_false, decide_eq_true_eq, Bool.false_eq_true, Nat.add_zero, am_rok1_0, am_rok1_1, cond_true, cond_false, am_w_nat1, true_or, or_true, false_or, or_false, true_and, and_true, false_and, and_false, Int.reduceEq, Int.reduceNeg, Int.reduceLT, Int.reduceLE, or_self, and_self, if_pos, if_neg]
      · have c1 := m_doesToZone (m := m) (h := h) hc' hr w (by omega) dp
        have eA : ds_A A Z what a b = ds_A A Z what a 0 := by unfold ds_A; rw [if_neg (fun q => p01 (Or.inl q)), if_neg (fun q => p01 (Or.inl q))]
        rw [eA]
        refine ⟨dup M 0 28 (ds_v A Z what a), me28 _ _ (ME_refl M), fun _ => by rw [dup_t, va_up_self], ?_⟩
        have et : am_tsw 1 91 0 3 #[31, 31, 62, 75] what = 92 := by unfold am_tsw; rw [if_pos (by omega)]; rfl
        rw [am_cI, en_168, bk_168_0, bk_168_1]
        simp (disch := omega) only [et, bk_168_92, c1, am_w_id, mv_c0, mv_f0_0, mv_f0_1, mv_f0_2, mv_f0_3, mv_f0_4, mv_f0_5, mv_f0_6, mv_f0_7, mv_f0_8, mv_f0_9, mv_f0_10, mv_f0_11, mv_f0_12, mv_f0_13, mv_f0_14, mv_f0_15, mv_f0_16, mv_f0_17, mv_f0_18, mv_f0_19, mv_f0_20, mv_f0_21, mv_f0_22, mv_f0_23, mv_f0_24, mv_f0_25, mv_f0_26, mv_f0_27, mv_f0_28, mv_f0_29, mv_f0_30, mv_r1, mv_r2, mv_r3, mv_r4, mv_r5, mv_r6, mv_r7, mv_r8, mv_r9, mv_r10, mv_r11, mv_r12, mv_r13, mv_r14, mv_l1, mv_l2, mv_l3, mv_l4, mv_l5, mv_l6, mv_l7, mv_l8, mv_l9, mv_l10, mv_l11, mv_l12, mv_l13, mv_l14, mr2, mr3, mr4, mr5, mr6, mr7, mr8, mr9, mr13, mr1_4, mr0_6, mr1_5, mr1_0, mr1_1, mr1_2, mr1_3, mr1_6, mr1_7, mw2, mw3, mw4, mw5, mw6, mw7, mw8, mw9, mw13, mw1_4, mw0_6, mw1_5, mw1_0, mw1_1, mw1_2, mw1_3, mw1_6, mw1_7, drow_o, drow_t, Option.bind_some, Bool.cond_decide, am_oI_some, am_oV_some, am_oI_ite, am_oV_ite, am_bind_ite, Int.toNat_natCast, Int.toNat_zero, Int.reduceToNat, ite_true, ite_false, not_true_eq_false, not_false_eq_true, decide_true, decide_false, decide_eq_true_eq, Bool.false_eq_true, Nat.add_zero, am_rok1_0, am_rok1_1, cond_true, cond_false, am_w_nat1, true_or, or_true, false_or, or_false, true_and, and_true, false_and, and_false, Int.reduceEq, Int.reduceNeg, Int.reduceLT, Int.reduceLE, or_self, and_self, if_pos, if_neg]
end MODI
