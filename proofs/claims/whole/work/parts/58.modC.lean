/-! ===== THE MODEL: appending ===== -/
theorem AW_of {A B : Nat → Nat → Int} {Z : Nat} (w : AW A Z) (e0 : B 0 = A 0) (e3 : B 3 = A 3) (e6 : B 6 = A 6) (e7 : B 7 = A 7) : AW B Z := by
  unfold AW at w ⊢
  rw [e0, e3, e6, e7]
  exact w
theorem MR_of {M A B : Nat → Nat → Int} (w : MR M A) (e0 : B 0 = A 0) : MR M B := by
  unfold MR at w ⊢
  rw [e0]
  exact w
theorem LG_of {A B : Nat → Nat → Int} (w : LG A) (e : B 13 = A 13) : LG B := by
  unfold LG at w ⊢
  rw [e]
  exact w
theorem m_cl_o (A : Nat → Nat → Int) (z : Nat) {r : Nat} (h2 : r ≠ 2) (hr : r ≠ 13) : m_cl A z r = A r := by
  unfold m_cl
  rw [nts_o _ _ _ _ hr, dup_o _ _ _ h2]
theorem m_fi_o (A : Nat → Nat → Int) (z : Nat) {r : Nat} (h2 : r ≠ 2) (hr : r ≠ 13) : m_fi A z r = A r := by
  unfold m_fi
  rw [nts_o _ _ _ _ hr, dup_o _ _ _ h2]
theorem m_cl_LG {A : Nat → Nat → Int} (w : LG A) (z : Nat) : LG (m_cl A z) := nts_LG (LG_of w (dup_o _ _ _ (by omega))) _ _ _
theorem m_fi_LG {A : Nat → Nat → Int} (w : LG A) (z : Nat) : LG (m_fi A z) := nts_LG (LG_of w (dup_o _ _ _ (by omega))) _ _ _
def m_op0 (A : Nat → Nat → Int) (Z : Nat) : Nat → Nat → Int := if A 0 2 ≤ (cd_many A Z 1 : Int) ∧ ¬ cd_oz A Z = -1 then dup (m_cl A (cd_oz A Z).toNat) 1 6 (am_w (A 1 6 + 1)) else A
def m_op (A : Nat → Nat → Int) (Z z : Nat) : Nat → Nat → Int := dup (m_op0 A Z) 2 z 1
def m_tk0 (A : Nat → Nat → Int) (Z s : Nat) : Nat → Nat → Int := if A 0 3 ≤ ((cd_many A Z 1 + cd_many A Z 2 : Nat) : Int) ∧ ¬ ml_zf A Z s = -1 then dup (m_fi A (ml_zf A Z s).toNat) 1 7 (am_w (A 1 7 + 1)) else A
def m_tk (A : Nat → Nat → Int) (Z s : Nat) : Nat → Nat → Int := dup (m_tk0 A Z s) 6 s (cd_ez A Z)
def m_ap (A : Nat → Nat → Int) (z : Nat) (key val num : Int) (sort : Nat) : Nat → Nat → Int := nts (dup (o_ap3 A z key val num) 1 sort (am_w (A 1 sort + 1))) sort z ((16 * z + (A 3 z).toNat : Nat) : Int)
def m_at1 (A : Nat → Nat → Int) (Z s : Nat) : Nat → Nat → Int := if cd_lz A s = true then m_tk A Z s else A
def m_at2 (E : Nat → Nat → Int) (Z z : Nat) : Nat → Nat → Int := if E 2 z = 1 then E else m_op E Z z
def m_at (A : Nat → Nat → Int) (Z s : Nat) (key val num : Int) (sort : Nat) : Nat → Nat → Int := m_ap (m_at2 (m_at1 A Z s) Z (m_at1 A Z s 6 s).toNat) (m_at1 A Z s 6 s).toNat key val num sort
def mv_at (A : Nat → Nat → Int) (Z s : Nat) : Int := ((16 * (m_at1 A Z s 6 s).toNat + (A 3 (m_at1 A Z s 6 s).toNat).toNat : Nat) : Int)
theorem m_op0_o (A : Nat → Nat → Int) (Z : Nat) {r : Nat} (h1 : r ≠ 1) (h2 : r ≠ 2) (hr : r ≠ 13) : m_op0 A Z r = A r := by
  unfold m_op0
  split
  · rw [dup_o _ _ _ h1, m_cl_o _ _ h2 hr]
  · rfl
theorem m_op_o (A : Nat → Nat → Int) (Z z : Nat) {r : Nat} (h1 : r ≠ 1) (h2 : r ≠ 2) (hr : r ≠ 13) : m_op A Z z r = A r := by
  unfold m_op
  rw [dup_o _ _ _ h2, m_op0_o _ _ h1 h2 hr]
theorem m_op_LG {A : Nat → Nat → Int} (w : LG A) (Z z : Nat) : LG (m_op A Z z) := by
  unfold m_op
  refine LG_of (A := m_op0 A Z) ?_ (dup_o _ _ _ (by omega))
  unfold m_op0
  split
  · exact LG_of (m_cl_LG w _) (dup_o _ _ _ (by omega))
  · exact w
theorem m_tk0_o (A : Nat → Nat → Int) (Z s : Nat) {r : Nat} (h1 : r ≠ 1) (h2 : r ≠ 2) (hr : r ≠ 13) : m_tk0 A Z s r = A r := by
  unfold m_tk0
  split
  · rw [dup_o _ _ _ h1, m_fi_o _ _ h2 hr]
  · rfl
theorem m_tk0_LG {A : Nat → Nat → Int} (w : LG A) (Z s : Nat) : LG (m_tk0 A Z s) := by
  unfold m_tk0
  split
  · exact LG_of (m_fi_LG w _) (dup_o _ _ _ (by omega))
  · exact w
theorem m_at1_o (A : Nat → Nat → Int) (Z s : Nat) {r : Nat} (h1 : r ≠ 1) (h2 : r ≠ 2) (h6 : r ≠ 6) (hr : r ≠ 13) : m_at1 A Z s r = A r := by
  unfold m_at1 m_tk
  split
  · rw [dup_o _ _ _ h6, m_tk0_o _ _ _ h1 h2 hr]
  · rfl
theorem m_at1_LG {A : Nat → Nat → Int} (w : LG A) (Z s : Nat) : LG (m_at1 A Z s) := by
  unfold m_at1 m_tk
  split
  · exact LG_of (m_tk0_LG w Z s) (dup_o _ _ _ (by omega))
  · exact w
theorem m_at2_o (A : Nat → Nat → Int) (Z z : Nat) {r : Nat} (h1 : r ≠ 1) (h2 : r ≠ 2) (hr : r ≠ 13) : m_at2 A Z z r = A r := by
  unfold m_at2
  split
  · rfl
  · exact m_op_o _ _ _ h1 h2 hr
theorem m_at2_LG {A : Nat → Nat → Int} (w : LG A) (Z z : Nat) : LG (m_at2 A Z z) := by
  unfold m_at2
  split
  · exact w
  · exact m_op_LG w _ _
theorem cd_ez_le (A : Nat → Nat → Int) (Z : Nat) : -1 ≤ cd_ez A Z ∧ cd_ez A Z < Z := bst_le _ _ _
theorem m_at1_AW {A : Nat → Nat → Int} {Z : Nat} (w : AW A Z) (s : Nat) : AW (m_at1 A Z s) Z := by
  unfold m_at1
  split
  · have he := cd_ez_le A Z
    have w0 : AW (m_tk0 A Z s) Z := AW_of w (m_tk0_o _ _ _ (by omega) (by omega) (by omega)) (m_tk0_o _ _ _ (by omega) (by omega) (by omega)) (m_tk0_o _ _ _ (by omega) (by omega) (by omega)) (m_tk0_o _ _ _ (by omega) (by omega) (by omega))
    unfold m_tk
    refine ⟨?_, w0.2.1, ?_, ?_, ?_, ?_, ?_⟩
    · rw [dup_o _ _ _ (by omega)]; exact w0.1
    · rw [dup_o _ _ _ (by omega)]; exact w0.2.2.1
    · rw [dup_o _ _ _ (by omega)]; exact w0.2.2.2.1
    · rw [dup_o _ _ _ (by omega)]; exact w0.2.2.2.2.1
    · rw [dup_o _ _ _ (by omega), dup_o _ _ _ (by omega)]; exact w0.2.2.2.2.2.1
    · intro t ht
      rw [dup_t]
      by_cases e : t = s
      · rw [e, va_up_self]; omega
      · rw [va_up_ne _ _ e]; exact w0.2.2.2.2.2.2 t ht
  · exact w
/-- what a block needs that is to be appended to a stream -/
def AP (A : Nat → Nat → Int) (Z s : Nat) : Prop := AW A Z ∧ LG A ∧ 1 ≤ A 0 2 ∧ (A 0 3 ≤ ((cd_many A Z 1 + cd_many A Z 2 : Nat) : Int) → cd_lz A s = true → ¬ ml_zf A Z s = -1) ∧ cd_lz (m_at1 A Z s) s = false ∧ (∀ z, z < Z → ¬ A 2 z = 3 → A 3 z < A 0 1) ∧ s < 3
theorem bst_none {P : Nat → Bool} {lt : Nat → Nat → Bool} {n : Nat} (h : bst P lt n = -1) : ∀ j, j < n → P j = false := by
  induction n with
  | zero => intro j hj; omega
  | succ n ih =>
    have hb := bst_le P lt n
    unfold bst at h
    split at h
    · split at h
      · omega
      · rename_i h2
        exact absurd (Or.inl h) h2
    · rename_i h1
      intro j hj
      by_cases e : j = n
      · rw [e]; exact Bool.eq_false_iff.mpr h1
      · exact ih h j (by omega)
theorem cnt_zero {P : Nat → Bool} {n : Nat} (h : ∀ j, j < n → P j = false) : cnt P n = 0 := by
  induction n with
  | zero => rfl
  | succ n ih => unfold cnt; rw [ih (fun j hj => h j (by omega)), h n (by omega)]; rfl
theorem cd_oz_is {A : Nat → Nat → Int} {Z : Nat} (h : 1 ≤ cd_many A Z 1) : ¬ cd_oz A Z = -1 := by
  intro e
  have := cnt_zero (bst_none e)
  unfold cd_many at h
  omega
theorem am_w_p1 {P : Nat} (h : P < 1000) : am_w ((P : Int) + 1) = (P : Int) + 1 := am_w_id (by omega) (by omega)
section MODC
variable {m c : Nat} {M A : Nat → Nat → Int} {h : am_H} {Z : Nat}
theorem m_ap47x (hc : 8 ≤ c ∧ c ≤ 11) {z P p : Nat} (hP : A 3 z = P) (ew : (16 : Int) * (z : Int) + (P : Int) = (p : Int)) (hp128 : p < 128) (hz8 : z < 8) (hP16 : P < 16) (key val num so : Int) : am_run am_ms 131 47 [am_R m, am_R (m + c), am_I z, am_I key, am_I val, am_I num, am_I so, am_K 1] [] (mv m (drow M c (pack A)) h) = am_run am_ms 131 66 [am_R m, am_R (m + c), am_I z, am_I key, am_I val, am_I num, am_I so, am_I p] [am_I (32 + (p : Int)), am_R (m + c)] (mv m (drow M c (pack A)) h) := by
  simp (disch := omega) only [bk_131_47, hP, ew, am_w_id, mv_c0, mv_f0_0, mv_f0_1, mv_f0_2, mv_f0_3, mv_f0_4, mv_f0_5, mv_f0_6, mv_f0_7, mv_f0_8, mv_f0_9, mv_f0_10, mv_f0_11, mv_f0_12, mv_f0_13, mv_f0_14, mv_f0_15, mv_f0_16, mv_f0_17, mv_f0_18, mv_f0_19, mv_f0_20, mv_f0_21, mv_f0_22, mv_f0_23, mv_f0_24, mv_f0_25, mv_f0_26, mv_f0_27, mv_f0_28, mv_f0_29, mv_f0_30, mv_r1, mv_r2, mv_r3, mv_r4, mv_r5, mv_r6, mv_r7, mv_r8, mv_r9, mv_r10, mv_r11, mv_r12, mv_r13, mv_r14, mv_l1, mv_l2, mv_l3, mv_l4, mv_l5, mv_l6, mv_l7, mv_l8, mv_l9, mv_l10, mv_l11, mv_l12, mv_l13, mv_l14, mr2, mr3, mr4, mr5, mr6, mr7, mr8, mr9, mr13, mr1_4, mr0_6, mr1_5, mr1_0, mr1_1, mr1_2, mr1_3, mr1_6, mr1_7, mw2, mw3, mw4, mw5, mw6, mw7, mw8, mw9, mw13, mw1_4, mw0_6, mw1_5, mw1_0, mw1_1, mw1_2, mw1_3, mw1_6, mw1_7, drow_o, drow_t, Option.bind_some, Bool.cond_decide, am_oI_some, am_oV_some, am_oI_ite, am_oV_ite, am_bind_ite, Int.toNat_natCast, Int.toNat_zero, Int.reduceToNat, ite_true, ite_false, not_true_eq_false, not_false_eq_true, decide_true, decide_false, decide_eq_true_eq, Bool.false_eq_true, Nat.add_zero, am_rok1_0, am_rok1_1, cond_true, cond_false, am_w_nat1, true_or, or_true, false_or, or_false, true_and, and_true, false_and, and_false, Int.reduceEq, Int.reduceNeg, Int.reduceLT, Int.reduceLE, or_self, and_self, if_pos, if_neg]
theorem m_ap47y (hc : 8 ≤ c ∧ c ≤ 11) {z P p : Nat} (hP : A 3 z = P) (hp128 : p < 128) (hz8 : z < 8) (hP16 : P < 16) (key val num so : Int) : am_run am_ms 131 66 [am_R m, am_R (m + c), am_I z, am_I key, am_I val, am_I num, am_I so, am_I p] [am_I (32 + (p : Int)), am_R (m + c)] (mv m (drow M c (pack A)) h) = am_run am_ms 131 88 [am_R m, am_R (m + c), am_I z, am_I key, am_I val, am_I num, am_I so, am_I p] [] (mv m (drow M c (pack (dup (dup (dup A 7 p key) 8 p val) 9 p num))) h) := by
  simp (disch := omega) only [bk_131_66, hP, am_w_id, mv_c0, mv_f0_0, mv_f0_1, mv_f0_2, mv_f0_3, mv_f0_4, mv_f0_5, mv_f0_6, mv_f0_7, mv_f0_8, mv_f0_9, mv_f0_10, mv_f0_11, mv_f0_12, mv_f0_13, mv_f0_14, mv_f0_15, mv_f0_16, mv_f0_17, mv_f0_18, mv_f0_19, mv_f0_20, mv_f0_21, mv_f0_22, mv_f0_23, mv_f0_24, mv_f0_25, mv_f0_26, mv_f0_27, mv_f0_28, mv_f0_29, mv_f0_30, mv_r1, mv_r2, mv_r3, mv_r4, mv_r5, mv_r6, mv_r7, mv_r8, mv_r9, mv_r10, mv_r11, mv_r12, mv_r13, mv_r14, mv_l1, mv_l2, mv_l3, mv_l4, mv_l5, mv_l6, mv_l7, mv_l8, mv_l9, mv_l10, mv_l11, mv_l12, mv_l13, mv_l14, mr2, mr3, mr4, mr5, mr6, mr7, mr8, mr9, mr13, mr1_4, mr0_6, mr1_5, mr1_0, mr1_1, mr1_2, mr1_3, mr1_6, mr1_7, mw2, mw3, mw4, mw5, mw6, mw7, mw8, mw9, mw13, mw1_4, mw0_6, mw1_5, mw1_0, mw1_1, mw1_2, mw1_3, mw1_6, mw1_7, drow_o, drow_t, Option.bind_some, Bool.cond_decide, am_oI_some, am_oV_some, am_oI_ite, am_oV_ite, am_bind_ite, Int.toNat_natCast, Int.toNat_zero, Int.reduceToNat, ite_true, ite_false, not_true_eq_false, not_false_eq_true, decide_true, decide_false, decide_eq_true_eq, Bool.false_eq_true, Nat.add_zero, am_rok1_0, am_rok1_1, cond_true, cond_false, am_w_nat1, true_or, or_true, false_or, or_false, true_and, and_true, false_and, and_false, Int.reduceEq, Int.reduceNeg, Int.reduceLT, Int.reduceLE, or_self, and_self, if_pos, if_neg]
theorem m_ap47z (hc : 8 ≤ c ∧ c ≤ 11) {z P p : Nat} (hP : A 3 z = P) (hp128 : p < 128) (hz8 : z < 8) (hP16 : P < 16) (key val num so : Int) : am_run am_ms 131 88 [am_R m, am_R (m + c), am_I z, am_I key, am_I val, am_I num, am_I so, am_I p] [] (mv m (drow M c (pack A)) h) = am_run am_ms 131 104 [am_R m, am_R (m + c), am_I z, am_I key, am_I val, am_I num, am_I so, am_I p] [am_I ((P : Int) + 1)] (mv m (drow M c (pack (dup A 3 z ((P : Int) + 1)))) h) := by
  simp (disch := omega) only [bk_131_88, hP, am_w_p1, dup_t, va_up_self, am_w_id, mv_c0, mv_f0_0, mv_f0_1, mv_f0_2, mv_f0_3, mv_f0_4, mv_f0_5, mv_f0_6, mv_f0_7, mv_f0_8, mv_f0_9, mv_f0_10, mv_f0_11, mv_f0_12, mv_f0_13, mv_f0_14, mv_f0_15, mv_f0_16, mv_f0_17, mv_f0_18, mv_f0_19, mv_f0_20, mv_f0_21, mv_f0_22, mv_f0_23, mv_f0_24, mv_f0_25, mv_f0_26, mv_f0_27, mv_f0_28, mv_f0_29, mv_f0_30, mv_r1, mv_r2, mv_r3, mv_r4, mv_r5, mv_r6, mv_r7, mv_r8, mv_r9, mv_r10, mv_r11, mv_r12, mv_r13, mv_r14, mv_l1, mv_l2, mv_l3, mv_l4, mv_l5, mv_l6, mv_l7, mv_l8, mv_l9, mv_l10, mv_l11, mv_l12, mv_l13, mv_l14, mr2, mr3, mr4, mr5, mr6, mr7, mr8, mr9, mr13, mr1_4, mr0_6, mr1_5, mr1_0, mr1_1, mr1_2, mr1_3, mr1_6, mr1_7, mw2, mw3, mw4, mw5, mw6, mw7, mw8, mw9, mw13, mw1_4, mw0_6, mw1_5, mw1_0, mw1_1, mw1_2, mw1_3, mw1_6, mw1_7, drow_o, drow_t, Option.bind_some, Bool.cond_decide, am_oI_some, am_oV_some, am_oI_ite, am_oV_ite, am_bind_ite, Int.toNat_natCast, Int.toNat_zero, Int.reduceToNat, ite_true, ite_false, not_true_eq_false, not_false_eq_true, decide_true, decide_false, decide_eq_true_eq, Bool.false_eq_true, Nat.add_zero, am_rok1_0, am_rok1_1, cond_true, cond_false, am_w_nat1, true_or, or_true, false_or, or_false, true_and, and_true, false_and, and_false, Int.reduceEq, Int.reduceNeg, Int.reduceLT, Int.reduceLE, or_self, and_self, if_pos, if_neg]
theorem m_ap47a (hc : 8 ≤ c ∧ c ≤ 11) (hr : MR M A) (w : AW A Z) {z : Nat} (hz : z < Z) {P : Nat} (hP : A 3 z = P) (h3 : A 3 z < A 0 1) (key val num so : Int) : am_run am_ms 131 47 [am_R m, am_R (m + c), am_I z, am_I key, am_I val, am_I num, am_I so, am_K 1] [] (mv m (drow M c (pack A)) h) = am_run am_ms 131 119 [am_R m, am_R (m + c), am_I z, am_I key, am_I val, am_I num, am_I so, am_I ((16 * z + P : Nat) : Int)] [] (mv m (drow M c (pack (o_ap2 A z key val num))) h) := by
  have hZ8 := w.2.1
  have hp := w.2.2.2.2.1 z (by omega)
  have hcap := w.2.2.1
  have r1 := hr.2.1
  have eP : (A 3 z).toNat = P := by omega
  rw [m_ap47x hc hP (p := 16 * z + P) (by omega) (by omega) (by omega) (by omega), m_ap47y hc hP (by omega) (by omega) (by omega), m_ap47z (P := P) hc (by rw [dup_o _ _ _ (by omega), dup_o _ _ _ (by omega), dup_o _ _ _ (by omega)]; exact hP) (by omega) (by omega) (by omega)]
  have e4 : dup (dup (dup (dup A 7 (16 * z + P) key) 8 (16 * z + P) val) 9 (16 * z + P) num) 3 z ((P : Int) + 1) = o_ap1 A z key val num := by
    unfold o_ap1
    rw [eP, hP]
  rw [e4]
  unfold o_ap2
  rw [hP] at h3 ⊢
  clear e4 hP eP hp
  by_cases e1 : (P : Int) + 1 < A 0 1
  · rw [if_pos e1]
    simp (disch := omega) only [bk_131_104, r1, am_w_id, mv_c0, mv_f0_0, mv_f0_1, mv_f0_2, mv_f0_3, mv_f0_4, mv_f0_5, mv_f0_6, mv_f0_7, mv_f0_8, mv_f0_9, mv_f0_10, mv_f0_11, mv_f0_12, mv_f0_13, mv_f0_14, mv_f0_15, mv_f0_16, mv_f0_17, mv_f0_18, mv_f0_19, mv_f0_20, mv_f0_21, mv_f0_22, mv_f0_23, mv_f0_24, mv_f0_25, mv_f0_26, mv_f0_27, mv_f0_28, mv_f0_29, mv_f0_30, mv_r1, mv_r2, mv_r3, mv_r4, mv_r5, mv_r6, mv_r7, mv_r8, mv_r9, mv_r10, mv_r11, mv_r12, mv_r13, mv_r14, mv_l1, mv_l2, mv_l3, mv_l4, mv_l5, mv_l6, mv_l7, mv_l8, mv_l9, mv_l10, mv_l11, mv_l12, mv_l13, mv_l14, mr2, mr3, mr4, mr5, mr6, mr7, mr8, mr9, mr13, mr1_4, mr0_6, mr1_5, mr1_0, mr1_1, mr1_2, mr1_3, mr1_6, mr1_7, mw2, mw3, mw4, mw5, mw6, mw7, mw8, mw9, mw13, mw1_4, mw0_6, mw1_5, mw1_0, mw1_1, mw1_2, mw1_3, mw1_6, mw1_7, drow_o, drow_t, Option.bind_some, Bool.cond_decide, am_oI_some, am_oV_some, am_oI_ite, am_oV_ite, am_bind_ite, Int.toNat_natCast, Int.toNat_zero, Int.reduceToNat, ite_true, ite_false, not_true_eq_false, not_false_eq_true, decide_true, decide_false, decide_eq_true_eq, Bool.false_eq_true, Nat.add_zero, am_rok1_0, am_rok1_1, cond_true, cond_false, am_w_nat1, true_or, or_true, false_or, or_false, true_and, and_true, false_and, and_false, Int.reduceEq, Int.reduceNeg, Int.reduceLT, Int.reduceLE, or_self, and_self, if_pos, if_neg]
  · rw [if_neg e1]
    have e2 : (P : Int) + 1 = A 0 1 := by omega
    rw [e2]
    have hz8 : z < 8 := by omega
    clear e1 e2 h3
    simp (disch := omega) only [bk_131_104, r1, am_w_id, mv_c0, mv_f0_0, mv_f0_1, mv_f0_2, mv_f0_3, mv_f0_4, mv_f0_5, mv_f0_6, mv_f0_7, mv_f0_8, mv_f0_9, mv_f0_10, mv_f0_11, mv_f0_12, mv_f0_13, mv_f0_14, mv_f0_15, mv_f0_16, mv_f0_17, mv_f0_18, mv_f0_19, mv_f0_20, mv_f0_21, mv_f0_22, mv_f0_23, mv_f0_24, mv_f0_25, mv_f0_26, mv_f0_27, mv_f0_28, mv_f0_29, mv_f0_30, mv_r1, mv_r2, mv_r3, mv_r4, mv_r5, mv_r6, mv_r7, mv_r8, mv_r9, mv_r10, mv_r11, mv_r12, mv_r13, mv_r14, mv_l1, mv_l2, mv_l3, mv_l4, mv_l5, mv_l6, mv_l7, mv_l8, mv_l9, mv_l10, mv_l11, mv_l12, mv_l13, mv_l14, mr2, mr3, mr4, mr5, mr6, mr7, mr8, mr9, mr13, mr1_4, mr0_6, mr1_5, mr1_0, mr1_1, mr1_2, mr1_3, mr1_6, mr1_7, mw2, mw3, mw4, mw5, mw6, mw7, mw8, mw9, mw13, mw1_4, mw0_6, mw1_5, mw1_0, mw1_1, mw1_2, mw1_3, mw1_6, mw1_7, drow_o, drow_t, Option.bind_some, Bool.cond_decide, am_oI_some, am_oV_some, am_oI_ite, am_oV_ite, am_bind_ite, Int.toNat_natCast, Int.toNat_zero, Int.reduceToNat, ite_true, ite_false, not_true_eq_false, not_false_eq_true, decide_true, decide_false, decide_eq_true_eq, Bool.false_eq_true, Nat.add_zero, am_rok1_0, am_rok1_1, cond_true, cond_false, am_w_nat1, true_or, or_true, false_or, or_false, true_and, and_true, false_and, and_false, Int.reduceEq, Int.reduceNeg, Int.reduceLT, Int.reduceLE, or_self, and_self, if_pos, if_neg]
theorem m_ap119 (hc : 8 ≤ c ∧ c ≤ 11) {z : Nat} (hz : z < 8) (key val num p : Int) {sort : Nat} (hs : sort < 2) (lg : LG A) : am_run am_ms 131 119 [am_R m, am_R (m + c), am_I z, am_I key, am_I val, am_I num, am_I sort, am_I p] [] (mv m (drow M c (pack A)) h) = some (none, mv m (drow M c (pack (nts (dup (dup (dup A 1 5 (am_w (A 1 5 + 1))) 5 z (am_w (A 1 5 + 1))) 1 sort (am_w (A 1 sort + 1))) sort z p))) h) := by
  have c2 := fun x y t => m_notes (m := m) (M := M) (A := dup (dup (dup A 1 5 (am_w (A 1 5 + 1))) 5 z (am_w (A 1 5 + 1))) 1 sort (am_w (A 1 sort + 1))) (h := h) hc (LG_of lg (by rw [dup_o _ _ _ (by omega), dup_o _ _ _ (by omega), dup_o _ _ _ (by omega)])) x y t
  rcases (show sort = 0 ∨ sort = 1 by omega) with e | e
  · subst e
    rw [show ((0 : Nat) : Int) = 0 from rfl]
    simp (disch := omega) only [bk_131_119, bk_131_138, bk_131_151, bk_131_154, bk_131_170, bk_131_171, dup_o, dup_t, va_up_self, va_up_ne, c2, am_w_id, mv_c0, mv_f0_0, mv_f0_1, mv_f0_2, mv_f0_3, mv_f0_4, mv_f0_5, mv_f0_6, mv_f0_7, mv_f0_8, mv_f0_9, mv_f0_10, mv_f0_11, mv_f0_12, mv_f0_13, mv_f0_14, mv_f0_15, mv_f0_16, mv_f0_17, mv_f0_18, mv_f0_19, mv_f0_20, mv_f0_21, mv_f0_22, mv_f0_23, mv_f0_24, mv_f0_25, mv_f0_26, mv_f0_27, mv_f0_28, mv_f0_29, mv_f0_30, mv_r1, mv_r2, mv_r3, mv_r4, mv_r5, mv_r6, mv_r7, mv_r8, mv_r9, mv_r10, mv_r11, mv_r12, mv_r13, mv_r14, mv_l1, mv_l2, mv_l3, mv_l4, mv_l5, mv_l6, mv_l7, mv_l8, mv_l9, mv_l10, mv_l11, mv_l12, mv_l13, mv_l14, mr2, mr3, mr4, mr5, mr6, mr7, mr8, mr9, mr13, mr1_4, mr0_6, mr1_5, mr1_0, mr1_1, mr1_2, mr1_3, mr1_6, mr1_7, mw2, mw3, mw4, mw5, mw6, mw7, mw8, mw9, mw13, mw1_4, mw0_6, mw1_5, mw1_0, mw1_1, mw1_2, mw1_3, mw1_6, mw1_7, drow_o, drow_t, Option.bind_some, Bool.cond_decide, am_oI_some, am_oV_some, am_oI_ite, am_oV_ite, am_bind_ite, Int.toNat_natCast, Int.toNat_zero, Int.reduceToNat, ite_true, ite_false, not_true_eq_false, not_false_eq_true, decide_true, decide_false, decide_eq_true_eq, Bool.false_eq_true, Nat.add_zero, am_rok1_0, am_rok1_1, cond_true, cond_false, am_w_nat1, true_or, or_true, false_or, or_false, true_and, and_true, false_and, and_false, Int.reduceEq, Int.reduceNeg, Int.reduceLT, Int.reduceLE, or_self, and_self, if_pos, if_neg]
  · subst e
    rw [show ((1 : Nat) : Int) = 1 from rfl]
    simp (disch := omega) only [bk_131_119, bk_131_138, bk_131_151, bk_131_154, bk_131_170, bk_131_171, dup_o, dup_t, va_up_self, va_up_ne, c2, am_w_id, mv_c0, mv_f0_0, mv_f0_1, mv_f0_2, mv_f0_3, mv_f0_4, mv_f0_5, mv_f0_6, mv_f0_7, mv_f0_8, mv_f0_9, mv_f0_10, mv_f0_11, mv_f0_12, mv_f0_13, mv_f0_14, mv_f0_15, mv_f0_16, mv_f0_17, mv_f0_18, mv_f0_19, mv_f0_20, mv_f0_21, mv_f0_22, mv_f0_23, mv_f0_24, mv_f0_25, mv_f0_26, mv_f0_27, mv_f0_28, mv_f0_29, mv_f0_30, mv_r1, mv_r2, mv_r3, mv_r4, mv_r5, mv_r6, mv_r7, mv_r8, mv_r9, mv_r10, mv_r11, mv_r12, mv_r13, mv_r14, mv_l1, mv_l2, mv_l3, mv_l4, mv_l5, mv_l6, mv_l7, mv_l8, mv_l9, mv_l10, mv_l11, mv_l12, mv_l13, mv_l14, mr2, mr3, mr4, mr5, mr6, mr7, mr8, mr9, mr13, mr1_4, mr0_6, mr1_5, mr1_0, mr1_1, mr1_2, mr1_3, mr1_6, mr1_7, mw2, mw3, mw4, mw5, mw6, mw7, mw8, mw9, mw13, mw1_4, mw0_6, mw1_5, mw1_0, mw1_1, mw1_2, mw1_3, mw1_6, mw1_7, drow_o, drow_t, Option.bind_some, Bool.cond_decide, am_oI_some, am_oV_some, am_oI_ite, am_oV_ite, am_bind_ite, Int.toNat_natCast, Int.toNat_zero, Int.reduceToNat, ite_true, ite_false, not_true_eq_false, not_false_eq_true, decide_true, decide_false, decide_eq_true_eq, Bool.false_eq_true, Nat.add_zero, am_rok1_0, am_rok1_1, cond_true, cond_false, am_w_nat1, true_or, or_true, false_or, or_false, true_and, and_true, false_and, and_false, Int.reduceEq, Int.reduceNeg, Int.reduceLT, Int.reduceLE, or_self, and_self, if_pos, if_neg]
theorem m_ap47 (hc : 8 ≤ c ∧ c ≤ 11) (hr : MR M A) (w : AW A Z) (lg : LG A) {z : Nat} (hz : z < Z) (h3 : A 3 z < A 0 1) (key val num : Int) {sort : Nat} (hs : sort < 2) : am_run am_ms 131 47 [am_R m, am_R (m + c), am_I z, am_I key, am_I val, am_I num, am_I sort, am_K 1] [] (mv m (drow M c (pack A)) h) = some (none, mv m (drow M c (pack (m_ap A z key val num sort))) h) := by
  have hZ8 := w.2.1
  have hp := w.2.2.2.2.1 z (by omega)
  have e1 : o_ap2 A z key val num 1 = A 1 := by rw [o_ap2_o _ _ _ _ _ (by omega), o_ap1_o _ _ _ _ _ (by omega)]
  rw [m_ap47a hc hr w hz (P := (A 3 z).toNat) (by omega) h3, m_ap119 hc (by omega) _ _ _ _ hs (LG_of lg (by rw [o_ap2_o _ _ _ _ _ (by omega), o_ap1_o _ _ _ _ _ (by omega)])), e1]
  rfl
theorem m_appends (hc : 8 ≤ c ∧ c ≤ 11) (hr : MR M A) (w : AW A Z) (lg : LG A) (ho : 1 ≤ A 0 2) {z : Nat} (hz : z < Z) (h3 : A 3 z < A 0 1) (key val num : Int) {sort : Nat} (hs : sort < 2) : am_cV 131 [am_R m, am_R (m + c), am_I z, am_I key, am_I val, am_I num, am_I sort] (mv m (drow M c (pack A)) h) = some (mv m (drow M c (pack (m_ap (m_at2 A Z z) z key val num sort))) h) := by
  have hZ8 := w.2.1
  have c1 := m_many (m := m) (h := h) hc hr w.1 w.2.1 1
  have c2 := m_laziest (m := m) (h := h) hc hr w
  have hb : -1 ≤ cd_oz A Z ∧ cd_oz A Z < Z := bst_le _ _ _
  have r2 := hr.2.2.1
  have e0 : m_at2 A Z z 0 = A 0 := m_at2_o _ _ _ (by omega) (by omega) (by omega)
  have e3 : m_at2 A Z z 3 = A 3 := m_at2_o _ _ _ (by omega) (by omega) (by omega)
  have c5 := m_ap47 (m := m) (h := h) hc (MR_of hr e0) (AW_of w e0 e3 (m_at2_o _ _ _ (by omega) (by omega) (by omega)) (m_at2_o _ _ _ (by omega) (by omega) (by omega))) (m_at2_LG lg Z z) hz (by rw [e3, e0]; exact h3) key val num hs
  rw [am_cV, en_131, bk_131_0]
  unfold m_at2 at c5 ⊢
  clear e0 e3
  by_cases e1 : A 2 z = 1
  · rw [if_pos e1] at c5 ⊢
    simp (disch := omega) only [e1, c5, am_w_id, mv_c0, mv_f0_0, mv_f0_1, mv_f0_2, mv_f0_3, mv_f0_4, mv_f0_5, mv_f0_6, mv_f0_7, mv_f0_8, mv_f0_9, mv_f0_10, mv_f0_11, mv_f0_12, mv_f0_13, mv_f0_14, mv_f0_15, mv_f0_16, mv_f0_17, mv_f0_18, mv_f0_19, mv_f0_20, mv_f0_21, mv_f0_22, mv_f0_23, mv_f0_24, mv_f0_25, mv_f0_26, mv_f0_27, mv_f0_28, mv_f0_29, mv_f0_30, mv_r1, mv_r2, mv_r3, mv_r4, mv_r5, mv_r6, mv_r7, mv_r8, mv_r9, mv_r10, mv_r11, mv_r12, mv_r13, mv_r14, mv_l1, mv_l2, mv_l3, mv_l4, mv_l5, mv_l6, mv_l7, mv_l8, mv_l9, mv_l10, mv_l11, mv_l12, mv_l13, mv_l14, mr2, mr3, mr4, mr5, mr6, mr7, mr8, mr9, mr13, mr1_4, mr0_6, mr1_5, mr1_0, mr1_1, mr1_2, mr1_3, mr1_6, mr1_7, mw2, mw3, mw4, mw5, mw6, mw7, mw8, mw9, mw13, mw1_4, mw0_6, mw1_5, mw1_0, mw1_1, mw1_2, mw1_3, mw1_6, mw1_7, drow_o, drow_t, Option.bind_some, Bool.cond_decide, am_oI_some, am_oV_some, am_oI_ite, am_oV_ite, am_bind_ite, Int.toNat_natCast, Int.toNat_zero, Int.reduceToNat, ite_true, ite_false, not_true_eq_false, not_false_eq_true, decide_true, decide_false, decide_eq_true_eq, Bool.false_eq_true, Nat.add_zero, am_rok1_0, am_rok1_1, cond_true, cond_false, am_w_nat1, true_or, or_true, false_or, or_false, true_and, and_true, false_and, and_false, Int.reduceEq, Int.reduceNeg, Int.reduceLT, Int.reduceLE, or_self, and_self, if_pos, if_neg]
  · rw [if_neg e1] at c5 ⊢
    unfold m_op m_op0 at c5 ⊢
    by_cases e2 : A 0 2 ≤ (cd_many A Z 1 : Int)
    · have e3 := cd_oz_is (A := A) (Z := Z) (by omega)
      rw [if_pos ⟨e2, e3⟩] at c5 ⊢
      obtain ⟨k, hk⟩ : ∃ k : Nat, cd_oz A Z = k := ⟨(cd_oz A Z).toNat, by omega⟩
      rw [hk] at c2 hb
      rw [hk, Int.toNat_natCast] at c5 ⊢
      have c3 := m_closes (m := m) (M := M) (h := h) hc lg (z := k) (by omega)
      have e17 : m_cl A k 1 = A 1 := m_cl_o _ _ (by omega) (by omega)
      simp (disch := omega) only [bk_131_22, bk_131_41, e1, c1, c2, c3, r2, e17, c5, am_w_id, mv_c0, mv_f0_0, mv_f0_1, mv_f0_2, mv_f0_3, mv_f0_4, mv_f0_5, mv_f0_6, mv_f0_7, mv_f0_8, mv_f0_9, mv_f0_10, mv_f0_11, mv_f0_12, mv_f0_13, mv_f0_14, mv_f0_15, mv_f0_16, mv_f0_17, mv_f0_18, mv_f0_19, mv_f0_20, mv_f0_21, mv_f0_22, mv_f0_23, mv_f0_24, mv_f0_25, mv_f0_26, mv_f0_27, mv_f0_28, mv_f0_29, mv_f0_30, mv_r1, mv_r2, mv_r3, mv_r4, mv_r5, mv_r6, mv_r7, mv_r8, mv_r9, mv_r10, mv_r11, mv_r12, mv_r13, mv_r14, mv_l1, mv_l2, mv_l3, mv_l4, mv_l5, mv_l6, mv_l7, mv_l8, mv_l9, mv_l10, mv_l11, mv_l12, mv_l13, mv_l14, mr2, mr3, mr4, mr5, mr6, mr7, mr8, mr9, mr13, mr1_4, mr0_6, mr1_5, mr1_0, mr1_1, mr1_2, mr1_3, mr1_6, mr1_7, mw2, mw3, mw4, mw5, mw6, mw7, mw8, mw9, mw13, mw1_4, mw0_6, mw1_5, mw1_0, mw1_1, mw1_2, mw1_3, mw1_6, mw1_7, drow_o, drow_t, Option.bind_some, Bool.cond_decide, am_oI_some, am_oV_some, am_oI_ite, am_oV_ite, am_bind_ite, Int.toNat_natCast, Int.toNat_zero, Int.reduceToNat, ite_true, ite_false, not_true_eq_false, not_false_eq_true, decide_true, decide_false, decide_eq_true_eq, Bool.false_eq_true, Nat.add_zero, am_rok1_0, am_rok1_1, cond_true, cond_false, am_w_nat1, true_or, or_true, false_or, or_false, true_and, and_true, false_and, and_false, Int.reduceEq, Int.reduceNeg, Int.reduceLT, Int.reduceLE, or_self, and_self, if_pos, if_neg]
    · rw [if_neg (by omega)] at c5 ⊢
      simp (disch := omega) only [bk_131_22, bk_131_41, e1, c1, c2, r2, c5, am_w_id, mv_c0, mv_f0_0, mv_f0_1, mv_f0_2, mv_f0_3, mv_f0_4, mv_f0_5, mv_f0_6, mv_f0_7, mv_f0_8, mv_f0_9, mv_f0_10, mv_f0_11, mv_f0_12, mv_f0_13, mv_f0_14, mv_f0_15, mv_f0_16, mv_f0_17, mv_f0_18, mv_f0_19, mv_f0_20, mv_f0_21, mv_f0_22, mv_f0_23, mv_f0_24, mv_f0_25, mv_f0_26, mv_f0_27, mv_f0_28, mv_f0_29, mv_f0_30, mv_r1, mv_r2, mv_r3, mv_r4, mv_r5, mv_r6, mv_r7, mv_r8, mv_r9, mv_r10, mv_r11, mv_r12, mv_r13, mv_r14, mv_l1, mv_l2, mv_l3, mv_l4, mv_l5, mv_l6, mv_l7, mv_l8, mv_l9, mv_l10, mv_l11, mv_l12, mv_l13, mv_l14, mr2, mr3, mr4, mr5, mr6, mr7, mr8, mr9, mr13, mr1_4, mr0_6, mr1_5, mr1_0, mr1_1, mr1_2, mr1_3, mr1_6, mr1_7, mw2, mw3, mw4, mw5, mw6, mw7, mw8, mw9, mw13, mw1_4, mw0_6, mw1_5, mw1_0, mw1_1, mw1_2, mw1_3, mw1_6, mw1_7, drow_o, drow_t, Option.bind_some, Bool.cond_decide, am_oI_some, am_oV_some, am_oI_ite, am_oV_ite, am_bind_ite, Int.toNat_natCast, Int.toNat_zero, Int.reduceToNat, ite_true, ite_false, not_true_eq_false, not_false_eq_true, decide_true, decide_false, decide_eq_true_eq, Bool.false_eq_true, Nat.add_zero, am_rok1_0, am_rok1_1, cond_true, cond_false, am_w_nat1, true_or, or_true, false_or, or_false, true_and, and_true, false_and, and_false, Int.reduceEq, Int.reduceNeg, Int.reduceLT, Int.reduceLE, or_self, and_self, if_pos, if_neg]
theorem ml_zf_le (A : Nat → Nat → Int) (Z : Nat) (s : Int) : -1 ≤ ml_zf A Z s ∧ ml_zf A Z s < Z := by
  unfold ml_zf ml_mp
  split
  · exact bst_le _ _ _
  · exact fnd_le _ _
theorem m_appendsTo (hc : 8 ≤ c ∧ c ≤ 11) (hr : MR M A) {s : Nat} (ap : AP A Z s) (key val num : Int) {sort : Nat} (hs : sort < 2) : am_cI 132 [am_R m, am_R (m + c), am_I s, am_I key, am_I val, am_I num, am_I sort] (mv m (drow M c (pack A)) h) = some (mv_at A Z s, mv m (drow M c (pack (m_at A Z s key val num sort))) h) := by
  obtain ⟨w, lg, ho, hzf, hlz, hcw, hs3⟩ := ap
  have hZ8 := w.2.1
  have w1 := m_at1_AW w s
  have e0 : m_at1 A Z s 0 = A 0 := m_at1_o _ _ _ (by omega) (by omega) (by omega) (by omega)
  have e3 : m_at1 A Z s 3 = A 3 := m_at1_o _ _ _ (by omega) (by omega) (by omega) (by omega)
  have lg1 := m_at1_LG lg Z s
  have key57 : ∀ v : am_V, am_oI (am_run am_ms 132 57 [am_R m, am_R (m + c), am_I s, am_I key, am_I val, am_I num, am_I sort, v, am_K 1] [] (mv m (drow M c (pack (m_at1 A Z s))) h)) = some (mv_at A Z s, mv m (drow M c (pack (m_at A Z s key val num sort))) h) := by
    intro v
    have h1 := cd_lz_no hlz
    rw [w1.1] at h1
    have hcw' : A 3 (m_at1 A Z s 6 s).toNat < A 0 1 := by
      by_cases e : cd_lz A s = true
      · have h2 : m_at1 A Z s 6 s = cd_ez A Z := by unfold m_at1 m_tk; rw [if_pos e, dup_t, va_up_self]
        rw [h2] at h1 ⊢
        have h5 : A 2 (cd_ez A Z).toNat = 0 := of_decide_eq_true (bst_at (P := fun z => decide (A 2 z = 0)) (lt := fun z b => decide (A 4 z < A 4 b)) (n := Z) (by show ¬ cd_ez A Z = -1; omega))
        exact hcw _ (by omega) (by omega)
      · have h2 : m_at1 A Z s = A := by unfold m_at1; rw [if_neg e]
        rw [h2] at h1 ⊢
        exact hcw _ (by omega) h1.2
    unfold m_at mv_at
    obtain ⟨z, hz⟩ : ∃ z : Nat, m_at1 A Z s 6 s = z := ⟨(m_at1 A Z s 6 s).toNat, by omega⟩
    rw [hz, Int.toNat_natCast] at hcw' h1 ⊢
    have c5 := m_appends (m := m) (h := h) hc (MR_of hr e0) w1 lg1 (by rw [e0]; exact ho) (z := z) (by omega) (by rw [e3, e0]; exact hcw') key val num hs
    have hp := w.2.2.2.2.1 z (by omega)
    obtain ⟨P, hP⟩ : ∃ P : Nat, A 3 z = P := ⟨(A 3 z).toNat, by omega⟩
    have e3' : m_at1 A Z s 3 z = P := by rw [e3, hP]
    rw [hP, Int.toNat_natCast]
    have ew : (16 : Int) * (z : Int) + (P : Int) = ((16 * z + P : Nat) : Int) := by omega
    clear e0 e3
    simp (disch := omega) only [bk_132_57, bk_132_78, hz, e3', ew, c5, am_w_id, mv_c0, mv_f0_0, mv_f0_1, mv_f0_2, mv_f0_3, mv_f0_4, mv_f0_5, mv_f0_6, mv_f0_7, mv_f0_8, mv_f0_9, mv_f0_10, mv_f0_11, mv_f0_12, mv_f0_13, mv_f0_14, mv_f0_15, mv_f0_16, mv_f0_17, mv_f0_18, mv_f0_19, mv_f0_20, mv_f0_21, mv_f0_22, mv_f0_23, mv_f0_24, mv_f0_25, mv_f0_26, mv_f0_27, mv_f0_28, mv_f0_29, mv_f0_30, mv_r1, mv_r2, mv_r3, mv_r4, mv_r5, mv_r6, mv_r7, mv_r8, mv_r9, mv_r10, mv_r11, mv_r12, mv_r13, mv_r14, mv_l1, mv_l2, mv_l3, mv_l4, mv_l5, mv_l6, mv_l7, mv_l8, mv_l9, mv_l10, mv_l11, mv_l12, mv_l13, mv_l14, mr2, mr3, mr4, mr5, mr6, mr7, mr8, mr9, mr13, mr1_4, mr0_6, mr1_5, mr1_0, mr1_1, mr1_2, mr1_3, mr1_6, mr1_7, mw2, mw3, mw4, mw5, mw6, mw7, mw8, mw9, mw13, mw1_4, mw0_6, mw1_5, mw1_0, mw1_1, mw1_2, mw1_3, mw1_6, mw1_7, drow_o, drow_t, Option.bind_some, Bool.cond_decide, am_oI_some, am_oV_some, am_oI_ite, am_oV_ite, am_bind_ite, Int.toNat_natCast, Int.toNat_zero, Int.reduceToNat, ite_true, ite_false, not_true_eq_false, not_false_eq_true, decide_true, decide_false, decide_eq_true_eq, Bool.false_eq_true, Nat.add_zero, am_rok1_0, am_rok1_1, cond_true, cond_false, am_w_nat1, true_or, or_true, false_or, or_false, true_and, and_true, false_and, and_false, Int.reduceEq, Int.reduceNeg, Int.reduceLT, Int.reduceLE, or_self, and_self, if_pos, if_neg]
  have c1 := m_wantsZone (m := m) (M := M) (h := h) hc w (s := s) hs3
  have c2 := m_emptiest (m := m) (h := h) hc hr w
  have c3 := m_active (m := m) (h := h) hc hr w
  have c4 := m_surplus (m := m) (h := h) hc hr w s
  have r3 := hr.2.2.2.1
  rw [am_cI, en_132, bk_132_0]
  unfold m_at1 at key57
  clear e0 e3 w1 lg1
  cases e : cd_lz A s with
  | false =>
    rw [e] at c1 key57
    rw [if_neg (by decide)] at key57
    have key57' := key57 (am_K 1)
    simp (disch := omega) only [c1, key57', am_w_id, mv_c0, mv_f0_0, mv_f0_1, mv_f0_2, mv_f0_3, mv_f0_4, mv_f0_5, mv_f0_6, mv_f0_7, mv_f0_8, mv_f0_9, mv_f0_10, mv_f0_11, mv_f0_12, mv_f0_13, mv_f0_14, mv_f0_15, mv_f0_16, mv_f0_17, mv_f0_18, mv_f0_19, mv_f0_20, mv_f0_21, mv_f0_22, mv_f0_23, mv_f0_24, mv_f0_25, mv_f0_26, mv_f0_27, mv_f0_28, mv_f0_29, mv_f0_30, mv_r1, mv_r2, mv_r3, mv_r4, mv_r5, mv_r6, mv_r7, mv_r8, mv_r9, mv_r10, mv_r11, mv_r12, mv_r13, mv_r14, mv_l1, mv_l2, mv_l3, mv_l4, mv_l5, mv_l6, mv_l7, mv_l8, mv_l9, mv_l10, mv_l11, mv_l12, mv_l13, mv_l14, mr2, mr3, mr4, mr5, mr6, mr7, mr8, mr9, mr13, mr1_4, mr0_6, mr1_5, mr1_0, mr1_1, mr1_2, mr1_3, mr1_6, mr1_7, mw2, mw3, mw4, mw5, mw6, mw7, mw8, mw9, mw13, mw1_4, mw0_6, mw1_5, mw1_0, mw1_1, mw1_2, mw1_3, mw1_6, mw1_7, drow_o, drow_t, Option.bind_some, Bool.cond_decide, am_oI_some, am_oV_some, am_oI_ite, am_oV_ite, am_bind_ite, Int.toNat_natCast, Int.toNat_zero, Int.reduceToNat, ite_true, ite_false, not_true_eq_false, not_false_eq_true, decide_true, decide_false, decide_eq_true_eq, Bool.false_eq_true, Nat.add_zero, am_rok1_0, am_rok1_1, cond_true, cond_false, am_w_nat1, true_or, or_true, false_or, or_false, true_and, and_true, false_and, and_false, Int.reduceEq, Int.reduceNeg, Int.reduceLT, Int.reduceLE, or_self, and_self, if_pos, if_neg]
  | true =>
    rw [e] at c1 key57
    rw [if_pos rfl] at key57
    unfold m_tk m_tk0 at key57
    have hb := ml_zf_le A Z s
    by_cases e2 : A 0 3 ≤ ((cd_many A Z 1 + cd_many A Z 2 : Nat) : Int)
    · have e3 := hzf e2 e
      rw [if_pos ⟨e2, e3⟩] at key57
      obtain ⟨k, hk⟩ : ∃ k : Nat, ml_zf A Z s = k := ⟨(ml_zf A Z s).toNat, by omega⟩
      rw [hk] at c4 hb
      rw [hk, Int.toNat_natCast] at key57
      have c5 := m_finishes (m := m) (M := M) (h := h) hc lg (z := k) (by omega)
      have e17 : m_fi A k 1 = A 1 := m_fi_o _ _ (by omega) (by omega)
      simp (disch := omega) only [bk_132_25, bk_132_47, bk_132_48, c1, c2, c3, c4, c5, r3, e17, key57, am_w_id, mv_c0, mv_f0_0, mv_f0_1, mv_f0_2, mv_f0_3, mv_f0_4, mv_f0_5, mv_f0_6, mv_f0_7, mv_f0_8, mv_f0_9, mv_f0_10, mv_f0_11, mv_f0_12, mv_f0_13, mv_f0_14, mv_f0_15, mv_f0_16, mv_f0_17, mv_f0_18, mv_f0_19, mv_f0_20, mv_f0_21, mv_f0_22, mv_f0_23, mv_f0_24, mv_f0_25, mv_f0_26, mv_f0_27, mv_f0_28, mv_f0_29, mv_f0_30, mv_r1, mv_r2, mv_r3, mv_r4, mv_r5, mv_r6, mv_r7, mv_r8, mv_r9, mv_r10, mv_r11, mv_r12, mv_r13, mv_r14, mv_l1, mv_l2, mv_l3, mv_l4, mv_l5, mv_l6, mv_l7, mv_l8, mv_l9, mv_l10, mv_l11, mv_l12, mv_l13, mv_l14, mr2, mr3, mr4, mr5, mr6, mr7, mr8, mr9, mr13, mr1_4, mr0_6, mr1_5, mr1_0, mr1_1, mr1_2, mr1_3, mr1_6, mr1_7, mw2, mw3, mw4, mw5, mw6, mw7, mw8, mw9, mw13, mw1_4, mw0_6, mw1_5, mw1_0, mw1_1, mw1_2, mw1_3, mw1_6, mw1_7, drow_o, drow_t, Option.bind_some, Bool.cond_decide, am_oI_some, am_oV_some, am_oI_ite, am_oV_ite, am_bind_ite, Int.toNat_natCast, Int.toNat_zero, Int.reduceToNat, ite_true, ite_false, not_true_eq_false, not_false_eq_true, decide_true, decide_false, decide_eq_true_eq, Bool.false_eq_true, Nat.add_zero, am_rok1_0, am_rok1_1, cond_true, cond_false, am_w_nat1, true_or, or_true, false_or, or_false, true_and, and_true, false_and, and_false, Int.reduceEq, Int.reduceNeg, Int.reduceLT, Int.reduceLE, or_self, and_self, if_pos, if_neg]
    · rw [if_neg (fun q => e2 q.1)] at key57
      simp (disch := omega) only [bk_132_25, bk_132_47, bk_132_48, c1, c2, c3, c4, r3, key57, am_w_id, mv_c0, mv_f0_0, mv_f0_1, mv_f0_2, mv_f0_3, mv_f0_4, mv_f0_5, mv_f0_6, mv_f0_7, mv_f0_8, mv_f0_9, mv_f0_10, mv_f0_11, mv_f0_12, mv_f0_13, mv_f0_14, mv_f0_15, mv_f0_16, mv_f0_17, mv_f0_18, mv_f0_19, mv_f0_20, mv_f0_21, mv_f0_22, mv_f0_23, mv_f0_24, mv_f0_25, mv_f0_26, mv_f0_27, mv_f0_28, mv_f0_29, mv_f0_30, mv_r1, mv_r2, mv_r3, mv_r4, mv_r5, mv_r6, mv_r7, mv_r8, mv_r9, mv_r10, mv_r11, mv_r12, mv_r13, mv_r14, mv_l1, mv_l2, mv_l3, mv_l4, mv_l5, mv_l6, mv_l7, mv_l8, mv_l9, mv_l10, mv_l11, mv_l12, mv_l13, mv_l14, mr2, mr3, mr4, mr5, mr6, mr7, mr8, mr9, mr13, mr1_4, mr0_6, mr1_5, mr1_0, mr1_1, mr1_2, mr1_3, mr1_6, mr1_7, mw2, mw3, mw4, mw5, mw6, mw7, mw8, mw9, mw13, mw1_4, mw0_6, mw1_5, mw1_0, mw1_1, mw1_2, mw1_3, mw1_6, mw1_7, drow_o, drow_t, Option.bind_some, Bool.cond_decide, am_oI_some, am_oV_some, am_oI_ite, am_oV_ite, am_bind_ite, Int.toNat_natCast, Int.toNat_zero, Int.reduceToNat, ite_true, ite_false, not_true_eq_false, not_false_eq_true, decide_true, decide_false, decide_eq_true_eq, Bool.false_eq_true, Nat.add_zero, am_rok1_0, am_rok1_1, cond_true, cond_false, am_w_nat1, true_or, or_true, false_or, or_false, true_and, and_true, false_and, and_false, Int.reduceEq, Int.reduceNeg, Int.reduceLT, Int.reduceLE, or_self, and_self, if_pos, if_neg]
end MODC
