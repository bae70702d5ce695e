/-! ===== THE MODEL: cleaning ===== -/
/-- the model's other rows, but for scratch: spare (10), live (13), what came (0 27, 0 28) -/
def ME (M M' : Nat → Nat → Int) : Prop := (∀ r, r ≠ 0 → r ≠ 10 → r ≠ 13 → M' r = M r) ∧ ∀ j, j ≠ 27 → j ≠ 28 → M' 0 j = M 0 j
theorem ME_refl (M : Nat → Nat → Int) : ME M M := ⟨fun _ _ _ _ => rfl, fun _ _ _ => rfl⟩
theorem ME_trans {M M' M'' : Nat → Nat → Int} (a : ME M M') (b : ME M' M'') : ME M M'' := ⟨fun r h0 h1 h2 => (b.1 r h0 h1 h2).trans (a.1 r h0 h1 h2), fun j h1 h2 => (b.2 j h1 h2).trans (a.2 j h1 h2)⟩
theorem ME_row (M : Nat → Nat → Int) {r : Nat} (hr : r = 10 ∨ r = 13) (f : Nat → Int) : ME M (drow M r f) := ⟨fun q _ _ _ => drow_o _ _ (by omega), fun j _ _ => by rw [drow_o _ _ (by omega)]⟩
theorem ME_MR {M M' A : Nat → Nat → Int} (a : ME M M') (w : MR M A) : MR M' A := by
  unfold MR at w ⊢
  rw [a.1 3 (by omega) (by omega) (by omega), a.2 23 (by omega) (by omega), a.2 24 (by omega) (by omega), a.2 25 (by omega) (by omega)]
  exact w
def lvc (A : Nat → Nat → Int) (Z z : Nat) : Nat → Nat := cnt (fun i => ml_live A Z (16 * z + i))
def lvs (A : Nat → Nat → Int) (Z z : Nat) (L : Nat → Int) : Nat → Nat → Int
  | 0 => L
  | i + 1 => if ml_live A Z (16 * z + i) = true then va_up (lvs A Z z L i) (lvc A Z z i) ((16 * z + i : Nat) : Int) else lvs A Z z L i
theorem lvc_succ (A : Nat → Nat → Int) (Z z i : Nat) : lvc A Z z (i + 1) = lvc A Z z i + if ml_live A Z (16 * z + i) = true then 1 else 0 := rfl
theorem lvc_mono (A : Nat → Nat → Int) (Z z i : Nat) : ∀ j, lvc A Z z i ≤ lvc A Z z (i + j) := by
  intro j
  induction j with
  | zero => exact Nat.le_refl _
  | succ j ih => rw [← Nat.add_assoc, lvc_succ]; omega
theorem lvs_at {A : Nat → Nat → Int} {Z z : Nat} {L : Nat → Int} {i : Nat} (h : ml_live A Z (16 * z + i) = true) : ∀ j, lvs A Z z L (i + 1 + j) (lvc A Z z i) = ((16 * z + i : Nat) : Int) := by
  intro j
  induction j with
  | zero => show lvs A Z z L (i + 1) _ = _; unfold lvs; rw [if_pos h, va_up_self]
  | succ j ih =>
    show lvs A Z z L ((i + 1 + j) + 1) _ = _
    unfold lvs
    split
    · have h1 := lvc_mono A Z z (i + 1) j
      rw [lvc_succ, if_pos h] at h1
      rw [va_up_ne _ _ (by omega), ih]
    · exact ih
/-- what lives is moved, the most of it -/
def mms (A : Nat → Nat → Int) (Z z most : Nat) : Nat → Nat → Nat → Int
  | 0 => A
  | i + 1 => if ml_live A Z (16 * z + i) = true ∧ lvc A Z z i < most then m_at (mms A Z z most i) Z (A 0 4 - 1).toNat (mms A Z z most i 7 (16 * z + i)) (mms A Z z most i 8 (16 * z + i)) (mms A Z z most i 9 (16 * z + i)) 1 else mms A Z z most i
theorem m_ap_o (A : Nat → Nat → Int) (z : Nat) (key val num : Int) (sort : Nat) {r : Nat} (h : r = 0 ∨ r = 4 ∨ r = 6) : m_ap A z key val num sort r = A r := by
  unfold m_ap
  rw [nts_o _ _ _ _ (by omega), dup_o _ _ _ (by omega), o_ap3_o _ _ _ _ _ (by omega), o_ap2_o _ _ _ _ _ (by omega), o_ap1_o _ _ _ _ _ (by omega)]
theorem m_at_0 (A : Nat → Nat → Int) (Z s : Nat) (key val num : Int) (sort : Nat) : m_at A Z s key val num sort 0 = A 0 := by
  unfold m_at
  rw [m_ap_o _ _ _ _ _ _ (by omega), m_at2_o _ _ _ (by omega) (by omega) (by omega), m_at1_o _ _ _ (by omega) (by omega) (by omega) (by omega)]
theorem mms_0 (A : Nat → Nat → Int) (Z z most : Nat) : ∀ i, mms A Z z most i 0 = A 0 := by
  intro i
  induction i with
  | zero => rfl
  | succ i ih =>
    unfold mms
    split
    · rw [m_at_0, ih]
    · exact ih
theorem m_ap_LG {A : Nat → Nat → Int} (w : LG A) (z : Nat) (key val num : Int) (sort : Nat) : LG (m_ap A z key val num sort) := by
  unfold m_ap
  exact nts_LG (LG_of w (by by_cases e : sort = 13 <;> rw [dup_o _ _ _ (by omega), o_ap3_o _ _ _ _ _ (by omega), o_ap2_o _ _ _ _ _ (by omega), o_ap1_o _ _ _ _ _ (by omega)])) _ _ _
theorem m_at_LG {A : Nat → Nat → Int} (w : LG A) (Z s : Nat) (key val num : Int) (sort : Nat) : LG (m_at A Z s key val num sort) := by
  unfold m_at
  exact m_ap_LG (m_at2_LG (m_at1_LG w Z s) _ _) _ _ _ _ _
theorem mms_LG {A : Nat → Nat → Int} (w : LG A) (Z z most : Nat) : ∀ i, LG (mms A Z z most i) := by
  intro i
  induction i with
  | zero => exact w
  | succ i ih =>
    unfold mms
    split
    · exact m_at_LG ih _ _ _ _ _ _
    · exact ih
/-- what the moves need -/
def MP (A : Nat → Nat → Int) (Z z most : Nat) : Prop := ∀ i, ((i : Nat) : Int) < A 3 z → ml_live A Z (16 * z + i) = true → lvc A Z z i < most → AP (mms A Z z most i) Z (A 0 4 - 1).toNat
theorem dup_drow_o (M : Nat → Nat → Int) {r r' : Nat} (f : Nat → Int) (j : Nat) (x : Int) (hr : r ≠ r') : dup (drow M r' f) r j x = drow (dup M r j x) r' f := (drow_dupc _ _ _ _ hr).symm
section MODD
variable {m c : Nat} {M A : Nat → Nat → Int} {h : am_H} {Z : Nat}
theorem m_collect (hc : 8 ≤ c ∧ c ≤ 11) (hr : MR M A) (w : AW A Z) {z P : Nat} (hz : z < Z) (hP : A 3 z = P) (most : Int) : am_run am_ms 134 18 [am_R m, am_R (m + c), am_I most, am_I z, am_I 0, am_I 0, am_K 1, am_K 1] [] (mv m (drow M c (pack A)) h) = am_run am_ms 134 18 [am_R m, am_R (m + c), am_I most, am_I z, am_I (lvc A Z z P), am_I P, am_K 1, am_K 1] [] (mv m (drow (drow M 13 (lvs A Z z (M 13) P)) c (pack A)) h) := by
  have hZ8 := w.2.1
  have h3 := w.2.2.2.2.1 z (by omega)
  have step : ∀ i : Nat, i < P → am_run am_ms 134 18 [am_R m, am_R (m + c), am_I most, am_I z, am_I (lvc A Z z i), am_I i, am_K 1, am_K 1] [] (mv m (drow (drow M 13 (lvs A Z z (M 13) i)) c (pack A)) h) = am_run am_ms 134 18 [am_R m, am_R (m + c), am_I most, am_I z, am_I (lvc A Z z (i + 1)), am_I ((i + 1 : Nat) : Int), am_K 1, am_K 1] [] (mv m (drow (drow M 13 (lvs A Z z (M 13) (i + 1))) c (pack A)) h) := by
    intro i hi
    have hb : lvc A Z z i ≤ i := cnt_le _ _
    have c1 := m_isLive (m := m) (h := h) hc (ME_MR (ME_row M (r := 13) (by omega) (lvs A Z z (M 13) i)) hr) w (p := 16 * z + i) (by omega)
    have ew : (16 : Int) * (z : Int) + (i : Int) = ((16 * z + i : Nat) : Int) := by omega
    rw [bk_134_18, lvc_succ]
    show _ = am_run am_ms 134 18 [am_R m, am_R (m + c), am_I most, am_I z, am_I _, am_I ((i + 1 : Nat) : Int), am_K 1, am_K 1] [] (mv m (drow (drow M 13 (if ml_live A Z (16 * z + i) = true then va_up (lvs A Z z (M 13) i) (lvc A Z z i) ((16 * z + i : Nat) : Int) else lvs A Z z (M 13) i)) c (pack A)) h)
    cases e : ml_live A Z (16 * z + i) with
    | false =>
      rw [e] at c1
      simp (disch := omega) only [bk_134_38, bk_134_64, hP, ew, c1, am_w_id, mv_c0, mv_f0_0, mv_f0_1, mv_f0_2, mv_f0_3, mv_f0_4, mv_f0_5, mv_f0_6, mv_f0_7, mv_f0_8, mv_f0_9, mv_f0_10, mv_f0_11, mv_f0_12, mv_f0_13, mv_f0_14, mv_f0_15, mv_f0_16, mv_f0_17, mv_f0_18, mv_f0_19, mv_f0_20, mv_f0_21, mv_f0_22, mv_f0_23, mv_f0_24, mv_f0_25, mv_f0_26, mv_f0_27, mv_f0_28, mv_f0_29, mv_f0_30, mv_r1, mv_r2, mv_r3, mv_r4, mv_r5, mv_r6, mv_r7, mv_r8, mv_r9, mv_r10, mv_r11, mv_r12, mv_r13, mv_r14, mv_l1, mv_l2, mv_l3, mv_l4, mv_l5, mv_l6, mv_l7, mv_l8, mv_l9, mv_l10, mv_l11, mv_l12, mv_l13, mv_l14, mr2, mr3, mr4, mr5, mr6, mr7, mr8, mr9, mr13, mr1_4, mr0_6, mr1_5, mr1_0, mr1_1, mr1_2, mr1_3, mr1_6, mr1_7, mw2, mw3, mw4, mw5, mw6, mw7, mw8, mw9, mw13, mw1_4, mw0_6, mw1_5, mw1_0, mw1_1, mw1_2, mw1_3, mw1_6, mw1_7, drow_o, drow_t, Option.bind_some, Bool.cond_decide, am_oI_some, am_oV_some, am_oI_ite, am_oV_ite, am_bind_ite, Int.toNat_natCast, Int.toNat_zero, Int.reduceToNat, ite_true, ite_false, not_true_eq_false, not_false_eq_true, decide_true, decide_false, decide_eq_true_eq, Bool.false_eq_true, Nat.add_zero, am_rok1_0, am_rok1_1, cond_true, cond_false, am_w_nat1, true_or, or_true, false_or, or_false, true_and, and_true, false_and, and_false, Int.reduceEq, Int.reduceNeg, Int.reduceLT, Int.reduceLE, or_self, and_self, if_pos, if_neg] <;> rfl
    | true =>
      rw [e] at c1
      have q := mv_w13 (m := m) (M := drow (drow M 13 (lvs A Z z (M 13) i)) c (pack A)) (h := h) (j := (lvc A Z z i : Int)) ((16 * z + i : Nat) : Int) (by omega) (by omega)
      rw [Int.toNat_natCast, dup_drow_o _ _ _ _ (by omega), dup_drow] at q
      simp (disch := omega) only [bk_134_38, bk_134_47, bk_134_64, hP, ew, c1, q, am_w_id, mv_c0, mv_f0_0, mv_f0_1, mv_f0_2, mv_f0_3, mv_f0_4, mv_f0_5, mv_f0_6, mv_f0_7, mv_f0_8, mv_f0_9, mv_f0_10, mv_f0_11, mv_f0_12, mv_f0_13, mv_f0_14, mv_f0_15, mv_f0_16, mv_f0_17, mv_f0_18, mv_f0_19, mv_f0_20, mv_f0_21, mv_f0_22, mv_f0_23, mv_f0_24, mv_f0_25, mv_f0_26, mv_f0_27, mv_f0_28, mv_f0_29, mv_f0_30, mv_r1, mv_r2, mv_r3, mv_r4, mv_r5, mv_r6, mv_r7, mv_r8, mv_r9, mv_r10, mv_r11, mv_r12, mv_r13, mv_r14, mv_l1, mv_l2, mv_l3, mv_l4, mv_l5, mv_l6, mv_l7, mv_l8, mv_l9, mv_l10, mv_l11, mv_l12, mv_l13, mv_l14, mr2, mr3, mr4, mr5, mr6, mr7, mr8, mr9, mr13, mr1_4, mr0_6, mr1_5, mr1_0, mr1_1, mr1_2, mr1_3, mr1_6, mr1_7, mw2, mw3, mw4, mw5, mw6, mw7, mw8, mw9, mw13, mw1_4, mw0_6, mw1_5, mw1_0, mw1_1, mw1_2, mw1_3, mw1_6, mw1_7, drow_o, drow_t, Option.bind_some, Bool.cond_decide, am_oI_some, am_oV_some, am_oI_ite, am_oV_ite, am_bind_ite, Int.toNat_natCast, Int.toNat_zero, Int.reduceToNat, ite_true, ite_false, not_true_eq_false, not_false_eq_true, decide_true, decide_false, decide_eq_true_eq, Bool.false_eq_true, Nat.add_zero, am_rok1_0, am_rok1_1, cond_true, cond_false, am_w_nat1, true_or, or_true, false_or, or_false, true_and, and_true, false_and, and_false, Int.reduceEq, Int.reduceNeg, Int.reduceLT, Int.reduceLE, or_self, and_self, if_pos, if_neg] <;> rfl
  have key := loop_to (fun i : Nat => am_run am_ms 134 18 [am_R m, am_R (m + c), am_I most, am_I z, am_I (lvc A Z z i), am_I i, am_K 1, am_K 1] [] (mv m (drow (drow M 13 (lvs A Z z (M 13) i)) c (pack A)) h)) P step
  have e0 : drow M 13 (lvs A Z z (M 13) 0) = M := drow_self M 13
  rw [e0] at key
  exact key
theorem m_move (hc : 8 ≤ c ∧ c ≤ 11) (hr : MR M A) (w : AW A Z) {z P : Nat} (hz : z < Z) (hP : A 3 z = P) (h04 : 0 < A 0 4) {most : Nat} (hm : most < 1000) (hM : ∀ i, i < P → ml_live A Z (16 * z + i) = true → M 13 (lvc A Z z i) = ((16 * z + i : Nat) : Int)) (mp : MP A Z z most) (v : am_V × am_V) : ∃ v' : am_V × am_V, am_run am_ms 134 73 [am_R m, am_R (m + c), am_I most, am_I z, am_I (lvc A Z z P), am_I 0, v.1, v.2] [] (mv m (drow M c (pack A)) h) = am_run am_ms 134 73 [am_R m, am_R (m + c), am_I most, am_I z, am_I (lvc A Z z P), am_I ((min (lvc A Z z P) most : Nat) : Int), v'.1, v'.2] [] (mv m (drow M c (pack (mms A Z z most P))) h) := by
  have hZ8 := w.2.1
  have h3 := w.2.2.2.2.1 z (by omega)
  have h4 := w.2.2.2.1
  have r4 := hr.2.2.2.2.1
  obtain ⟨S, hS⟩ : ∃ S : Nat, A 0 4 = ((S + 1 : Nat) : Int) := ⟨(A 0 4 - 1).toNat, by omega⟩
  have eS : (A 0 4 - 1).toNat = S := by omega
  have ewS : am_w (((S + 1 : Nat) : Int) - 1) = (S : Int) := by rw [am_w_id (by omega) (by omega)]; omega
  have step : ∀ (i : Nat) (v : am_V × am_V), i < P → ∃ v' : am_V × am_V, am_run am_ms 134 73 [am_R m, am_R (m + c), am_I most, am_I z, am_I (lvc A Z z P), am_I ((min (lvc A Z z i) most : Nat) : Int), v.1, v.2] [] (mv m (drow M c (pack (mms A Z z most i))) h) = am_run am_ms 134 73 [am_R m, am_R (m + c), am_I most, am_I z, am_I (lvc A Z z P), am_I ((min (lvc A Z z (i + 1)) most : Nat) : Int), v'.1, v'.2] [] (mv m (drow M c (pack (mms A Z z most (i + 1)))) h) := by
    intro i v hi
    by_cases e : ml_live A Z (16 * z + i) = true ∧ lvc A Z z i < most
    · have e1 : mms A Z z most (i + 1) = m_at (mms A Z z most i) Z S (mms A Z z most i 7 (16 * z + i)) (mms A Z z most i 8 (16 * z + i)) (mms A Z z most i 9 (16 * z + i)) 1 := by
        show (if ml_live A Z (16 * z + i) = true ∧ lvc A Z z i < most then _ else _) = _
        rw [if_pos e, eS]
      have ap := mp i (by omega) e.1 e.2
      rw [eS] at ap
      have c1 : ∀ k v n : Int, am_cI 132 [am_R m, am_R (m + c), am_I S, am_I k, am_I v, am_I n, am_I 1] (mv m (drow M c (pack (mms A Z z most i))) h) = some (mv_at (mms A Z z most i) Z S, mv m (drow M c (pack (m_at (mms A Z z most i) Z S k v n 1))) h) := fun (k v n : Int) => m_appendsTo (m := m) (h := h) hc (MR_of hr (mms_0 A Z z most i)) ap k v n (sort := 1) (by omega)
      have hl := lvc_mono A Z z (i + 1) (P - (i + 1))
      rw [show i + 1 + (P - (i + 1)) = P by omega, lvc_succ, if_pos e.1] at hl
      have hP16 : lvc A Z z P ≤ P := cnt_le _ _
      have hrd := hM i hi e.1
      rw [lvc_succ, if_pos e.1, e1, show min (lvc A Z z i) most = lvc A Z z i by omega, show min (lvc A Z z i + 1) most = lvc A Z z i + 1 by omega]
      have q := mv_r13 (m := m) (M := drow M c (pack (mms A Z z most i))) (h := h) (j := (lvc A Z z i : Int)) (by omega) (by omega)
      rw [drow_o _ _ (by omega), Int.toNat_natCast, hrd] at q
      generalize mms A Z z most i = B at c1 q ⊢
      refine ⟨(am_I ((16 * z + i : Nat) : Int), am_I (mv_at B Z S)), ?_⟩
      rw [bk_134_73]
      simp (disch := omega) only [bk_134_98, bk_134_119, q, r4, hS, ewS, c1, am_w_id, mv_c0, mv_f0_0, mv_f0_1, mv_f0_2, mv_f0_3, mv_f0_4, mv_f0_5, mv_f0_6, mv_f0_7, mv_f0_8, mv_f0_9, mv_f0_10, mv_f0_11, mv_f0_12, mv_f0_13, mv_f0_14, mv_f0_15, mv_f0_16, mv_f0_17, mv_f0_18, mv_f0_19, mv_f0_20, mv_f0_21, mv_f0_22, mv_f0_23, mv_f0_24, mv_f0_25, mv_f0_26, mv_f0_27, mv_f0_28, mv_f0_29, mv_f0_30, mv_r1, mv_r2, mv_r3, mv_r4, mv_r5, mv_r6, mv_r7, mv_r8, mv_r9, mv_r10, mv_r11, mv_r12, mv_r13, mv_r14, mv_l1, mv_l2, mv_l3, mv_l4, mv_l5, mv_l6, mv_l7, mv_l8, mv_l9, mv_l10, mv_l11, mv_l12, mv_l13, mv_l14, mr2, mr3, mr4, mr5, mr6, mr7, mr8, mr9, mr13, mr1_4, mr0_6, mr1_5, mr1_0, mr1_1, mr1_2, mr1_3, mr1_6, mr1_7, mw2, mw3, mw4, mw5, mw6, mw7, mw8, mw9, mw13, mw1_4, mw0_6, mw1_5, mw1_0, mw1_1, mw1_2, mw1_3, mw1_6, mw1_7, drow_o, drow_t, Option.bind_some, Bool.cond_decide, am_oI_some, am_oV_some, am_oI_ite, am_oV_ite, am_bind_ite, Int.toNat_natCast, Int.toNat_zero, Int.reduceToNat, ite_true, ite_false, not_true_eq_false, not_false_eq_true, decide_true, decide_false, decide_eq_true_eq, Bool.false_eq_true, Nat.add_zero, am_rok1_0, am_rok1_1, cond_true, cond_false, am_w_nat1, true_or, or_true, false_or, or_false, true_and, and_true, false_and, and_false, Int.reduceEq, Int.reduceNeg, Int.reduceLT, Int.reduceLE, or_self, and_self, if_pos, if_neg] <;> rfl
    · have e1 : mms A Z z most (i + 1) = mms A Z z most i := by
        show (if ml_live A Z (16 * z + i) = true ∧ lvc A Z z i < most then _ else _) = _
        rw [if_neg e]
      refine ⟨v, ?_⟩
      rw [e1, lvc_succ]
      by_cases e2 : ml_live A Z (16 * z + i) = true
      · have e3 : ¬ lvc A Z z i < most := fun q => e ⟨e2, q⟩
        rw [if_pos e2, show min (lvc A Z z i + 1) most = min (lvc A Z z i) most by omega]
      · rw [if_neg e2]; rfl
  have key := loop_v (fun (i : Nat) (v : am_V × am_V) => am_run am_ms 134 73 [am_R m, am_R (m + c), am_I most, am_I z, am_I (lvc A Z z P), am_I ((min (lvc A Z z i) most : Nat) : Int), v.1, v.2] [] (mv m (drow M c (pack (mms A Z z most i))) h)) P step v
  obtain ⟨v', k⟩ := key
  refine ⟨v', ?_⟩
  have k' : am_run am_ms 134 73 [am_R m, am_R (m + c), am_I most, am_I z, am_I (lvc A Z z P), am_I ((min 0 most : Nat) : Int), v.1, v.2] [] (mv m (drow M c (pack A)) h) = am_run am_ms 134 73 [am_R m, am_R (m + c), am_I most, am_I z, am_I (lvc A Z z P), am_I ((min (lvc A Z z P) most : Nat) : Int), v'.1, v'.2] [] (mv m (drow M c (pack (mms A Z z most P))) h) := k
  rw [show min 0 most = 0 by omega] at k'
  exact k'
/-- cleaning: the zone that is taken, the moves, the reset -/
def mcl1 (A : Nat → Nat → Int) (Z z most : Nat) : Nat → Nat → Int := mms A Z z most (A 3 z).toNat
def mcl2 (A : Nat → Nat → Int) (z : Nat) : Nat → Nat → Int := dup (m_em A z) 1 2 (am_w (A 1 2 + 1))
theorem m_em_o (A : Nat → Nat → Int) (z : Nat) {r : Nat} (h : r ≠ 2 ∧ r ≠ 3 ∧ r ≠ 4 ∧ r ≠ 6 ∧ r ≠ 13) : m_em A z r = A r := by
  unfold m_em m_em1
  rw [nts_o _ _ _ _ (by omega), drow_o _ _ (by omega), dup_o _ _ _ (by omega), dup_o _ _ _ (by omega), dup_o _ _ _ (by omega)]
theorem m_cleans (hc : 8 ≤ c ∧ c ≤ 11) (hr : MR M A) (w : AW A Z) (lg : LG A) (hcap : 0 < A 0 1) (h04 : 0 < A 0 4) {z most : Nat} (hz : ml_tk A Z (A 0 6) 0 Z = z) (hm : most < 1000) (mp : MP A Z z most) : ∃ L, am_cI 134 [am_R m, am_R (m + c), am_I most] (mv m (drow M c (pack A)) h) = some ((ml_nl A Z z : Int), mv m (drow (drow M 13 L) c (pack (if most < 17 then mcl1 A Z z most else mcl2 (mcl1 A Z z most) z))) h) := by
  have hZ8 := w.2.1
  have hb := ml_tk_le A Z (A 0 6) 0 Z
  have hzZ : z < Z := by omega
  have h3 := w.2.2.2.2.1 z (by omega)
  obtain ⟨P, hP⟩ : ∃ P : Nat, A 3 z = P := ⟨(A 3 z).toNat, by omega⟩
  have c1 := m_takes (m := m) (h := h) hc hr w hcap (A 0 6) 0
  rw [hz] at c1
  have hM' := ME_row M (r := 13) (by omega) (lvs A Z z (M 13) P)
  refine ⟨lvs A Z z (M 13) P, ?_⟩
  have k1 := m_collect (m := m) (h := h) hc hr w hzZ hP most
  obtain ⟨v', k2⟩ := m_move (m := m) (h := h) (M := drow M 13 (lvs A Z z (M 13) P)) hc (ME_MR hM' hr) w hzZ hP h04 hm (by
    intro i hi hl
    rw [drow_t]
    have := lvs_at (L := M 13) hl (P - (i + 1))
    rw [show i + 1 + (P - (i + 1)) = P by omega] at this
    exact this) mp (am_K 1, am_K 1)
  have hnl : ml_nl A Z z = lvc A Z z P := by unfold ml_nl lvc; rw [hP, Int.toNat_natCast]
  have em : mcl1 A Z z most = mms A Z z most P := by unfold mcl1; rw [hP, Int.toNat_natCast]
  rw [hnl, em]
  have lgB := mms_LG lg Z z most P
  generalize hB : mms A Z z most P = B at k2 lgB ⊢
  generalize drow M 13 (lvs A Z z (M 13) P) = M1 at k1 k2 ⊢
  have hP16 : lvc A Z z P ≤ P := cnt_le _ _
  generalize lvc A Z z P = n at k1 k2 hP16 ⊢
  clear hr hM' hB lg mp hnl em hz hb
  rw [am_cI, en_134, bk_134_0]
  simp (disch := omega) only [c1, am_w_id, mv_c0, mv_f0_0, mv_f0_1, mv_f0_2, mv_f0_3, mv_f0_4, mv_f0_5, mv_f0_6, mv_f0_7, mv_f0_8, mv_f0_9, mv_f0_10, mv_f0_11, mv_f0_12, mv_f0_13, mv_f0_14, mv_f0_15, mv_f0_16, mv_f0_17, mv_f0_18, mv_f0_19, mv_f0_20, mv_f0_21, mv_f0_22, mv_f0_23, mv_f0_24, mv_f0_25, mv_f0_26, mv_f0_27, mv_f0_28, mv_f0_29, mv_f0_30, mv_r1, mv_r2, mv_r3, mv_r4, mv_r5, mv_r6, mv_r7, mv_r8, mv_r9, mv_r10, mv_r11, mv_r12, mv_r13, mv_r14, mv_l1, mv_l2, mv_l3, mv_l4, mv_l5, mv_l6, mv_l7, mv_l8, mv_l9, mv_l10, mv_l11, mv_l12, mv_l13, mv_l14, mr2, mr3, mr4, mr5, mr6, mr7, mr8, mr9, mr13, mr1_4, mr0_6, mr1_5, mr1_0, mr1_1, mr1_2, mr1_3, mr1_6, mr1_7, mw2, mw3, mw4, mw5, mw6, mw7, mw8, mw9, mw13, mw1_4, mw0_6, mw1_5, mw1_0, mw1_1, mw1_2, mw1_3, mw1_6, mw1_7, drow_o, drow_t, Option.bind_some, Bool.cond_decide, am_oI_some, am_oV_some, am_oI_ite, am_oV_ite, am_bind_ite, Int.toNat_natCast, Int.toNat_zero, Int.reduceToNat, ite_true, ite_false, not_true_eq_false, not_false_eq_true, decide_true, decide_false, decide_eq_true_eq, Bool.false_eq_true, Nat.add_zero, am_rok1_0, am_rok1_1, cond_true, cond_false, am_w_nat1, true_or, or_true, false_or, or_false, true_and, and_true, false_and, and_false, Int.reduceEq, Int.reduceNeg, Int.reduceLT, Int.reduceLE, or_self, and_self, if_pos, if_neg]
  rw [k1, bk_134_18]
  simp (disch := omega) only [bk_134_70, hP, am_w_id, mv_c0, mv_f0_0, mv_f0_1, mv_f0_2, mv_f0_3, mv_f0_4, mv_f0_5, mv_f0_6, mv_f0_7, mv_f0_8, mv_f0_9, mv_f0_10, mv_f0_11, mv_f0_12, mv_f0_13, mv_f0_14, mv_f0_15, mv_f0_16, mv_f0_17, mv_f0_18, mv_f0_19, mv_f0_20, mv_f0_21, mv_f0_22, mv_f0_23, mv_f0_24, mv_f0_25, mv_f0_26, mv_f0_27, mv_f0_28, mv_f0_29, mv_f0_30, mv_r1, mv_r2, mv_r3, mv_r4, mv_r5, mv_r6, mv_r7, mv_r8, mv_r9, mv_r10, mv_r11, mv_r12, mv_r13, mv_r14, mv_l1, mv_l2, mv_l3, mv_l4, mv_l5, mv_l6, mv_l7, mv_l8, mv_l9, mv_l10, mv_l11, mv_l12, mv_l13, mv_l14, mr2, mr3, mr4, mr5, mr6, mr7, mr8, mr9, mr13, mr1_4, mr0_6, mr1_5, mr1_0, mr1_1, mr1_2, mr1_3, mr1_6, mr1_7, mw2, mw3, mw4, mw5, mw6, mw7, mw8, mw9, mw13, mw1_4, mw0_6, mw1_5, mw1_0, mw1_1, mw1_2, mw1_3, mw1_6, mw1_7, drow_o, drow_t, Option.bind_some, Bool.cond_decide, am_oI_some, am_oV_some, am_oI_ite, am_oV_ite, am_bind_ite, Int.toNat_natCast, Int.toNat_zero, Int.reduceToNat, ite_true, ite_false, not_true_eq_false, not_false_eq_true, decide_true, decide_false, decide_eq_true_eq, Bool.false_eq_true, Nat.add_zero, am_rok1_0, am_rok1_1, cond_true, cond_false, am_w_nat1, true_or, or_true, false_or, or_false, true_and, and_true, false_and, and_false, Int.reduceEq, Int.reduceNeg, Int.reduceLT, Int.reduceLE, or_self, and_self, if_pos, if_neg]
  rw [k2, bk_134_73]
  by_cases e1 : n ≤ most
  · rw [show min n most = n by omega]
    by_cases e2 : most < 17
    · rw [if_pos e2]
      simp (disch := omega) only [bk_134_138, am_w_id, mv_c0, mv_f0_0, mv_f0_1, mv_f0_2, mv_f0_3, mv_f0_4, mv_f0_5, mv_f0_6, mv_f0_7, mv_f0_8, mv_f0_9, mv_f0_10, mv_f0_11, mv_f0_12, mv_f0_13, mv_f0_14, mv_f0_15, mv_f0_16, mv_f0_17, mv_f0_18, mv_f0_19, mv_f0_20, mv_f0_21, mv_f0_22, mv_f0_23, mv_f0_24, mv_f0_25, mv_f0_26, mv_f0_27, mv_f0_28, mv_f0_29, mv_f0_30, mv_r1, mv_r2, mv_r3, mv_r4, mv_r5, mv_r6, mv_r7, mv_r8, mv_r9, mv_r10, mv_r11, mv_r12, mv_r13, mv_r14, mv_l1, mv_l2, mv_l3, mv_l4, mv_l5, mv_l6, mv_l7, mv_l8, mv_l9, mv_l10, mv_l11, mv_l12, mv_l13, mv_l14, mr2, mr3, mr4, mr5, mr6, mr7, mr8, mr9, mr13, mr1_4, mr0_6, mr1_5, mr1_0, mr1_1, mr1_2, mr1_3, mr1_6, mr1_7, mw2, mw3, mw4, mw5, mw6, mw7, mw8, mw9, mw13, mw1_4, mw0_6, mw1_5, mw1_0, mw1_1, mw1_2, mw1_3, mw1_6, mw1_7, drow_o, drow_t, Option.bind_some, Bool.cond_decide, am_oI_some, am_oV_some, am_oI_ite, am_oV_ite, am_bind_ite, Int.toNat_natCast, Int.toNat_zero, Int.reduceToNat, ite_true, ite_false, not_true_eq_false, not_false_eq_true, decide_true, decide_false, decide_eq_true_eq, Bool.false_eq_true, Nat.add_zero, am_rok1_0, am_rok1_1, cond_true, cond_false, am_w_nat1, true_or, or_true, false_or, or_false, true_and, and_true, false_and, and_false, Int.reduceEq, Int.reduceNeg, Int.reduceLT, Int.reduceLE, or_self, and_self, if_pos, if_neg]
    · rw [if_neg e2]
      have c3 := m_resets (m := m) (M := M1) (h := h) hc lgB (z := z) (by omega)
      have e12 : m_em B z 1 = B 1 := m_em_o _ _ (by omega)
      unfold mcl2
      simp (disch := omega) only [bk_134_138, bk_134_147, c3, e12, am_w_id, mv_c0, mv_f0_0, mv_f0_1, mv_f0_2, mv_f0_3, mv_f0_4, mv_f0_5, mv_f0_6, mv_f0_7, mv_f0_8, mv_f0_9, mv_f0_10, mv_f0_11, mv_f0_12, mv_f0_13, mv_f0_14, mv_f0_15, mv_f0_16, mv_f0_17, mv_f0_18, mv_f0_19, mv_f0_20, mv_f0_21, mv_f0_22, mv_f0_23, mv_f0_24, mv_f0_25, mv_f0_26, mv_f0_27, mv_f0_28, mv_f0_29, mv_f0_30, mv_r1, mv_r2, mv_r3, mv_r4, mv_r5, mv_r6, mv_r7, mv_r8, mv_r9, mv_r10, mv_r11, mv_r12, mv_r13, mv_r14, mv_l1, mv_l2, mv_l3, mv_l4, mv_l5, mv_l6, mv_l7, mv_l8, mv_l9, mv_l10, mv_l11, mv_l12, mv_l13, mv_l14, mr2, mr3, mr4, mr5, mr6, mr7, mr8, mr9, mr13, mr1_4, mr0_6, mr1_5, mr1_0, mr1_1, mr1_2, mr1_3, mr1_6, mr1_7, mw2, mw3, mw4, mw5, mw6, mw7, mw8, mw9, mw13, mw1_4, mw0_6, mw1_5, mw1_0, mw1_1, mw1_2, mw1_3, mw1_6, mw1_7, drow_o, drow_t, Option.bind_some, Bool.cond_decide, am_oI_some, am_oV_some, am_oI_ite, am_oV_ite, am_bind_ite, Int.toNat_natCast, Int.toNat_zero, Int.reduceToNat, ite_true, ite_false, not_true_eq_false, not_false_eq_true, decide_true, decide_false, decide_eq_true_eq, Bool.false_eq_true, Nat.add_zero, am_rok1_0, am_rok1_1, cond_true, cond_false, am_w_nat1, true_or, or_true, false_or, or_false, true_and, and_true, false_and, and_false, Int.reduceEq, Int.reduceNeg, Int.reduceLT, Int.reduceLE, or_self, and_self, if_pos, if_neg]
  · rw [show min n most = most by omega]
    rw [if_pos (by omega)]
    simp (disch := omega) only [bk_134_138, am_w_id, mv_c0, mv_f0_0, mv_f0_1, mv_f0_2, mv_f0_3, mv_f0_4, mv_f0_5, mv_f0_6, mv_f0_7, mv_f0_8, mv_f0_9, mv_f0_10, mv_f0_11, mv_f0_12, mv_f0_13, mv_f0_14, mv_f0_15, mv_f0_16, mv_f0_17, mv_f0_18, mv_f0_19, mv_f0_20, mv_f0_21, mv_f0_22, mv_f0_23, mv_f0_24, mv_f0_25, mv_f0_26, mv_f0_27, mv_f0_28, mv_f0_29, mv_f0_30, mv_r1, mv_r2, mv_r3, mv_r4, mv_r5, mv_r6, mv_r7, mv_r8, mv_r9, mv_r10, mv_r11, mv_r12, mv_r13, mv_r14, mv_l1, mv_l2, mv_l3, mv_l4, mv_l5, mv_l6, mv_l7, mv_l8, mv_l9, mv_l10, mv_l11, mv_l12, mv_l13, mv_l14, mr2, mr3, mr4, mr5, mr6, mr7, mr8, mr9, mr13, mr1_4, mr0_6, mr1_5, mr1_0, mr1_1, mr1_2, mr1_3, mr1_6, mr1_7, mw2, mw3, mw4, mw5, mw6, mw7, mw8, mw9, mw13, mw1_4, mw0_6, mw1_5, mw1_0, mw1_1, mw1_2, mw1_3, mw1_6, mw1_7, drow_o, drow_t, Option.bind_some, Bool.cond_decide, am_oI_some, am_oV_some, am_oI_ite, am_oV_ite, am_bind_ite, Int.toNat_natCast, Int.toNat_zero, Int.reduceToNat, ite_true, ite_false, not_true_eq_false, not_false_eq_true, decide_true, decide_false, decide_eq_true_eq, Bool.false_eq_true, Nat.add_zero, am_rok1_0, am_rok1_1, cond_true, cond_false, am_w_nat1, true_or, or_true, false_or, or_false, true_and, and_true, false_and, and_false, Int.reduceEq, Int.reduceNeg, Int.reduceLT, Int.reduceLE, or_self, and_self, if_pos, if_neg]
end MODD
