/-! ===== THE MODEL: what it does: the log, closing, finishing, resetting ===== -/
theorem dup_drow (A : Nat → Nat → Int) (r : Nat) (f : Nat → Int) (j : Nat) (x : Int) : dup (drow A r f) r j x = drow A r (va_up f j x) := by
  funext i
  unfold dup drow
  by_cases e : i = r
  · simp [e]
  · simp [e]
theorem drow_drow (A : Nat → Nat → Int) (r : Nat) (f g : Nat → Int) : drow (drow A r f) r g = drow A r g := by
  funext i
  unfold drow
  by_cases e : i = r
  · simp [e]
  · simp [e]
theorem drow_self (A : Nat → Nat → Int) (r : Nat) : drow A r (A r) = A := by
  funext i
  unfold drow
  by_cases e : i = r
  · simp [e]
  · simp [e]
theorem drow_dupc (A : Nat → Nat → Int) {r r' : Nat} (f : Nat → Int) (j : Nat) (x : Int) (hr : r ≠ r') : drow (dup A r j x) r' f = dup (drow A r' f) r j x := by
  funext i
  unfold dup drow
  by_cases e : i = r
  · simp [e, hr]
  · by_cases e' : i = r'
    · simp [e', Ne.symm hr]
    · simp [e, e']
def nsh (f : Nat → Int) : Nat → Int := if f 0 = 60 then (fun j => if j = 0 then 59 else if j ≤ 177 then f (j + 3) else f j) else f
def nts1 (A : Nat → Nat → Int) (n : Nat) (s z a : Int) : Nat → Nat → Int := dup (dup (dup (dup A 13 (1 + 3 * n) s) 13 (2 + 3 * n) z) 13 (3 + 3 * n) a) 13 0 ((n + 1 : Nat) : Int)
/-- a note in the log -/
def nts (A : Nat → Nat → Int) (s z a : Int) : Nat → Nat → Int := nts1 (drow A 13 (nsh (A 13))) (nsh (A 13) 0).toNat s z a
/-- the log's length -/
def LG (A : Nat → Nat → Int) : Prop := 0 ≤ A 13 0 ∧ A 13 0 ≤ 60
theorem nts1_o (A : Nat → Nat → Int) (n : Nat) (s z a : Int) {r : Nat} (hr : r ≠ 13) : nts1 A n s z a r = A r := by
  unfold nts1
  rw [dup_o _ _ _ hr, dup_o _ _ _ hr, dup_o _ _ _ hr, dup_o _ _ _ hr]
theorem nts_o (A : Nat → Nat → Int) (s z a : Int) {r : Nat} (hr : r ≠ 13) : nts A s z a r = A r := by
  unfold nts
  rw [nts1_o _ _ _ _ _ hr, drow_o _ _ hr]
theorem nts1_dup (A : Nat → Nat → Int) (n : Nat) (s z a : Int) {r : Nat} (j : Nat) (x : Int) (hr : r ≠ 13) : nts1 (dup A r j x) n s z a = dup (nts1 A n s z a) r j x := by
  unfold nts1
  rw [dup_comm A _ _ _ _ hr, dup_comm _ _ _ _ _ hr, dup_comm _ _ _ _ _ hr, dup_comm _ _ _ _ _ hr]
theorem nts_dup (A : Nat → Nat → Int) (s z a : Int) {r : Nat} (j : Nat) (x : Int) (hr : r ≠ 13) : nts (dup A r j x) s z a = dup (nts A s z a) r j x := by
  unfold nts
  rw [dup_o _ _ _ (Ne.symm hr), drow_dupc _ _ _ _ hr, nts1_dup _ _ _ _ _ _ _ hr]
theorem nsh_le {f : Nat → Int} (h : 0 ≤ f 0 ∧ f 0 ≤ 60) : 0 ≤ nsh f 0 ∧ nsh f 0 < 60 := by
  unfold nsh
  split
  · exact ⟨by show (0 : Int) ≤ 59; omega, by show (59 : Int) < 60; omega⟩
  · omega
theorem nts_LG {A : Nat → Nat → Int} (w : LG A) (s z a : Int) : LG (nts A s z a) := by
  have h := nsh_le w
  unfold LG nts nts1
  rw [dup_t, va_up_self]
  omega
theorem nte1 {n : Nat} (h : n < 61) : am_w (3 * (n : Int)) = ((3 * n : Nat) : Int) := by rw [am_w_id (by omega) (by omega)]; omega
theorem nte2 {n : Nat} (h : n < 61) : am_w (429 + ((3 * n : Nat) : Int)) = 428 + ((1 + 3 * n : Nat) : Int) := by rw [am_w_id (by omega) (by omega)]; omega
theorem nte3 {n : Nat} (h : n < 61) : am_w (428 + ((1 + 3 * n : Nat) : Int) + 1) = 428 + ((2 + 3 * n : Nat) : Int) := by rw [am_w_id (by omega) (by omega)]; omega
theorem nte4 {n : Nat} (h : n < 61) : am_w (428 + ((1 + 3 * n : Nat) : Int) + 2) = 428 + ((3 + 3 * n : Nat) : Int) := by rw [am_w_id (by omega) (by omega)]; omega
theorem nte5 {j : Nat} (h : j < 300) : am_w (428 + (j : Int)) = 428 + (j : Int) := by rw [am_w_id (by omega) (by omega)]
theorem nte6 {j : Nat} (h : j < 300) : am_w (428 + (j : Int) + 3) = 428 + ((j + 3 : Nat) : Int) := by rw [am_w_id (by omega) (by omega)]; omega
section MODB
variable {m c : Nat} {M A : Nat → Nat → Int} {h : am_H} {Z : Nat}
theorem mr13_0 (hc : 8 ≤ c ∧ c ≤ 11) : am_rd (mv m (drow M c (pack A)) h) (m + c) 0 428 = some (A 13 0) := mr13 hc (j := 0) (by omega)
theorem mw13_0 (hc : 8 ≤ c ∧ c ≤ 11) (x : Int) : am_wr (mv m (drow M c (pack A)) h) (m + c) 0 428 x = some (mv m (drow M c (pack (dup A 13 0 x))) h) := mw13 hc (j := 0) (by omega) x
theorem m_nt54 (hc : 8 ≤ c ∧ c ≤ 11) {n : Nat} (hn : n < 60) (h0 : A 13 0 = n) (s z a : Int) (v : am_V) : am_run am_ms 127 54 [am_R m, am_R (m + c), am_I s, am_I z, am_I a, v] [] (mv m (drow M c (pack A)) h) = some (none, mv m (drow M c (pack (nts1 A n s z a))) h) := by
  have q0 := fun (B : Nat → Nat → Int) => mr13_0 (m := m) (M := M) (A := B) (h := h) hc
  have q1 := fun (B : Nat → Nat → Int) (x : Int) => mw13_0 (m := m) (M := M) (A := B) (h := h) hc x
  have q2 := fun (B : Nat → Nat → Int) (j : Nat) (hj : j < 181) (x : Int) => mw13 (m := m) (M := M) (A := B) (h := h) hc (j := j) hj x
  unfold nts1
  simp (disch := omega) only [bk_127_54, bk_127_75, bk_127_93, q0, q1, q2, h0, nte1, nte2, nte3, nte4, dup_t, va_up_ne, Option.bind_some, Bool.cond_decide, am_oI_some, am_oV_some, am_oI_ite, am_oV_ite, am_bind_ite, Int.toNat_natCast, Int.toNat_zero, Int.reduceToNat, ite_true, ite_false, not_true_eq_false, not_false_eq_true, decide_true, decide_false, decide_eq_true_eq, Bool.false_eq_true, Nat.add_zero, am_rok1_0, am_rok1_1, cond_true, cond_false, am_w_nat1, true_or, or_true, false_or, or_false, true_and, and_true, false_and, and_false, Int.reduceEq, Int.reduceNeg, Int.reduceLT, Int.reduceLE, or_self, and_self]
theorem m_notes (hc : 8 ≤ c ∧ c ≤ 11) (w : LG A) (s z a : Int) : am_cV 127 [am_R m, am_R (m + c), am_I s, am_I z, am_I a] (mv m (drow M c (pack A)) h) = some (mv m (drow M c (pack (nts A s z a))) h) := by
  have q0 := mr13_0 (m := m) (M := M) (A := A) (h := h) hc
  unfold LG at w
  by_cases e : A 13 0 = 60
  · have step : ∀ k : Nat, k < 177 → am_run am_ms 127 13 [am_R m, am_R (m + c), am_I s, am_I z, am_I a, am_I ((k + 1 : Nat) : Int)] [] (mv m (drow M c (pack (drow A 13 (fun j => if 1 ≤ j ∧ j ≤ k then A 13 (j + 3) else A 13 j)))) h) = am_run am_ms 127 13 [am_R m, am_R (m + c), am_I s, am_I z, am_I a, am_I ((k + 1 + 1 : Nat) : Int)] [] (mv m (drow M c (pack (drow A 13 (fun j => if 1 ≤ j ∧ j ≤ k + 1 then A 13 (j + 3) else A 13 j)))) h) := by
      intro k hk
      have ef : va_up (fun j => if 1 ≤ j ∧ j ≤ k then A 13 (j + 3) else A 13 j) (k + 1) (A 13 (k + 1 + 3)) = (fun j => if 1 ≤ j ∧ j ≤ k + 1 then A 13 (j + 3) else A 13 j) := by
        funext j
        unfold va_up
        by_cases e1 : j = k + 1
        · rw [if_pos e1, if_pos (by omega), e1]
        · rw [if_neg e1]
          dsimp only
          by_cases e2 : 1 ≤ j ∧ j ≤ k
          · rw [if_pos e2, if_pos (by omega)]
          · rw [if_neg e2, if_neg (by omega)]
      have q3 := mr13 (m := m) (M := M) (A := drow A 13 (fun j => if 1 ≤ j ∧ j ≤ k then A 13 (j + 3) else A 13 j)) (h := h) hc (j := k + 1 + 3) (by omega)
      rw [drow_t, if_neg (by omega)] at q3
      have q4 := mw13 (m := m) (M := M) (A := drow A 13 (fun j => if 1 ≤ j ∧ j ≤ k then A 13 (j + 3) else A 13 j)) (h := h) hc (j := k + 1) (by omega) (A 13 (k + 1 + 3))
      rw [dup_drow, ef] at q4
      rw [bk_127_13]
      simp (disch := omega) only [bk_127_38, nte5, nte6, q3, q4, Option.bind_some, Bool.cond_decide, am_oI_some, am_oV_some, am_oI_ite, am_oV_ite, am_bind_ite, Int.toNat_natCast, Int.toNat_zero, Int.reduceToNat, ite_true, ite_false, not_true_eq_false, not_false_eq_true, decide_true, decide_false, decide_eq_true_eq, Bool.false_eq_true, Nat.add_zero, am_rok1_0, am_rok1_1, cond_true, cond_false, am_w_nat1, true_or, or_true, false_or, or_false, true_and, and_true, false_and, and_false, Int.reduceEq, Int.reduceNeg, Int.reduceLT, Int.reduceLE, or_self, and_self, if_neg]
    have key := loop_to (fun k : Nat => am_run am_ms 127 13 [am_R m, am_R (m + c), am_I s, am_I z, am_I a, am_I ((k + 1 : Nat) : Int)] [] (mv m (drow M c (pack (drow A 13 (fun j => if 1 ≤ j ∧ j ≤ k then A 13 (j + 3) else A 13 j)))) h)) 177 step
    have e0 : drow A 13 (fun j => if 1 ≤ j ∧ j ≤ 0 then A 13 (j + 3) else A 13 j) = A := by
      rw [show (fun j => if 1 ≤ j ∧ j ≤ 0 then A 13 (j + 3) else A 13 j) = A 13 from funext (fun j => if_neg (by omega)), drow_self]
    have key' : am_run am_ms 127 13 [am_R m, am_R (m + c), am_I s, am_I z, am_I a, am_I 1] [] (mv m (drow M c (pack A)) h) = am_run am_ms 127 13 [am_R m, am_R (m + c), am_I s, am_I z, am_I a, am_I 178] [] (mv m (drow M c (pack (drow A 13 (fun j => if 1 ≤ j ∧ j ≤ 177 then A 13 (j + 3) else A 13 j)))) h) := by
      have k2 := key
      rw [e0] at k2
      exact k2
    have ef : va_up (fun j => if 1 ≤ j ∧ j ≤ 177 then A 13 (j + 3) else A 13 j) 0 59 = nsh (A 13) := by
      unfold nsh
      rw [if_pos e]
      funext j
      unfold va_up
      by_cases e1 : j = 0
      · rw [if_pos e1, if_pos e1]
      · rw [if_neg e1, if_neg e1]
        dsimp only
        by_cases e2 : j ≤ 177
        · rw [if_pos (by omega), if_pos e2]
        · rw [if_neg (by omega), if_neg e2]
    have q3 := mr13_0 (m := m) (M := M) (A := drow A 13 (fun j => if 1 ≤ j ∧ j ≤ 177 then A 13 (j + 3) else A 13 j)) (h := h) hc
    rw [drow_t, if_neg (by omega), e] at q3
    have q4 := mw13_0 (m := m) (M := M) (A := drow A 13 (fun j => if 1 ≤ j ∧ j ≤ 177 then A 13 (j + 3) else A 13 j)) (h := h) hc 59
    rw [dup_drow, ef] at q4
    have h59 : nsh (A 13) 0 = ((59 : Nat) : Int) := by unfold nsh; rw [if_pos e]; rfl
    have q5 := m_nt54 (m := m) (M := M) (A := drow A 13 (nsh (A 13))) (h := h) hc (n := 59) (by omega) (by rw [drow_t, h59]) s z a (am_I 178)
    unfold nts
    rw [h59, Int.toNat_natCast]
    rw [am_cV, en_127, bk_127_0, q0, e]
    simp (disch := omega) only [Option.bind_some, Bool.cond_decide, am_oI_some, am_oV_some, am_oI_ite, am_oV_ite, am_bind_ite, Int.toNat_natCast, Int.toNat_zero, Int.reduceToNat, ite_true, ite_false, not_true_eq_false, not_false_eq_true, decide_true, decide_false, decide_eq_true_eq, Bool.false_eq_true, Nat.add_zero, am_rok1_0, am_rok1_1, cond_true, cond_false, am_w_nat1, true_or, or_true, false_or, or_false, true_and, and_true, false_and, and_false, Int.reduceEq, Int.reduceNeg, Int.reduceLT, Int.reduceLE, or_self, and_self]
    rw [key', bk_127_13]
    have e59 : am_w (60 - 1) = 59 := rfl
    simp (disch := omega) only [bk_127_45, q3, q4, q5, e59, Option.bind_some, Bool.cond_decide, am_oI_some, am_oV_some, am_oI_ite, am_oV_ite, am_bind_ite, Int.toNat_natCast, Int.toNat_zero, Int.reduceToNat, ite_true, ite_false, not_true_eq_false, not_false_eq_true, decide_true, decide_false, decide_eq_true_eq, Bool.false_eq_true, Nat.add_zero, am_rok1_0, am_rok1_1, cond_true, cond_false, am_w_nat1, true_or, or_true, false_or, or_false, true_and, and_true, false_and, and_false, Int.reduceEq, Int.reduceNeg, Int.reduceLT, Int.reduceLE, or_self, and_self, if_pos]
  · obtain ⟨n, hn⟩ : ∃ n : Nat, A 13 0 = n := ⟨(A 13 0).toNat, by omega⟩
    have en : nsh (A 13) = A 13 := by unfold nsh; rw [if_neg e]
    have q5 := m_nt54 (m := m) (M := M) (A := A) (h := h) hc (n := n) (by omega) hn s z a (am_K 1)
    unfold nts
    rw [en, drow_self, hn, Int.toNat_natCast]
    rw [am_cV, en_127, bk_127_0, q0]
    simp (disch := omega) only [q5, Option.bind_some, Bool.cond_decide, am_oI_some, am_oV_some, am_oI_ite, am_oV_ite, am_bind_ite, Int.toNat_natCast, Int.toNat_zero, Int.reduceToNat, ite_true, ite_false, not_true_eq_false, not_false_eq_true, decide_true, decide_false, decide_eq_true_eq, Bool.false_eq_true, Nat.add_zero, am_rok1_0, am_rok1_1, cond_true, cond_false, am_w_nat1, true_or, or_true, false_or, or_false, true_and, and_true, false_and, and_false, Int.reduceEq, Int.reduceNeg, Int.reduceLT, Int.reduceLE, or_self, and_self, if_pos]
end MODB
def m_cl (A : Nat → Nat → Int) (z : Nat) : Nat → Nat → Int := nts (dup A 2 z (if A 3 z = 0 then 0 else 2)) 5 z (A 3 z)
def m_fi (A : Nat → Nat → Int) (z : Nat) : Nat → Nat → Int := nts (dup A 2 z 3) 3 z (A 3 z)
def rs6 (A : Nat → Nat → Int) (z : Nat) (n : Nat) : Nat → Int := fun s => if s < n ∧ A 6 s = z then -1 else A 6 s
def m_em1 (A : Nat → Nat → Int) (z : Nat) : Nat → Nat → Int := drow (dup (dup (dup A 2 z 0) 3 z 0) 4 z (am_w (A 4 z + 1))) 6 (rs6 A z 3)
def m_em (A : Nat → Nat → Int) (z : Nat) : Nat → Nat → Int := nts (m_em1 A z) 2 z (am_w (A 4 z + 1))
section MODB2
variable {m c : Nat} {M A : Nat → Nat → Int} {h : am_H} {Z : Nat}
theorem m_closes (hc : 8 ≤ c ∧ c ≤ 11) (w : LG A) {z : Nat} (hz : z < 8) : am_cV 130 [am_R m, am_R (m + c), am_I z] (mv m (drow M c (pack A)) h) = some (mv m (drow M c (pack (m_cl A z))) h) := by
  have c1 := m_notes (m := m) (M := M) (h := h) hc w 5 z (A 3 z)
  have e3 : nts A 5 z (A 3 z) 3 = A 3 := nts_o _ _ _ _ (by omega)
  unfold m_cl
  rw [nts_dup _ _ _ _ _ _ (by omega)]
  by_cases e : A 3 z = 0
  · rw [e] at c1 e3 ⊢
    rw [am_cV]; simp (disch := omega) only [en_130, bk_130_0, bk_130_17, bk_130_30, bk_130_31, c1, e3, e, am_w_id, mv_c0, mv_f0_0, mv_f0_1, mv_f0_2, mv_f0_3, mv_f0_4, mv_f0_5, mv_f0_6, mv_f0_7, mv_f0_8, mv_f0_9, mv_f0_10, mv_f0_11, mv_f0_12, mv_f0_13, mv_f0_14, mv_f0_15, mv_f0_16, mv_f0_17, mv_f0_18, mv_f0_19, mv_f0_20, mv_f0_21, mv_f0_22, mv_f0_23, mv_f0_24, mv_f0_25, mv_f0_26, mv_f0_27, mv_f0_28, mv_f0_29, mv_f0_30, mv_r1, mv_r2, mv_r3, mv_r4, mv_r5, mv_r6, mv_r7, mv_r8, mv_r9, mv_r10, mv_r11, mv_r12, mv_r13, mv_r14, mv_l1, mv_l2, mv_l3, mv_l4, mv_l5, mv_l6, mv_l7, mv_l8, mv_l9, mv_l10, mv_l11, mv_l12, mv_l13, mv_l14, mr2, mr3, mr4, mr5, mr6, mr7, mr8, mr9, mr13, mr1_4, mr0_6, mr1_5, mr1_0, mr1_1, mr1_2, mr1_3, mr1_6, mr1_7, mw2, mw3, mw4, mw5, mw6, mw7, mw8, mw9, mw13, mw1_4, mw0_6, mw1_5, mw1_0, mw1_1, mw1_2, mw1_3, mw1_6, mw1_7, drow_o, drow_t, Option.bind_some, Bool.cond_decide, am_oI_some, am_oV_some, am_oI_ite, am_oV_ite, am_bind_ite, Int.toNat_natCast, Int.toNat_zero, Int.reduceToNat, ite_true, ite_false, not_true_eq_false, not_false_eq_true, decide_true, decide_false, decide_eq_true_eq, Bool.false_eq_true, Nat.add_zero, am_rok1_0, am_rok1_1, cond_true, cond_false, am_w_nat1, true_or, or_true, false_or, or_false, true_and, and_true, false_and, and_false, Int.reduceEq, Int.reduceNeg, Int.reduceLT, Int.reduceLE, or_self, and_self, if_pos, if_neg]
  · rw [am_cV]; simp (disch := omega) only [en_130, bk_130_0, bk_130_17, bk_130_30, bk_130_31, c1, e3, e, am_w_id, mv_c0, mv_f0_0, mv_f0_1, mv_f0_2, mv_f0_3, mv_f0_4, mv_f0_5, mv_f0_6, mv_f0_7, mv_f0_8, mv_f0_9, mv_f0_10, mv_f0_11, mv_f0_12, mv_f0_13, mv_f0_14, mv_f0_15, mv_f0_16, mv_f0_17, mv_f0_18, mv_f0_19, mv_f0_20, mv_f0_21, mv_f0_22, mv_f0_23, mv_f0_24, mv_f0_25, mv_f0_26, mv_f0_27, mv_f0_28, mv_f0_29, mv_f0_30, mv_r1, mv_r2, mv_r3, mv_r4, mv_r5, mv_r6, mv_r7, mv_r8, mv_r9, mv_r10, mv_r11, mv_r12, mv_r13, mv_r14, mv_l1, mv_l2, mv_l3, mv_l4, mv_l5, mv_l6, mv_l7, mv_l8, mv_l9, mv_l10, mv_l11, mv_l12, mv_l13, mv_l14, mr2, mr3, mr4, mr5, mr6, mr7, mr8, mr9, mr13, mr1_4, mr0_6, mr1_5, mr1_0, mr1_1, mr1_2, mr1_3, mr1_6, mr1_7, mw2, mw3, mw4, mw5, mw6, mw7, mw8, mw9, mw13, mw1_4, mw0_6, mw1_5, mw1_0, mw1_1, mw1_2, mw1_3, mw1_6, mw1_7, drow_o, drow_t, Option.bind_some, Bool.cond_decide, am_oI_some, am_oV_some, am_oI_ite, am_oV_ite, am_bind_ite, Int.toNat_natCast, Int.toNat_zero, Int.reduceToNat, ite_true, ite_false, not_true_eq_false, not_false_eq_true, decide_true, decide_false, decide_eq_true_eq, Bool.false_eq_true, Nat.add_zero, am_rok1_0, am_rok1_1, cond_true, cond_false, am_w_nat1, true_or, or_true, false_or, or_false, true_and, and_true, false_and, and_false, Int.reduceEq, Int.reduceNeg, Int.reduceLT, Int.reduceLE, or_self, and_self, if_pos, if_neg]
theorem m_finishes (hc : 8 ≤ c ∧ c ≤ 11) (w : LG A) {z : Nat} (hz : z < 8) : am_cV 128 [am_R m, am_R (m + c), am_I z] (mv m (drow M c (pack A)) h) = some (mv m (drow M c (pack (m_fi A z))) h) := by
  have c1 := m_notes (m := m) (M := M) (h := h) hc w 3 z (A 3 z)
  unfold m_fi
  rw [nts_dup _ _ _ _ _ _ (by omega)]
  rw [am_cV]; simp (disch := omega) only [en_128, bk_128_0, bk_128_17, c1, am_w_id, mv_c0, mv_f0_0, mv_f0_1, mv_f0_2, mv_f0_3, mv_f0_4, mv_f0_5, mv_f0_6, mv_f0_7, mv_f0_8, mv_f0_9, mv_f0_10, mv_f0_11, mv_f0_12, mv_f0_13, mv_f0_14, mv_f0_15, mv_f0_16, mv_f0_17, mv_f0_18, mv_f0_19, mv_f0_20, mv_f0_21, mv_f0_22, mv_f0_23, mv_f0_24, mv_f0_25, mv_f0_26, mv_f0_27, mv_f0_28, mv_f0_29, mv_f0_30, mv_r1, mv_r2, mv_r3, mv_r4, mv_r5, mv_r6, mv_r7, mv_r8, mv_r9, mv_r10, mv_r11, mv_r12, mv_r13, mv_r14, mv_l1, mv_l2, mv_l3, mv_l4, mv_l5, mv_l6, mv_l7, mv_l8, mv_l9, mv_l10, mv_l11, mv_l12, mv_l13, mv_l14, mr2, mr3, mr4, mr5, mr6, mr7, mr8, mr9, mr13, mr1_4, mr0_6, mr1_5, mr1_0, mr1_1, mr1_2, mr1_3, mr1_6, mr1_7, mw2, mw3, mw4, mw5, mw6, mw7, mw8, mw9, mw13, mw1_4, mw0_6, mw1_5, mw1_0, mw1_1, mw1_2, mw1_3, mw1_6, mw1_7, drow_o, drow_t, Option.bind_some, Bool.cond_decide, am_oI_some, am_oV_some, am_oI_ite, am_oV_ite, am_bind_ite, Int.toNat_natCast, Int.toNat_zero, Int.reduceToNat, ite_true, ite_false, not_true_eq_false, not_false_eq_true, decide_true, decide_false, decide_eq_true_eq, Bool.false_eq_true, Nat.add_zero, am_rok1_0, am_rok1_1, cond_true, cond_false, am_w_nat1, true_or, or_true, false_or, or_false, true_and, and_true, false_and, and_false, Int.reduceEq, Int.reduceNeg, Int.reduceLT, Int.reduceLE, or_self, and_self, if_pos, if_neg]
theorem m_resets (hc : 8 ≤ c ∧ c ≤ 11) (w : LG A) {z : Nat} (hz : z < 8) : am_cV 133 [am_R m, am_R (m + c), am_I z] (mv m (drow M c (pack A)) h) = some (mv m (drow M c (pack (m_em A z))) h) := by
  have step : ∀ s : Nat, s < 3 → am_run am_ms 133 25 [am_R m, am_R (m + c), am_I z, am_I s] [] (mv m (drow M c (pack (drow (dup (dup (dup A 2 z 0) 3 z 0) 4 z (am_w (A 4 z + 1))) 6 (rs6 A z s)))) h) = am_run am_ms 133 25 [am_R m, am_R (m + c), am_I z, am_I ((s + 1 : Nat) : Int)] [] (mv m (drow M c (pack (drow (dup (dup (dup A 2 z 0) 3 z 0) 4 z (am_w (A 4 z + 1))) 6 (rs6 A z (s + 1))))) h) := by
    intro s hs
    have er : rs6 A z s s = A 6 s := if_neg (by omega)
    rw [bk_133_25]
    by_cases e : A 6 s = z
    · have ef : va_up (rs6 A z s) s (-1) = rs6 A z (s + 1) := by
        funext j
        unfold va_up rs6
        by_cases e1 : j = s
        · rw [if_pos e1, if_pos ⟨by omega, by rw [e1]; exact e⟩]
        · rw [if_neg e1]
          by_cases e2 : j < s ∧ A 6 j = z
          · rw [if_pos e2, if_pos ⟨by omega, e2.2⟩]
          · rw [if_neg e2, if_neg (by omega)]
      simp (disch := omega) only [bk_133_16, bk_133_47, bk_133_49, bk_133_55, er, e, dup_drow, ef, am_w_id, mv_c0, mv_f0_0, mv_f0_1, mv_f0_2, mv_f0_3, mv_f0_4, mv_f0_5, mv_f0_6, mv_f0_7, mv_f0_8, mv_f0_9, mv_f0_10, mv_f0_11, mv_f0_12, mv_f0_13, mv_f0_14, mv_f0_15, mv_f0_16, mv_f0_17, mv_f0_18, mv_f0_19, mv_f0_20, mv_f0_21, mv_f0_22, mv_f0_23, mv_f0_24, mv_f0_25, mv_f0_26, mv_f0_27, mv_f0_28, mv_f0_29, mv_f0_30, mv_r1, mv_r2, mv_r3, mv_r4, mv_r5, mv_r6, mv_r7, mv_r8, mv_r9, mv_r10, mv_r11, mv_r12, mv_r13, mv_r14, mv_l1, mv_l2, mv_l3, mv_l4, mv_l5, mv_l6, mv_l7, mv_l8, mv_l9, mv_l10, mv_l11, mv_l12, mv_l13, mv_l14, mr2, mr3, mr4, mr5, mr6, mr7, mr8, mr9, mr13, mr1_4, mr0_6, mr1_5, mr1_0, mr1_1, mr1_2, mr1_3, mr1_6, mr1_7, mw2, mw3, mw4, mw5, mw6, mw7, mw8, mw9, mw13, mw1_4, mw0_6, mw1_5, mw1_0, mw1_1, mw1_2, mw1_3, mw1_6, mw1_7, drow_o, drow_t, Option.bind_some, Bool.cond_decide, am_oI_some, am_oV_some, am_oI_ite, am_oV_ite, am_bind_ite, Int.toNat_natCast, Int.toNat_zero, Int.reduceToNat, ite_true, ite_false, not_true_eq_false, not_false_eq_true, decide_true, decide_false, decide_eq_true_eq, Bool.false_eq_true, Nat.add_zero, am_rok1_0, am_rok1_1, cond_true, cond_false, am_w_nat1, true_or, or_true, false_or, or_false, true_and, and_true, false_and, and_false, Int.reduceEq, Int.reduceNeg, Int.reduceLT, Int.reduceLE, or_self, and_self, if_pos, if_neg] <;> rfl
    · have ef : rs6 A z (s + 1) = rs6 A z s := by
        funext j
        unfold rs6
        by_cases e1 : j = s
        · rw [if_neg (fun q => e (by rw [← e1]; exact q.2)), if_neg (by omega)]
        · by_cases e2 : j < s ∧ A 6 j = z
          · rw [if_pos e2, if_pos ⟨by omega, e2.2⟩]
          · rw [if_neg e2, if_neg (by omega)]
      rw [ef]
      simp (disch := omega) only [bk_133_16, bk_133_47, bk_133_49, bk_133_55, er, e, am_w_id, mv_c0, mv_f0_0, mv_f0_1, mv_f0_2, mv_f0_3, mv_f0_4, mv_f0_5, mv_f0_6, mv_f0_7, mv_f0_8, mv_f0_9, mv_f0_10, mv_f0_11, mv_f0_12, mv_f0_13, mv_f0_14, mv_f0_15, mv_f0_16, mv_f0_17, mv_f0_18, mv_f0_19, mv_f0_20, mv_f0_21, mv_f0_22, mv_f0_23, mv_f0_24, mv_f0_25, mv_f0_26, mv_f0_27, mv_f0_28, mv_f0_29, mv_f0_30, mv_r1, mv_r2, mv_r3, mv_r4, mv_r5, mv_r6, mv_r7, mv_r8, mv_r9, mv_r10, mv_r11, mv_r12, mv_r13, mv_r14, mv_l1, mv_l2, mv_l3, mv_l4, mv_l5, mv_l6, mv_l7, mv_l8, mv_l9, mv_l10, mv_l11, mv_l12, mv_l13, mv_l14, mr2, mr3, mr4, mr5, mr6, mr7, mr8, mr9, mr13, mr1_4, mr0_6, mr1_5, mr1_0, mr1_1, mr1_2, mr1_3, mr1_6, mr1_7, mw2, mw3, mw4, mw5, mw6, mw7, mw8, mw9, mw13, mw1_4, mw0_6, mw1_5, mw1_0, mw1_1, mw1_2, mw1_3, mw1_6, mw1_7, drow_o, drow_t, Option.bind_some, Bool.cond_decide, am_oI_some, am_oV_some, am_oI_ite, am_oV_ite, am_bind_ite, Int.toNat_natCast, Int.toNat_zero, Int.reduceToNat, ite_true, ite_false, not_true_eq_false, not_false_eq_true, decide_true, decide_false, decide_eq_true_eq, Bool.false_eq_true, Nat.add_zero, am_rok1_0, am_rok1_1, cond_true, cond_false, am_w_nat1, true_or, or_true, false_or, or_false, true_and, and_true, false_and, and_false, Int.reduceEq, Int.reduceNeg, Int.reduceLT, Int.reduceLE, or_self, and_self, if_pos, if_neg] <;> rfl
  have key := loop_to (fun s : Nat => am_run am_ms 133 25 [am_R m, am_R (m + c), am_I z, am_I s] [] (mv m (drow M c (pack (drow (dup (dup (dup A 2 z 0) 3 z 0) 4 z (am_w (A 4 z + 1))) 6 (rs6 A z s)))) h)) 3 step
  have e0 : drow (dup (dup (dup A 2 z 0) 3 z 0) 4 z (am_w (A 4 z + 1))) 6 (rs6 A z 0) = dup (dup (dup A 2 z 0) 3 z 0) 4 z (am_w (A 4 z + 1)) := by
    rw [show rs6 A z 0 = dup (dup (dup A 2 z 0) 3 z 0) 4 z (am_w (A 4 z + 1)) 6 by rw [dup_o _ _ _ (by omega), dup_o _ _ _ (by omega), dup_o _ _ _ (by omega)]; exact funext (fun j => if_neg (by omega)), drow_self]
  have key' : am_run am_ms 133 25 [am_R m, am_R (m + c), am_I z, am_I 0] [] (mv m (drow M c (pack (dup (dup (dup A 2 z 0) 3 z 0) 4 z (am_w (A 4 z + 1))))) h) = am_run am_ms 133 25 [am_R m, am_R (m + c), am_I z, am_I 3] [] (mv m (drow M c (pack (m_em1 A z))) h) := by
    have k2 := key
    rw [e0] at k2
    exact k2
  have e13 : m_em1 A z 13 = A 13 := by unfold m_em1; rw [drow_o _ _ (by omega), dup_o _ _ _ (by omega), dup_o _ _ _ (by omega), dup_o _ _ _ (by omega)]
  have e4 : m_em1 A z 4 z = am_w (A 4 z + 1) := by unfold m_em1; rw [drow_o _ _ (by omega), dup_t, va_up_self]
  have c1 := m_notes (m := m) (M := M) (A := m_em1 A z) (h := h) hc (by unfold LG; rw [e13]; exact w) 2 z (am_w (A 4 z + 1))
  unfold m_em
  rw [am_cV, en_133, bk_133_0]
  simp (disch := omega) only [bk_133_16, dup_o, dup_t, va_up_self, va_up_ne, am_w_id, mv_c0, mv_f0_0, mv_f0_1, mv_f0_2, mv_f0_3, mv_f0_4, mv_f0_5, mv_f0_6, mv_f0_7, mv_f0_8, mv_f0_9, mv_f0_10, mv_f0_11, mv_f0_12, mv_f0_13, mv_f0_14, mv_f0_15, mv_f0_16, mv_f0_17, mv_f0_18, mv_f0_19, mv_f0_20, mv_f0_21, mv_f0_22, mv_f0_23, mv_f0_24, mv_f0_25, mv_f0_26, mv_f0_27, mv_f0_28, mv_f0_29, mv_f0_30, mv_r1, mv_r2, mv_r3, mv_r4, mv_r5, mv_r6, mv_r7, mv_r8, mv_r9, mv_r10, mv_r11, mv_r12, mv_r13, mv_r14, mv_l1, mv_l2, mv_l3, mv_l4, mv_l5, mv_l6, mv_l7, mv_l8, mv_l9, mv_l10, mv_l11, mv_l12, mv_l13, mv_l14, mr2, mr3, mr4, mr5, mr6, mr7, mr8, mr9, mr13, mr1_4, mr0_6, mr1_5, mr1_0, mr1_1, mr1_2, mr1_3, mr1_6, mr1_7, mw2, mw3, mw4, mw5, mw6, mw7, mw8, mw9, mw13, mw1_4, mw0_6, mw1_5, mw1_0, mw1_1, mw1_2, mw1_3, mw1_6, mw1_7, drow_o, drow_t, Option.bind_some, Bool.cond_decide, am_oI_some, am_oV_some, am_oI_ite, am_oV_ite, am_bind_ite, Int.toNat_natCast, Int.toNat_zero, Int.reduceToNat, ite_true, ite_false, not_true_eq_false, not_false_eq_true, decide_true, decide_false, decide_eq_true_eq, Bool.false_eq_true, Nat.add_zero, am_rok1_0, am_rok1_1, cond_true, cond_false, am_w_nat1, true_or, or_true, false_or, or_false, true_and, and_true, false_and, and_false, Int.reduceEq, Int.reduceNeg, Int.reduceLT, Int.reduceLE, or_self, and_self, if_pos, if_neg]
  rw [key', bk_133_25]
  simp (disch := omega) only [bk_133_55, e4, c1, am_w_id, mv_c0, mv_f0_0, mv_f0_1, mv_f0_2, mv_f0_3, mv_f0_4, mv_f0_5, mv_f0_6, mv_f0_7, mv_f0_8, mv_f0_9, mv_f0_10, mv_f0_11, mv_f0_12, mv_f0_13, mv_f0_14, mv_f0_15, mv_f0_16, mv_f0_17, mv_f0_18, mv_f0_19, mv_f0_20, mv_f0_21, mv_f0_22, mv_f0_23, mv_f0_24, mv_f0_25, mv_f0_26, mv_f0_27, mv_f0_28, mv_f0_29, mv_f0_30, mv_r1, mv_r2, mv_r3, mv_r4, mv_r5, mv_r6, mv_r7, mv_r8, mv_r9, mv_r10, mv_r11, mv_r12, mv_r13, mv_r14, mv_l1, mv_l2, mv_l3, mv_l4, mv_l5, mv_l6, mv_l7, mv_l8, mv_l9, mv_l10, mv_l11, mv_l12, mv_l13, mv_l14, mr2, mr3, mr4, mr5, mr6, mr7, mr8, mr9, mr13, mr1_4, mr0_6, mr1_5, mr1_0, mr1_1, mr1_2, mr1_3, mr1_6, mr1_7, mw2, mw3, mw4, mw5, mw6, mw7, mw8, mw9, mw13, mw1_4, mw0_6, mw1_5, mw1_0, mw1_1, mw1_2, mw1_3, mw1_6, mw1_7, drow_o, drow_t, Option.bind_some, Bool.cond_decide, am_oI_some, am_oV_some, am_oI_ite, am_oV_ite, am_bind_ite, Int.toNat_natCast, Int.toNat_zero, Int.reduceToNat, ite_true, ite_false, not_true_eq_false, not_false_eq_true, decide_true, decide_false, decide_eq_true_eq, Bool.false_eq_true, Nat.add_zero, am_rok1_0, am_rok1_1, cond_true, cond_false, am_w_nat1, true_or, or_true, false_or, or_false, true_and, and_true, false_and, and_false, Int.reduceEq, Int.reduceNeg, Int.reduceLT, Int.reduceLE, or_self, and_self, if_pos, if_neg]
end MODB2
