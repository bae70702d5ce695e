/-! ===== what the class's drive does: the log, what is learnt ===== -/
theorem dup_t (D : Nat → Nat → Int) (k j : Nat) (x : Int) : dup D k j x k = va_up (D k) j x := if_pos rfl
theorem dup_o (D : Nat → Nat → Int) {k i : Nat} (j : Nat) (x : Int) (h : i ≠ k) : dup D k j x i = D i := if_neg h
theorem drow_t (D : Nat → Nat → Int) (k : Nat) (f : Nat → Int) : drow D k f k = f := if_pos rfl
theorem drow_o (D : Nat → Nat → Int) {k i : Nat} (f : Nat → Int) (h : i ≠ k) : drow D k f i = D i := if_neg h
theorem dup_self (D : Nat → Nat → Int) (k j : Nat) : dup D k j (D k j) = D := by
  funext i n
  unfold dup
  split
  · rename_i e
    subst e
    unfold va_up
    split
    · rename_i e2; rw [e2]
    · rfl
  · rfl
theorem dup_dup (D : Nat → Nat → Int) (k j : Nat) (x y : Int) : dup (dup D k j x) k j y = dup D k j y := by
  funext i n
  unfold dup va_up
  by_cases e : i = k
  · by_cases e2 : n = j
    · simp [e, e2]
    · simp [e, e2]
  · simp [e]
theorem dup_comm (D : Nat → Nat → Int) {k k' : Nat} (j j' : Nat) (x y : Int) (hk : k ≠ k') : dup (dup D k j x) k' j' y = dup (dup D k' j' y) k j x := by
  funext i n
  unfold dup
  by_cases e : i = k
  · have e' : ¬ i = k' := fun q => hk (e.symm.trans q)
    simp [e, e', hk]
  · by_cases e' : i = k'
    · simp [e', Ne.symm hk]
    · simp [e, e']
theorem dup_comm2 (D : Nat → Nat → Int) (k : Nat) {j j' : Nat} (x y : Int) (hk : j ≠ j') : dup (dup D k j x) k j' y = dup (dup D k j' y) k j x := by
  funext i n
  unfold dup va_up
  by_cases e : i = k
  · by_cases e1 : n = j
    · have e2 : ¬ n = j' := fun q => hk (e1.symm.trans q)
      simp [e, e1, hk]
    · simp [e, e1]
  · simp [e]
/-- Arrays.fill -/
theorem d_fill {d : Nat} {h : am_H} {a r n : Nat} {x : Int} (hn : n < 200) (hl : ∀ D, am_len (dv d D h) a = some (n : Int)) (hw : ∀ D (i : Nat), i < n → am_wr (dv d D h) a 0 i x = some (dv d (dup D r i x) h)) (D : Nat → Nat → Int) : am_cV 62 [am_R a, am_I x] (dv d D h) = some (dv d (drow D r (fun j => if j < n then x else D r j)) h) := by
  have step : ∀ i, i < n → am_run am_ms 62 5 [am_R a, am_I x, am_I i, am_I n] [] (dv d (drow D r (fun j => if j < i then x else D r j)) h) = am_run am_ms 62 5 [am_R a, am_I x, am_I ((i + 1 : Nat) : Int), am_I n] [] (dv d (drow D r (fun j => if j < i + 1 then x else D r j)) h) := by
    intro i hi
    have e : dup (drow D r (fun j => if j < i then x else D r j)) r i x = drow D r (fun j => if j < i + 1 then x else D r j) := by
      funext k j
      unfold dup drow va_up
      by_cases e : k = r
      · by_cases e1 : j = i
        · simp [e, e1]
        · by_cases e2 : j < i
          · simp [e, e1, e2, show j < i + 1 by omega]
          · simp [e, e1, e2, show ¬ j < i + 1 by omega]
      · simp [e]
    rw [bk_62_5, hw _ i hi, e]
    simp (disch := omega) only [Option.bind_some, Bool.cond_decide, am_oI_some, am_oV_some, am_oI_ite, am_oV_ite, am_bind_ite, Int.toNat_natCast, Int.toNat_zero, Int.reduceToNat, ite_true, ite_false, not_true_eq_false, not_false_eq_true, decide_true, decide_false, decide_eq_true_eq, Bool.false_eq_true, Nat.add_zero, am_rok1_0, am_rok1_1, cond_true, cond_false, am_w_nat1, true_or, or_true, false_or, or_false, true_and, and_true, false_and, and_false, Int.reduceEq, Int.reduceNeg, Int.reduceLT, Int.reduceLE, or_self, and_self, if_neg]
  have e0 : drow D r (fun j => if j < 0 then x else D r j) = D := by
    funext k j
    unfold drow
    by_cases e : k = r
    · simp [e]
    · simp [e]
  have key := loop_to (fun i : Nat => am_run am_ms 62 5 [am_R a, am_I x, am_I i, am_I n] [] (dv d (drow D r (fun j => if j < i then x else D r j)) h)) n step
  have key' : am_run am_ms 62 5 [am_R a, am_I x, am_I 0, am_I n] [] (dv d D h) = am_run am_ms 62 5 [am_R a, am_I x, am_I n, am_I n] [] (dv d (drow D r (fun j => if j < n then x else D r j)) h) := by
    have := key
    simp only [e0] at this
    exact this
  rw [am_cV, en_62, bk_62_0, hl, Option.bind_some, key', bk_62_5]
  simp (disch := omega) only [bk_62_20, Option.bind_some, Bool.cond_decide, am_oI_some, am_oV_some, am_oI_ite, am_oV_ite, am_bind_ite, Int.toNat_natCast, Int.toNat_zero, Int.reduceToNat, ite_true, ite_false, not_true_eq_false, not_false_eq_true, decide_true, decide_false, decide_eq_true_eq, Bool.false_eq_true, Nat.add_zero, am_rok1_0, am_rok1_1, cond_true, cond_false, am_w_nat1, true_or, or_true, false_or, or_false, true_and, and_true, false_and, and_false, Int.reduceEq, Int.reduceNeg, Int.reduceLT, Int.reduceLE, or_self, and_self, if_pos]
theorem d_len {d : Nat} {D : Nat → Nat → Int} {h : am_H} {i n : Nat} {f : Nat → Int} (hi : i < 18) (hc : dvc d D i = am_ar 0 n f) (hn : n < 1000000) : am_len (dv d D h) (d + i) = some (n : Int) := by
  unfold am_len
  rw [dv_in d D h hi, hc]
  exact if_pos hn
/-- a row filled, as far as it goes -/
def fl (n : Nat) (x : Int) (f : Nat → Int) : Nat → Int := fun j => if j < n then x else f j
section FILL
variable {d : Nat} {h : am_H} (D : Nat → Nat → Int) (x : Int)
theorem d_fill1 : am_cV 62 [am_R (d + 2), am_I x] (dv d D h) = some (dv d (drow D 1 (fl 8 x (D 1))) h) := d_fill (by omega) (fun D => d_len (by omega) rfl (by omega)) (fun D i hi => (dv_w1 d D h x (by omega) (by omega)).trans (by rw [Int.toNat_natCast])) D
theorem d_fill2 : am_cV 62 [am_R (d + 3), am_I x] (dv d D h) = some (dv d (drow D 2 (fl 8 x (D 2))) h) := d_fill (by omega) (fun D => d_len (by omega) rfl (by omega)) (fun D i hi => (dv_w2 d D h x (by omega) (by omega)).trans (by rw [Int.toNat_natCast])) D
theorem d_fill3 : am_cV 62 [am_R (d + 4), am_I x] (dv d D h) = some (dv d (drow D 3 (fl 8 x (D 3))) h) := d_fill (by omega) (fun D => d_len (by omega) rfl (by omega)) (fun D i hi => (dv_w3 d D h x (by omega) (by omega)).trans (by rw [Int.toNat_natCast])) D
theorem d_fill4 : am_cV 62 [am_R (d + 5), am_I x] (dv d D h) = some (dv d (drow D 4 (fl 8 x (D 4))) h) := d_fill (by omega) (fun D => d_len (by omega) rfl (by omega)) (fun D i hi => (dv_w4 d D h x (by omega) (by omega)).trans (by rw [Int.toNat_natCast])) D
theorem d_fill5 : am_cV 62 [am_R (d + 6), am_I x] (dv d D h) = some (dv d (drow D 5 (fl 8 x (D 5))) h) := d_fill (by omega) (fun D => d_len (by omega) rfl (by omega)) (fun D i hi => (dv_w5 d D h x (by omega) (by omega)).trans (by rw [Int.toNat_natCast])) D
theorem d_fill6 : am_cV 62 [am_R (d + 7), am_I x] (dv d D h) = some (dv d (drow D 6 (fl 3 x (D 6))) h) := d_fill (by omega) (fun D => d_len (by omega) rfl (by omega)) (fun D i hi => (dv_w6 d D h x (by omega) (by omega)).trans (by rw [Int.toNat_natCast])) D
theorem d_fill10 : am_cV 62 [am_R (d + 11), am_I x] (dv d D h) = some (dv d (drow D 10 (fl 32 x (D 10))) h) := d_fill (by omega) (fun D => d_len (by omega) rfl (by omega)) (fun D i hi => (dv_w10 d D h x (by omega) (by omega)).trans (by rw [Int.toNat_natCast])) D
theorem d_fill11 : am_cV 62 [am_R (d + 12), am_I x] (dv d D h) = some (dv d (drow D 11 (fl 32 x (D 11))) h) := d_fill (by omega) (fun D => d_len (by omega) rfl (by omega)) (fun D i hi => (dv_w11 d D h x (by omega) (by omega)).trans (by rw [Int.toNat_natCast])) D
theorem d_fill12 : am_cV 62 [am_R (d + 13), am_I x] (dv d D h) = some (dv d (drow D 12 (fl 32 x (D 12))) h) := d_fill (by omega) (fun D => d_len (by omega) rfl (by omega)) (fun D i hi => (dv_w12 d D h x (by omega) (by omega)).trans (by rw [Int.toNat_natCast])) D
end FILL
/-- the log's numbers are in bounds -/
def LW (D : Nat → Nat → Int) : Prop := (0 ≤ D 16 0 ∧ D 16 0 ≤ 60) ∧ 0 ≤ D 16 1 ∧ D 16 1 ≤ 60
/-- where the log's next entry stands -/
def lgu (D : Nat → Nat → Int) : Nat := if D 16 0 < 60 then (D 16 0).toNat else 0
def lga (D : Nat → Nat → Int) (s z a : Int) : Nat → Nat → Int := dup (dup (dup (dup (dup D 13 (lgu D) s) 14 (lgu D) z) 15 (lgu D) a) 16 0 (lgu D + 1)) 16 1 (if D 16 1 < 60 then D 16 1 + 1 else D 16 1)
section LOG
variable {d : Nat} {h : am_H} {D : Nat → Nat → Int}
theorem l_add (w : LW D) (s z a : Int) : am_cV 90 [am_R (d + 14), am_I s, am_I z, am_I a] (dv d D h) = some (dv d (lga D s z a) h) := by
  obtain ⟨⟨w1, w2⟩, w3, w4⟩ := w
  unfold lga
  by_cases h1 : D 16 0 < 60
  · obtain ⟨U, hU⟩ : ∃ U : Nat, D 16 0 = U := ⟨(D 16 0).toNat, by omega⟩
    have eu : lgu D = U := by unfold lgu; rw [if_pos h1, hU, Int.toNat_natCast]
    rw [eu]
    by_cases h2 : D 16 1 < 60
    · rw [am_cV]; simp (disch := omega) only [en_90, bk_90_0, bk_90_16, bk_90_21, bk_90_45, bk_90_70, bk_90_80, hU, am_w_id, dv_f0, dv_f1, dv_f2, dv_f3, dv_f4, dv_f5, dv_f6, dv_f7, dv_f8, dv_f9, dv_f10, dv_f11, dv_f12, dv_f13, dv_g0, dv_g1, dv_g2, dv_i0, dv_i1, dv_p0, dv_p1, dv_isc, dv_iscL, dv_r0, dv_r1, dv_r2, dv_r3, dv_r4, dv_r5, dv_r6, dv_r7, dv_r8, dv_r9, dv_r10, dv_r11, dv_r12, dv_r13, dv_r14, dv_r15, dv_w0, dv_w1, dv_w2, dv_w3, dv_w4, dv_w5, dv_w6, dv_w7, dv_w8, dv_w9, dv_w10, dv_w11, dv_w12, dv_w13, dv_w14, dv_w15, dup_t, dup_o, va_up_self, va_up_ne, drow_t, drow_o, Option.bind_some, Bool.cond_decide, am_oI_some, am_oV_some, am_oI_ite, am_oV_ite, am_bind_ite, Int.toNat_natCast, Int.toNat_zero, Int.reduceToNat, ite_true, ite_false, not_true_eq_false, not_false_eq_true, decide_true, decide_false, decide_eq_true_eq, Bool.false_eq_true, Nat.add_zero, am_rok1_0, am_rok1_1, cond_true, cond_false, am_w_nat1, true_or, or_true, false_or, or_false, true_and, and_true, false_and, and_false, Int.reduceEq, Int.reduceNeg, Int.reduceLT, Int.reduceLE, or_self, and_self, if_pos, if_neg]
    · have e1 : dup (dup (dup (dup (dup D 13 U s) 14 U z) 15 U a) 16 0 ((U : Int) + 1)) 16 1 (D 16 1) = dup (dup (dup (dup D 13 U s) 14 U z) 15 U a) 16 0 ((U : Int) + 1) := by
        rw [dup_comm2 _ _ _ _ (by omega)]
        congr 1
        have := dup_self (dup (dup (dup D 13 U s) 14 U z) 15 U a) 16 1
        simp (disch := omega) only [dup_o] at this
        exact this
      rw [if_neg h2, e1]
      rw [am_cV]; simp (disch := omega) only [en_90, bk_90_0, bk_90_16, bk_90_21, bk_90_45, bk_90_70, bk_90_80, hU, am_w_id, dv_f0, dv_f1, dv_f2, dv_f3, dv_f4, dv_f5, dv_f6, dv_f7, dv_f8, dv_f9, dv_f10, dv_f11, dv_f12, dv_f13, dv_g0, dv_g1, dv_g2, dv_i0, dv_i1, dv_p0, dv_p1, dv_isc, dv_iscL, dv_r0, dv_r1, dv_r2, dv_r3, dv_r4, dv_r5, dv_r6, dv_r7, dv_r8, dv_r9, dv_r10, dv_r11, dv_r12, dv_r13, dv_r14, dv_r15, dv_w0, dv_w1, dv_w2, dv_w3, dv_w4, dv_w5, dv_w6, dv_w7, dv_w8, dv_w9, dv_w10, dv_w11, dv_w12, dv_w13, dv_w14, dv_w15, dup_t, dup_o, va_up_self, va_up_ne, drow_t, drow_o, Option.bind_some, Bool.cond_decide, am_oI_some, am_oV_some, am_oI_ite, am_oV_ite, am_bind_ite, Int.toNat_natCast, Int.toNat_zero, Int.reduceToNat, ite_true, ite_false, not_true_eq_false, not_false_eq_true, decide_true, decide_false, decide_eq_true_eq, Bool.false_eq_true, Nat.add_zero, am_rok1_0, am_rok1_1, cond_true, cond_false, am_w_nat1, true_or, or_true, false_or, or_false, true_and, and_true, false_and, and_false, Int.reduceEq, Int.reduceNeg, Int.reduceLT, Int.reduceLE, or_self, and_self, if_pos, if_neg]
  · have eu : lgu D = 0 := by unfold lgu; rw [if_neg h1]
    rw [eu]
    have e2 : ∀ x, dup (dup (dup (dup (dup D 16 0 0) 13 0 s) 14 0 z) 15 0 a) 16 0 x = dup (dup (dup (dup D 13 0 s) 14 0 z) 15 0 a) 16 0 x := by
      intro x
      rw [dup_comm _ 0 0 0 s (by omega), dup_comm _ 0 0 0 z (by omega), dup_comm _ 0 0 0 a (by omega), dup_dup]
    by_cases h2 : D 16 1 < 60
    · rw [am_cV]; simp (disch := omega) only [en_90, bk_90_0, bk_90_16, bk_90_21, bk_90_45, bk_90_70, bk_90_80, am_w_id, e2, Int.reduceAdd, dv_f0, dv_f1, dv_f2, dv_f3, dv_f4, dv_f5, dv_f6, dv_f7, dv_f8, dv_f9, dv_f10, dv_f11, dv_f12, dv_f13, dv_g0, dv_g1, dv_g2, dv_i0, dv_i1, dv_p0, dv_p1, dv_isc, dv_iscL, dv_r0, dv_r1, dv_r2, dv_r3, dv_r4, dv_r5, dv_r6, dv_r7, dv_r8, dv_r9, dv_r10, dv_r11, dv_r12, dv_r13, dv_r14, dv_r15, dv_w0, dv_w1, dv_w2, dv_w3, dv_w4, dv_w5, dv_w6, dv_w7, dv_w8, dv_w9, dv_w10, dv_w11, dv_w12, dv_w13, dv_w14, dv_w15, dup_t, dup_o, va_up_self, va_up_ne, drow_t, drow_o, Option.bind_some, Bool.cond_decide, am_oI_some, am_oV_some, am_oI_ite, am_oV_ite, am_bind_ite, Int.toNat_natCast, Int.toNat_zero, Int.reduceToNat, ite_true, ite_false, not_true_eq_false, not_false_eq_true, decide_true, decide_false, decide_eq_true_eq, Bool.false_eq_true, Nat.add_zero, am_rok1_0, am_rok1_1, cond_true, cond_false, am_w_nat1, true_or, or_true, false_or, or_false, true_and, and_true, false_and, and_false, Int.reduceEq, Int.reduceNeg, Int.reduceLT, Int.reduceLE, or_self, and_self, if_pos, if_neg]
      rfl
    · have e1 : dup (dup (dup (dup (dup D 13 0 s) 14 0 z) 15 0 a) 16 0 (((0 : Nat) : Int) + 1)) 16 1 (D 16 1) = dup (dup (dup (dup D 13 0 s) 14 0 z) 15 0 a) 16 0 (((0 : Nat) : Int) + 1) := by
        rw [dup_comm2 _ _ _ _ (by omega)]
        congr 1
        have := dup_self (dup (dup (dup D 13 0 s) 14 0 z) 15 0 a) 16 1
        simp (disch := omega) only [dup_o] at this
        exact this
      rw [if_neg h2, e1]
      rw [am_cV]; simp (disch := omega) only [en_90, bk_90_0, bk_90_16, bk_90_21, bk_90_45, bk_90_70, bk_90_80, am_w_id, e2, Int.reduceAdd, dv_f0, dv_f1, dv_f2, dv_f3, dv_f4, dv_f5, dv_f6, dv_f7, dv_f8, dv_f9, dv_f10, dv_f11, dv_f12, dv_f13, dv_g0, dv_g1, dv_g2, dv_i0, dv_i1, dv_p0, dv_p1, dv_isc, dv_iscL, dv_r0, dv_r1, dv_r2, dv_r3, dv_r4, dv_r5, dv_r6, dv_r7, dv_r8, dv_r9, dv_r10, dv_r11, dv_r12, dv_r13, dv_r14, dv_r15, dv_w0, dv_w1, dv_w2, dv_w3, dv_w4, dv_w5, dv_w6, dv_w7, dv_w8, dv_w9, dv_w10, dv_w11, dv_w12, dv_w13, dv_w14, dv_w15, dup_t, dup_o, va_up_self, va_up_ne, drow_t, drow_o, Option.bind_some, Bool.cond_decide, am_oI_some, am_oV_some, am_oI_ite, am_oV_ite, am_bind_ite, Int.toNat_natCast, Int.toNat_zero, Int.reduceToNat, ite_true, ite_false, not_true_eq_false, not_false_eq_true, decide_true, decide_false, decide_eq_true_eq, Bool.false_eq_true, Nat.add_zero, am_rok1_0, am_rok1_1, cond_true, cond_false, am_w_nat1, true_or, or_true, false_or, or_false, true_and, and_true, false_and, and_false, Int.reduceEq, Int.reduceNeg, Int.reduceLT, Int.reduceLE, or_self, and_self, if_pos, if_neg]
      rfl
theorem l_clear : am_cV 63 [am_R (d + 14)] (dv d D h) = some (dv d (dup (dup D 16 0 0) 16 1 0) h) := by
  rw [am_cV]; simp (disch := omega) only [en_63, bk_63_0, dv_f0, dv_f1, dv_f2, dv_f3, dv_f4, dv_f5, dv_f6, dv_f7, dv_f8, dv_f9, dv_f10, dv_f11, dv_f12, dv_f13, dv_g0, dv_g1, dv_g2, dv_i0, dv_i1, dv_p0, dv_p1, dv_isc, dv_iscL, dv_r0, dv_r1, dv_r2, dv_r3, dv_r4, dv_r5, dv_r6, dv_r7, dv_r8, dv_r9, dv_r10, dv_r11, dv_r12, dv_r13, dv_r14, dv_r15, dv_w0, dv_w1, dv_w2, dv_w3, dv_w4, dv_w5, dv_w6, dv_w7, dv_w8, dv_w9, dv_w10, dv_w11, dv_w12, dv_w13, dv_w14, dv_w15, dup_t, dup_o, va_up_self, va_up_ne, drow_t, drow_o, Option.bind_some, Bool.cond_decide, am_oI_some, am_oV_some, am_oI_ite, am_oV_ite, am_bind_ite, Int.toNat_natCast, Int.toNat_zero, Int.reduceToNat, ite_true, ite_false, not_true_eq_false, not_false_eq_true, decide_true, decide_false, decide_eq_true_eq, Bool.false_eq_true, Nat.add_zero, am_rok1_0, am_rok1_1, cond_true, cond_false, am_w_nat1, true_or, or_true, false_or, or_false, true_and, and_true, false_and, and_false, Int.reduceEq, Int.reduceNeg, Int.reduceLT, Int.reduceLE, or_self, and_self, if_pos, if_neg]
/-- an entry of the log -/
def lge (D : Nat → Nat → Int) (i x : Int) : Int := if 0 ≤ i ∧ i < D 16 1 ∧ 0 ≤ x ∧ x ≤ 2 then D (13 + x.toNat) ((D 16 0 - 1 - i + 60) % 60).toNat else -1000000
theorem l_entry (w : LW D) (w' : D 16 1 ≤ D 16 0 ∨ D 16 1 = 60) (i x : Int) : am_cI 212 [am_R (d + 14), am_I i, am_I x] (dv d D h) = some (lge D i x, dv d D h) := by
  obtain ⟨⟨w1, w2⟩, w3, w4⟩ := w
  unfold lge
  by_cases h1 : 0 ≤ i ∧ i < D 16 1
  · have e1 : am_w (D 16 0 - 1) = D 16 0 - 1 := am_w_id (by omega) (by omega)
    have e2 : am_w (D 16 0 - 1 - i) = D 16 0 - 1 - i := am_w_id (by omega) (by omega)
    have e3 : am_w (D 16 0 - 1 - i + 60) = D 16 0 - 1 - i + 60 := am_w_id (by omega) (by omega)
    have e4 : am_rem (D 16 0 - 1 - i + 60) 60 = (D 16 0 - 1 - i + 60) % 60 := am_rem_of ⟨by omega, by omega⟩ ⟨by omega, by omega⟩ (by omega) (by omega)
    have b1 := Int.emod_nonneg (D 16 0 - 1 - i + 60) (show (60 : Int) ≠ 0 by omega)
    have b2 := Int.emod_lt_of_pos (D 16 0 - 1 - i + 60) (show (0 : Int) < 60 by omega)
    generalize (D 16 0 - 1 - i + 60) % 60 = J at e4 b1 b2 ⊢
    by_cases x0 : x = 0
    · have et : am_tsw 31 46 0 2 #[25, 32, 39] x = 56 := by rw [x0]; rfl
      rw [if_pos ⟨h1.1, h1.2, by omega, by omega⟩, x0] 
      rw [x0] at et
      rw [am_cI]; simp (disch := omega) only [en_212, bk_212_0, bk_212_12, bk_212_15, bk_212_31, bk_212_56, bk_212_63, bk_212_70, bk_212_77, e1, e2, e3, e4, et, dv_f0, dv_f1, dv_f2, dv_f3, dv_f4, dv_f5, dv_f6, dv_f7, dv_f8, dv_f9, dv_f10, dv_f11, dv_f12, dv_f13, dv_g0, dv_g1, dv_g2, dv_i0, dv_i1, dv_p0, dv_p1, dv_isc, dv_iscL, dv_r0, dv_r1, dv_r2, dv_r3, dv_r4, dv_r5, dv_r6, dv_r7, dv_r8, dv_r9, dv_r10, dv_r11, dv_r12, dv_r13, dv_r14, dv_r15, Option.bind_some, Bool.cond_decide, am_oI_some, am_oV_some, am_oI_ite, am_oV_ite, am_bind_ite, Int.toNat_natCast, Int.toNat_zero, Int.reduceToNat, ite_true, ite_false, not_true_eq_false, not_false_eq_true, decide_true, decide_false, decide_eq_true_eq, Bool.false_eq_true, Nat.add_zero, am_rok1_0, am_rok1_1, cond_true, cond_false, am_w_nat1, true_or, or_true, false_or, or_false, true_and, and_true, false_and, and_false, Int.reduceEq, Int.reduceNeg, Int.reduceLT, Int.reduceLE, or_self, and_self, if_pos, if_neg]
    · by_cases x1 : x = 1
      · have et : am_tsw 31 46 0 2 #[25, 32, 39] x = 63 := by rw [x1]; rfl
        rw [if_pos ⟨h1.1, h1.2, by omega, by omega⟩, x1]
        rw [x1] at et
        rw [am_cI]; simp (disch := omega) only [en_212, bk_212_0, bk_212_12, bk_212_15, bk_212_31, bk_212_56, bk_212_63, bk_212_70, bk_212_77, e1, e2, e3, e4, et, dv_f0, dv_f1, dv_f2, dv_f3, dv_f4, dv_f5, dv_f6, dv_f7, dv_f8, dv_f9, dv_f10, dv_f11, dv_f12, dv_f13, dv_g0, dv_g1, dv_g2, dv_i0, dv_i1, dv_p0, dv_p1, dv_isc, dv_iscL, dv_r0, dv_r1, dv_r2, dv_r3, dv_r4, dv_r5, dv_r6, dv_r7, dv_r8, dv_r9, dv_r10, dv_r11, dv_r12, dv_r13, dv_r14, dv_r15, Option.bind_some, Bool.cond_decide, am_oI_some, am_oV_some, am_oI_ite, am_oV_ite, am_bind_ite, Int.toNat_natCast, Int.toNat_zero, Int.reduceToNat, ite_true, ite_false, not_true_eq_false, not_false_eq_true, decide_true, decide_false, decide_eq_true_eq, Bool.false_eq_true, Nat.add_zero, am_rok1_0, am_rok1_1, cond_true, cond_false, am_w_nat1, true_or, or_true, false_or, or_false, true_and, and_true, false_and, and_false, Int.reduceEq, Int.reduceNeg, Int.reduceLT, Int.reduceLE, or_self, and_self, if_pos, if_neg]
      · by_cases x2 : x = 2
        · have et : am_tsw 31 46 0 2 #[25, 32, 39] x = 70 := by rw [x2]; rfl
          rw [if_pos ⟨h1.1, h1.2, by omega, by omega⟩, x2]
          rw [x2] at et
          rw [am_cI]; simp (disch := omega) only [en_212, bk_212_0, bk_212_12, bk_212_15, bk_212_31, bk_212_56, bk_212_63, bk_212_70, bk_212_77, e1, e2, e3, e4, et, dv_f0, dv_f1, dv_f2, dv_f3, dv_f4, dv_f5, dv_f6, dv_f7, dv_f8, dv_f9, dv_f10, dv_f11, dv_f12, dv_f13, dv_g0, dv_g1, dv_g2, dv_i0, dv_i1, dv_p0, dv_p1, dv_isc, dv_iscL, dv_r0, dv_r1, dv_r2, dv_r3, dv_r4, dv_r5, dv_r6, dv_r7, dv_r8, dv_r9, dv_r10, dv_r11, dv_r12, dv_r13, dv_r14, dv_r15, Option.bind_some, Bool.cond_decide, am_oI_some, am_oV_some, am_oI_ite, am_oV_ite, am_bind_ite, Int.toNat_natCast, Int.toNat_zero, Int.reduceToNat, ite_true, ite_false, not_true_eq_false, not_false_eq_true, decide_true, decide_false, decide_eq_true_eq, Bool.false_eq_true, Nat.add_zero, am_rok1_0, am_rok1_1, cond_true, cond_false, am_w_nat1, true_or, or_true, false_or, or_false, true_and, and_true, false_and, and_false, Int.reduceEq, Int.reduceNeg, Int.reduceLT, Int.reduceLE, or_self, and_self, if_pos, if_neg]
        · have et : am_tsw 31 46 0 2 #[25, 32, 39] x = 77 := by unfold am_tsw; rw [if_pos (by omega)]; rfl
          rw [if_neg (by omega)]
          rw [am_cI]; simp (disch := omega) only [en_212, bk_212_0, bk_212_12, bk_212_15, bk_212_31, bk_212_56, bk_212_63, bk_212_70, bk_212_77, e1, e2, e3, e4, et, dv_f0, dv_f1, dv_f2, dv_f3, dv_f4, dv_f5, dv_f6, dv_f7, dv_f8, dv_f9, dv_f10, dv_f11, dv_f12, dv_f13, dv_g0, dv_g1, dv_g2, dv_i0, dv_i1, dv_p0, dv_p1, dv_isc, dv_iscL, dv_r0, dv_r1, dv_r2, dv_r3, dv_r4, dv_r5, dv_r6, dv_r7, dv_r8, dv_r9, dv_r10, dv_r11, dv_r12, dv_r13, dv_r14, dv_r15, Option.bind_some, Bool.cond_decide, am_oI_some, am_oV_some, am_oI_ite, am_oV_ite, am_bind_ite, Int.toNat_natCast, Int.toNat_zero, Int.reduceToNat, ite_true, ite_false, not_true_eq_false, not_false_eq_true, decide_true, decide_false, decide_eq_true_eq, Bool.false_eq_true, Nat.add_zero, am_rok1_0, am_rok1_1, cond_true, cond_false, am_w_nat1, true_or, or_true, false_or, or_false, true_and, and_true, false_and, and_false, Int.reduceEq, Int.reduceNeg, Int.reduceLT, Int.reduceLE, or_self, and_self, if_pos, if_neg]
  · rw [if_neg (by omega)]
    by_cases h2 : i < 0
    · rw [am_cI]; simp (disch := omega) only [en_212, bk_212_0, bk_212_12, bk_212_15, bk_212_31, bk_212_56, bk_212_63, bk_212_70, bk_212_77, dv_f0, dv_f1, dv_f2, dv_f3, dv_f4, dv_f5, dv_f6, dv_f7, dv_f8, dv_f9, dv_f10, dv_f11, dv_f12, dv_f13, dv_g0, dv_g1, dv_g2, dv_i0, dv_i1, dv_p0, dv_p1, dv_isc, dv_iscL, dv_r0, dv_r1, dv_r2, dv_r3, dv_r4, dv_r5, dv_r6, dv_r7, dv_r8, dv_r9, dv_r10, dv_r11, dv_r12, dv_r13, dv_r14, dv_r15, Option.bind_some, Bool.cond_decide, am_oI_some, am_oV_some, am_oI_ite, am_oV_ite, am_bind_ite, Int.toNat_natCast, Int.toNat_zero, Int.reduceToNat, ite_true, ite_false, not_true_eq_false, not_false_eq_true, decide_true, decide_false, decide_eq_true_eq, Bool.false_eq_true, Nat.add_zero, am_rok1_0, am_rok1_1, cond_true, cond_false, am_w_nat1, true_or, or_true, false_or, or_false, true_and, and_true, false_and, and_false, Int.reduceEq, Int.reduceNeg, Int.reduceLT, Int.reduceLE, or_self, and_self, if_pos, if_neg]
    · rw [am_cI]; simp (disch := omega) only [en_212, bk_212_0, bk_212_12, bk_212_15, bk_212_31, bk_212_56, bk_212_63, bk_212_70, bk_212_77, dv_f0, dv_f1, dv_f2, dv_f3, dv_f4, dv_f5, dv_f6, dv_f7, dv_f8, dv_f9, dv_f10, dv_f11, dv_f12, dv_f13, dv_g0, dv_g1, dv_g2, dv_i0, dv_i1, dv_p0, dv_p1, dv_isc, dv_iscL, dv_r0, dv_r1, dv_r2, dv_r3, dv_r4, dv_r5, dv_r6, dv_r7, dv_r8, dv_r9, dv_r10, dv_r11, dv_r12, dv_r13, dv_r14, dv_r15, Option.bind_some, Bool.cond_decide, am_oI_some, am_oV_some, am_oI_ite, am_oV_ite, am_bind_ite, Int.toNat_natCast, Int.toNat_zero, Int.reduceToNat, ite_true, ite_false, not_true_eq_false, not_false_eq_true, decide_true, decide_false, decide_eq_true_eq, Bool.false_eq_true, Nat.add_zero, am_rok1_0, am_rok1_1, cond_true, cond_false, am_w_nat1, true_or, or_true, false_or, or_false, true_and, and_true, false_and, and_false, Int.reduceEq, Int.reduceNeg, Int.reduceLT, Int.reduceLE, or_self, and_self, if_pos, if_neg]
end LOG
