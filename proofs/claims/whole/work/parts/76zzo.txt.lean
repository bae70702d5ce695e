/-! ===== text ===== -/
def cp3 (R Q : Nat → Int) (k : Nat) : Nat → Int := fun j => if j < k then R j else Q j
theorem cp3_up (R Q : Nat → Int) (k : Nat) : va_up (cp3 R Q k) k (R k) = cp3 R Q (k + 1) := by
  funext j
  by_cases e : j = k
  · rw [e, va_up_self]
    exact (if_pos (by omega)).symm
  · rw [va_up_ne _ _ e]
    unfold cp3
    by_cases q : j < k
    · rw [if_pos q, if_pos (by omega)]
    · rw [if_neg q, if_neg (by omega)]
theorem cp3_0 (R Q : Nat → Int) : cp3 R Q 0 = Q := funext (fun j => if_neg (by omega))
/-- the model's rules behind a text -/
def ruM (M : Nat → Nat → Int) : Nat → Int := va_up (cp3 (M 2) (M 3) 7) 2 (am_min (M 2 2) (M 2 3))
def tdM (M : Nat → Nat → Int) : Nat → Nat → Int := usM (drow (dup (dup M 0 2 0) 0 14 1) 3 (ruM M))
theorem fl_up (f : Nat → Int) (z : Nat) (v : Int) : va_up (fl z v f) z v = fl (z + 1) v f := by
  funext i
  by_cases e : i = z
  · rw [e, va_up_self]
    exact (if_pos (by omega)).symm
  · rw [va_up_ne _ _ e]
    by_cases q : i < z
    · exact (if_pos q).trans (if_pos (by omega)).symm
    · exact (if_neg q).trans (if_neg (by omega)).symm
theorem fs_up (f : Nat → Int) (z : Nat) : va_up (fs6 z f) (416 + z) (-1) = fs6 (z + 1) f := by
  funext i
  by_cases e : i = 416 + z
  · rw [e, va_up_self]
    exact (if_pos (by omega)).symm
  · rw [va_up_ne _ _ e]
    by_cases q : 416 ≤ i ∧ i < 416 + z
    · exact (if_pos q).trans (if_pos (by omega)).symm
    · exact (if_neg q).trans (if_neg (by omega)).symm
section TXT
variable {x mo lo n m Z : Nat} {A : Nat → Nat} {N P K T S : Nat → Nat → Int} {HD : Nat → Nat → Nat → Int} {M Ad : Nat → Nat → Int} {h g : am_H}
theorem td_m1 : am_run am_ms 136 39 [am_R mo, am_I 0, am_K 1, am_K 1] [] (mv mo M g) = am_run am_ms 136 183 [am_R mo, am_I 0, am_I 0, am_K 1] [] (mv mo (tdM M) g) := by
  have lp : ∀ k : Nat, k < 7 → am_run am_ms 136 126 [am_R mo, am_I 0, am_I k, am_K 1] [] (mv mo (drow (dup (dup M 0 2 0) 0 14 1) 3 (cp3 (M 2) (M 3) k)) g) = am_run am_ms 136 126 [am_R mo, am_I 0, am_I ((k + 1 : Nat) : Int), am_K 1] [] (mv mo (drow (dup (dup M 0 2 0) 0 14 1) 3 (cp3 (M 2) (M 3) (k + 1))) g) := by
    intro k hk
    have r2 := mv_r2 (m := mo) (M := drow (dup (dup M 0 2 0) 0 14 1) 3 (cp3 (M 2) (M 3) k)) (h := g) (j := (k : Int)) (by omega) (by omega)
    rw [Int.toNat_natCast, drow_o _ _ (by omega), dup_o _ _ _ (by omega), dup_o _ _ _ (by omega)] at r2
    have w3 := mv_w3 (m := mo) (M := drow (dup (dup M 0 2 0) 0 14 1) 3 (cp3 (M 2) (M 3) k)) (h := g) (j := (k : Int)) (M 2 k) (by omega) (by omega)
    rw [Int.toNat_natCast, dup_drow, cp3_up] at w3
    have hk7 : ¬ (7 : Int) ≤ (k : Int) := by omega
    have hkq : k < 2147483647 := by omega
    rw [bk_136_126]
    simp only [hk7, mv_f0_6, mv_f0_5, r2, w3, am_w_nat1 hkq, Option.bind_some, Bool.cond_decide, am_oI_some, am_oV_some, am_oI_ite, am_oV_ite, am_bind_ite, Int.toNat_natCast, Int.toNat_zero, Int.reduceToNat, ite_true, ite_false, not_true_eq_false, not_false_eq_true, decide_true, decide_false, decide_eq_true_eq, Bool.false_eq_true, Nat.add_zero, am_rok1_0, am_rok1_1, cond_true, cond_false, am_w_nat1, true_or, or_true, false_or, or_false, true_and, and_true, false_and, and_false, Int.reduceEq, Int.reduceNeg, Int.reduceLT, Int.reduceLE, or_self, and_self]
  have key := loop_to (fun k : Nat => am_run am_ms 136 126 [am_R mo, am_I 0, am_I k, am_K 1] [] (mv mo (drow (dup (dup M 0 2 0) 0 14 1) 3 (cp3 (M 2) (M 3) k)) g)) 7 lp
  have key' : am_run am_ms 136 126 [am_R mo, am_I 0, am_I 0, am_K 1] [] (mv mo (drow (dup (dup M 0 2 0) 0 14 1) 3 (cp3 (M 2) (M 3) 0)) g) = am_run am_ms 136 126 [am_R mo, am_I 0, am_I 7, am_K 1] [] (mv mo (drow (dup (dup M 0 2 0) 0 14 1) 3 (cp3 (M 2) (M 3) 7)) g) := key
  have ed : drow (dup (dup M 0 2 0) 0 14 1) 3 (cp3 (M 2) (M 3) 0) = dup (dup M 0 2 0) 0 14 1 := by
    rw [cp3_0, show M 3 = dup (dup M 0 2 0) 0 14 1 3 from by rw [dup_o _ _ _ (by omega), dup_o _ _ _ (by omega)], drow_self]
  rw [ed] at key'
  have c2 : cp3 (M 2) (M 3) 7 2 = M 2 2 := if_pos (by omega)
  have c3 : cp3 (M 2) (M 3) 7 3 = M 2 3 := if_pos (by omega)
  have ra := mv_r3 (m := mo) (M := drow (dup (dup M 0 2 0) 0 14 1) 3 (cp3 (M 2) (M 3) 7)) (h := g) (j := 3) (by omega) (by omega)
  have rb := mv_r3 (m := mo) (M := drow (dup (dup M 0 2 0) 0 14 1) 3 (cp3 (M 2) (M 3) 7)) (h := g) (j := 2) (by omega) (by omega)
  rw [drow_t, show (3 : Int).toNat = 3 from rfl, c3] at ra
  rw [drow_t, show (2 : Int).toNat = 2 from rfl, c2] at rb
  have us := m_usual (mo := mo) (g := g) (M := drow (dup (dup M 0 2 0) 0 14 1) 3 (ruM M))
  have step : am_run am_ms 136 150 [am_R mo, am_I 0, am_I 7, am_K 1] [] (mv mo (drow (dup (dup M 0 2 0) 0 14 1) 3 (cp3 (M 2) (M 3) 7)) g) = am_run am_ms 136 177 [am_R mo, am_I 0, am_I 7, am_K 1] [] (mv mo (drow (dup (dup M 0 2 0) 0 14 1) 3 (ruM M)) g) := by
    unfold ruM
    rw [bk_136_150]
    by_cases e : M 2 2 ≤ M 2 3
    · have em : am_min (M 2 2) (M 2 3) = cp3 (M 2) (M 3) 7 2 := by rw [c2]; unfold am_min; rw [if_neg (by omega)]
      rw [em, va_up_id]
      simp only [mv_f0_6, ra, rb, e, Option.bind_some, Bool.cond_decide, am_oI_some, am_oV_some, am_oI_ite, am_oV_ite, am_bind_ite, Int.toNat_natCast, Int.toNat_zero, Int.reduceToNat, ite_true, ite_false, not_true_eq_false, not_false_eq_true, decide_true, decide_false, decide_eq_true_eq, Bool.false_eq_true, Nat.add_zero, am_rok1_0, am_rok1_1, cond_true, cond_false, am_w_nat1, true_or, or_true, false_or, or_false, true_and, and_true, false_and, and_false, Int.reduceEq, Int.reduceNeg, Int.reduceLT, Int.reduceLE, or_self, and_self]
    · have em : am_min (M 2 2) (M 2 3) = M 2 3 := by unfold am_min; rw [if_pos (by omega)]
      have w3 := mv_w3 (m := mo) (M := drow (dup (dup M 0 2 0) 0 14 1) 3 (cp3 (M 2) (M 3) 7)) (h := g) (j := 2) (M 2 3) (by omega) (by omega)
      rw [show (2 : Int).toNat = 2 from rfl, dup_drow] at w3
      rw [em]
      simp only [mv_f0_6, ra, rb, e, bk_136_174, w3, Option.bind_some, Bool.cond_decide, am_oI_some, am_oV_some, am_oI_ite, am_oV_ite, am_bind_ite, Int.toNat_natCast, Int.toNat_zero, Int.reduceToNat, ite_true, ite_false, not_true_eq_false, not_false_eq_true, decide_true, decide_false, decide_eq_true_eq, Bool.false_eq_true, Nat.add_zero, am_rok1_0, am_rok1_1, cond_true, cond_false, am_w_nat1, true_or, or_true, false_or, or_false, true_and, and_true, false_and, and_false, Int.reduceEq, Int.reduceNeg, Int.reduceLT, Int.reduceLE, or_self, and_self]
  unfold tdM
  rw [bk_136_39]
  simp only [mv_p0_2, bk_136_119, mv_p0_14, key', Int.reduceEq, Option.bind_some, Bool.cond_decide, am_oI_some, am_oV_some, am_oI_ite, am_oV_ite, am_bind_ite, Int.toNat_natCast, Int.toNat_zero, Int.reduceToNat, ite_true, ite_false, not_true_eq_false, not_false_eq_true, decide_true, decide_false, decide_eq_true_eq, Bool.false_eq_true, Nat.add_zero, am_rok1_0, am_rok1_1, cond_true, cond_false, am_w_nat1, true_or, or_true, false_or, or_false, true_and, and_true, false_and, and_false, Int.reduceEq, Int.reduceNeg, Int.reduceLT, Int.reduceLE, or_self, and_self]
  rw [bk_136_126]
  simp only [step, bk_136_177, mv_c0, us, Int.le_refl, Option.bind_some, Bool.cond_decide, am_oI_some, am_oV_some, am_oI_ite, am_oV_ite, am_bind_ite, Int.toNat_natCast, Int.toNat_zero, Int.reduceToNat, ite_true, ite_false, not_true_eq_false, not_false_eq_true, decide_true, decide_false, decide_eq_true_eq, Bool.false_eq_true, Nat.add_zero, am_rok1_0, am_rok1_1, cond_true, cond_false, am_w_nat1, true_or, or_true, false_or, or_false, true_and, and_true, false_and, and_false, Int.reduceEq, Int.reduceNeg, Int.reduceLT, Int.reduceLE, or_self, and_self]
theorem tdM_o (M : Nat → Nat → Int) {r : Nat} (h0 : r ≠ 0) (h3 : r ≠ 3) : tdM M r = M r := by
  unfold tdM
  rw [usM_o _ h0, drow_o _ _ h3, dup_o _ _ _ h0, dup_o _ _ _ h0]
theorem tdM_3 (M : Nat → Nat → Int) : tdM M 3 = ruM M := by
  unfold tdM
  rw [usM_o _ (by omega), drow_t]
theorem td_m2 {R : Nat → Int} (hR : ∀ j, j < 609 → (if j = 420 then M 3 6 else if 416 ≤ j ∧ j < 419 then -1 else 0) = R j) : am_run am_ms 136 183 [am_R mo, am_I 0, am_I 0, am_K 1] [] (mv mo M g) = am_run am_ms 136 244 [am_R mo, am_I 0, am_I 0, am_K 1] [] (mv mo (drow M 8 R) g) := by
  have wr8 : ∀ (f : Nat → Int) (j : Nat) (v : Int), j < 609 → am_wr (mv mo (drow M 8 f) g) (mo + 8) 0 (j : Int) v = some (mv mo (drow M 8 (va_up f j v)) g) := fun f j v hj => by
    have r := mv_w8 (m := mo) (M := drow M 8 f) (h := g) (j := (j : Int)) v (by omega) (by omega)
    rw [Int.toNat_natCast, dup_drow] at r
    exact r
  have s1 : ∀ z : Nat, z < 609 → am_run am_ms 136 183 [am_R mo, am_I 0, am_I z, am_K 1] [] (mv mo (drow M 8 (fl z 0 (M 8))) g) = am_run am_ms 136 183 [am_R mo, am_I 0, am_I ((z + 1 : Nat) : Int), am_K 1] [] (mv mo (drow M 8 (fl (z + 1) 0 (M 8))) g) := by
    intro z hz
    have w := wr8 (fl z 0 (M 8)) z 0 hz
    rw [fl_up] at w
    rw [bk_136_183]
    simp (disch := omega) only [mv_f0_15, w, Option.bind_some, Bool.cond_decide, am_oI_some, am_oV_some, am_oI_ite, am_oV_ite, am_bind_ite, Int.toNat_natCast, Int.toNat_zero, Int.reduceToNat, ite_true, ite_false, not_true_eq_false, not_false_eq_true, decide_true, decide_false, decide_eq_true_eq, Bool.false_eq_true, Nat.add_zero, am_rok1_0, am_rok1_1, cond_true, cond_false, am_w_nat1, true_or, or_true, false_or, or_false, true_and, and_true, false_and, and_false, Int.reduceEq, Int.reduceNeg, Int.reduceLT, Int.reduceLE, or_self, and_self, if_pos, if_neg]
  have s2 : ∀ z : Nat, z < 3 → am_run am_ms 136 205 [am_R mo, am_I 0, am_I z, am_K 1] [] (mv mo (drow M 8 (fs6 z (fl 609 0 (M 8)))) g) = am_run am_ms 136 205 [am_R mo, am_I 0, am_I ((z + 1 : Nat) : Int), am_K 1] [] (mv mo (drow M 8 (fs6 (z + 1) (fl 609 0 (M 8)))) g) := by
    intro z hz
    have w := wr8 (fs6 z (fl 609 0 (M 8))) (416 + z) (-1) (by omega)
    rw [fs_up, show ((416 + z : Nat) : Int) = 416 + (z : Int) by omega] at w
    rw [bk_136_205]
    simp (disch := omega) only [mv_f0_15, nte416, w, Option.bind_some, Bool.cond_decide, am_oI_some, am_oV_some, am_oI_ite, am_oV_ite, am_bind_ite, Int.toNat_natCast, Int.toNat_zero, Int.reduceToNat, ite_true, ite_false, not_true_eq_false, not_false_eq_true, decide_true, decide_false, decide_eq_true_eq, Bool.false_eq_true, Nat.add_zero, am_rok1_0, am_rok1_1, cond_true, cond_false, am_w_nat1, true_or, or_true, false_or, or_false, true_and, and_true, false_and, and_false, Int.reduceEq, Int.reduceNeg, Int.reduceLT, Int.reduceLE, or_self, and_self, if_pos, if_neg]
  have k1 : am_run am_ms 136 183 [am_R mo, am_I 0, am_I 0, am_K 1] [] (mv mo M g) = am_run am_ms 136 183 [am_R mo, am_I 0, am_I 609, am_K 1] [] (mv mo (drow M 8 (fl 609 0 (M 8))) g) := by
    have k := loop_to (fun z : Nat => am_run am_ms 136 183 [am_R mo, am_I 0, am_I z, am_K 1] [] (mv mo (drow M 8 (fl z 0 (M 8))) g)) 609 s1
    have e0 : fl 0 0 (M 8) = M 8 := funext (fun i => if_neg (by omega))
    (try dsimp only at k)
    rw [e0, drow_self] at k
    exact k
  have k2 : am_run am_ms 136 205 [am_R mo, am_I 0, am_I 0, am_K 1] [] (mv mo (drow M 8 (fl 609 0 (M 8))) g) = am_run am_ms 136 205 [am_R mo, am_I 0, am_I 3, am_K 1] [] (mv mo (drow M 8 (fs6 3 (fl 609 0 (M 8)))) g) := by
    have k := loop_to (fun z : Nat => am_run am_ms 136 205 [am_R mo, am_I 0, am_I z, am_K 1] [] (mv mo (drow M 8 (fs6 z (fl 609 0 (M 8)))) g)) 3 s2
    have e0 : fs6 0 (fl 609 0 (M 8)) = fl 609 0 (M 8) := funext (fun i => if_neg (by omega))
    (try dsimp only at k)
    rw [e0] at k
    exact k
  have w := wr8 (fs6 3 (fl 609 0 (M 8))) 420 (M 3 6) (by omega)
  have w' : am_wr (mv mo (drow M 8 (fs6 3 (fl 609 0 (M 8)))) g) (mo + 8) 0 420 (M 3 6) = some (mv mo (drow M 8 (va_up (fs6 3 (fl 609 0 (M 8))) 420 (M 3 6))) g) := w
  have rx : mv mo (drow M 8 (va_up (fs6 3 (fl 609 0 (M 8))) 420 (M 3 6))) g = mv mo (drow M 8 R) g := mv_row_ext (by omega) (fun j hj => by
    rw [← hR j hj]
    by_cases e : j = 420
    · rw [e, va_up_self, if_pos rfl]
    · rw [va_up_ne _ _ e, if_neg e]
      unfold fs6 fl
      by_cases q : 416 ≤ j ∧ j < 419
      · rw [if_pos (by omega), if_pos q]
      · rw [if_neg (by omega), if_neg q, if_pos hj])
  rw [rx] at w'
  have r3 := mv_r3 (m := mo) (M := drow M 8 (fs6 3 (fl 609 0 (M 8)))) (h := g) (j := 6) (by omega) (by omega)
  rw [drow_o _ _ (by omega), show (6 : Int).toNat = 6 from rfl] at r3
  rw [k1, bk_136_183]
  simp (disch := omega) only [bk_136_203, k2, Option.bind_some, Bool.cond_decide, am_oI_some, am_oV_some, am_oI_ite, am_oV_ite, am_bind_ite, Int.toNat_natCast, Int.toNat_zero, Int.reduceToNat, ite_true, ite_false, not_true_eq_false, not_false_eq_true, decide_true, decide_false, decide_eq_true_eq, Bool.false_eq_true, Nat.add_zero, am_rok1_0, am_rok1_1, cond_true, cond_false, am_w_nat1, true_or, or_true, false_or, or_false, true_and, and_true, false_and, and_false, Int.reduceEq, Int.reduceNeg, Int.reduceLT, Int.reduceLE, or_self, and_self, if_pos, if_neg]
  rw [bk_136_205]
  simp (disch := omega) only [bk_136_227, mv_f0_15, mv_f0_6, r3, w', Option.bind_some, Bool.cond_decide, am_oI_some, am_oV_some, am_oI_ite, am_oV_ite, am_bind_ite, Int.toNat_natCast, Int.toNat_zero, Int.reduceToNat, ite_true, ite_false, not_true_eq_false, not_false_eq_true, decide_true, decide_false, decide_eq_true_eq, Bool.false_eq_true, Nat.add_zero, am_rok1_0, am_rok1_1, cond_true, cond_false, am_w_nat1, true_or, or_true, false_or, or_false, true_and, and_true, false_and, and_false, Int.reduceEq, Int.reduceNeg, Int.reduceLT, Int.reduceLE, or_self, and_self, if_pos, if_neg]
end TXT
