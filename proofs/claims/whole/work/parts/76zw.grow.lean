/-! ===== draws put to a trial ===== -/
def mns (f : Nat → Int) (a : Int) : Nat → Int
  | 0 => a
  | n + 1 => am_min (mns f a n) (f n)
/-- by how much the resets of zones differ -/
def spr (f : Nat → Int) (Z : Nat) : Int := am_w (mxs (fun i => f (i + 1)) (f 0) (Z - 1) - mns (fun i => f (i + 1)) (f 0) (Z - 1))
theorem scx00 {z : Nat} (h : z < 2147483) : am_w ((z : Int) + 0) = (z : Int) := by
  rw [am_w_id (by omega) (by omega)]
  omega
section GROW
variable {x mo n m Z : Nat} {A : Nat → Nat} {N P K T S M At Ad : Nat → Nat → Int} {HD : Nat → Nat → Nat → Int} {h g : am_H} {md : Bool} {O : Nat → Int} {Tc : Int}
theorem d_spread {d : Nat} {D : Nat → Nat → Int} (w : DW D Z) (hZ1 : 1 ≤ Z) : am_cI 244 [am_R d] (dv d D h) = some (spr (D 4) Z, dv d D h) := by
  have hZ := w.1
  have hZ8 := w.2.1
  have step : ∀ j : Nat, j < Z - 1 → am_run am_ms 244 16 [am_R d, am_I (mxs (fun i => D 4 (i + 1)) (D 4 0) j), am_I (mns (fun i => D 4 (i + 1)) (D 4 0) j), am_I ((j + 1 : Nat) : Int)] [] (dv d D h) = am_run am_ms 244 16 [am_R d, am_I (mxs (fun i => D 4 (i + 1)) (D 4 0) (j + 1)), am_I (mns (fun i => D 4 (i + 1)) (D 4 0) (j + 1)), am_I ((j + 1 + 1 : Nat) : Int)] [] (dv d D h) := by
    intro j hj
    have e1 : mxs (fun i => D 4 (i + 1)) (D 4 0) (j + 1) = am_max (mxs (fun i => D 4 (i + 1)) (D 4 0) j) (D 4 (j + 1)) := rfl
    have e2 : mns (fun i => D 4 (i + 1)) (D 4 0) (j + 1) = am_min (mns (fun i => D 4 (i + 1)) (D 4 0) j) (D 4 (j + 1)) := rfl
    rw [e1, e2]
    clear e1 e2
    generalize mxs (fun i => D 4 (i + 1)) (D 4 0) j = a
    generalize mns (fun i => D 4 (i + 1)) (D 4 0) j = b
    generalize e1 : j + 1 = z
    rw [bk_244_16]
    simp (disch := omega) only [bk_244_38, hZ, dv_f0, dv_f1, dv_f2, dv_f3, dv_f4, dv_f5, dv_f6, dv_f7, dv_f8, dv_f9, dv_f10, dv_f11, dv_f12, dv_f13, dv_g0, dv_g1, dv_g2, dv_i0, dv_i1, dv_p0, dv_p1, dv_isc, dv_iscL, dv_r0, dv_r1, dv_r2, dv_r3, dv_r4, dv_r5, dv_r6, dv_r7, dv_r8, dv_r9, dv_r10, dv_r11, dv_r12, dv_r13, dv_r14, dv_r15, Option.bind_some, Bool.cond_decide, am_oI_some, am_oV_some, am_oI_ite, am_oV_ite, am_bind_ite, Int.toNat_natCast, Int.toNat_zero, Int.reduceToNat, ite_true, ite_false, not_true_eq_false, not_false_eq_true, decide_true, decide_false, decide_eq_true_eq, Bool.false_eq_true, Nat.add_zero, am_rok1_0, am_rok1_1, cond_true, cond_false, am_w_nat1, true_or, or_true, false_or, or_false, true_and, and_true, false_and, and_false, Int.reduceEq, Int.reduceNeg, Int.reduceLT, Int.reduceLE, or_self, and_self, if_pos, if_neg]
  have key := loop_to (fun j : Nat => am_run am_ms 244 16 [am_R d, am_I (mxs (fun i => D 4 (i + 1)) (D 4 0) j), am_I (mns (fun i => D 4 (i + 1)) (D 4 0) j), am_I ((j + 1 : Nat) : Int)] [] (dv d D h)) (Z - 1) step
  have key' : am_run am_ms 244 16 [am_R d, am_I (D 4 0), am_I (D 4 0), am_I 1] [] (dv d D h) = am_run am_ms 244 16 [am_R d, am_I (mxs (fun i => D 4 (i + 1)) (D 4 0) (Z - 1)), am_I (mns (fun i => D 4 (i + 1)) (D 4 0) (Z - 1)), am_I (Z : Int)] [] (dv d D h) := by
    have k2 := key
    (try dsimp only at k2)
    rw [show Z - 1 + 1 = Z by omega] at k2
    exact k2
  unfold spr
  rw [am_cI, en_244, bk_244_0]
  simp (disch := omega) only [key', dv_f0, dv_f1, dv_f2, dv_f3, dv_f4, dv_f5, dv_f6, dv_f7, dv_f8, dv_f9, dv_f10, dv_f11, dv_f12, dv_f13, dv_g0, dv_g1, dv_g2, dv_i0, dv_i1, dv_p0, dv_p1, dv_isc, dv_iscL, dv_r0, dv_r1, dv_r2, dv_r3, dv_r4, dv_r5, dv_r6, dv_r7, dv_r8, dv_r9, dv_r10, dv_r11, dv_r12, dv_r13, dv_r14, dv_r15, Option.bind_some, Bool.cond_decide, am_oI_some, am_oV_some, am_oI_ite, am_oV_ite, am_bind_ite, Int.toNat_natCast, Int.toNat_zero, Int.reduceToNat, ite_true, ite_false, not_true_eq_false, not_false_eq_true, decide_true, decide_false, decide_eq_true_eq, Bool.false_eq_true, Nat.add_zero, am_rok1_0, am_rok1_1, cond_true, cond_false, am_w_nat1, true_or, or_true, false_or, or_false, true_and, and_true, false_and, and_false, Int.reduceEq, Int.reduceNeg, Int.reduceLT, Int.reduceLE, or_self, and_self, if_pos, if_neg]
  rw [bk_244_16]
  simp (disch := omega) only [bk_244_54, hZ, dv_f0, dv_f1, dv_f2, dv_f3, dv_f4, dv_f5, dv_f6, dv_f7, dv_f8, dv_f9, dv_f10, dv_f11, dv_f12, dv_f13, dv_g0, dv_g1, dv_g2, dv_i0, dv_i1, dv_p0, dv_p1, dv_isc, dv_iscL, dv_r0, dv_r1, dv_r2, dv_r3, dv_r4, dv_r5, dv_r6, dv_r7, dv_r8, dv_r9, dv_r10, dv_r11, dv_r12, dv_r13, dv_r14, dv_r15, Option.bind_some, Bool.cond_decide, am_oI_some, am_oV_some, am_oI_ite, am_oV_ite, am_bind_ite, Int.toNat_natCast, Int.toNat_zero, Int.reduceToNat, ite_true, ite_false, not_true_eq_false, not_false_eq_true, decide_true, decide_false, decide_eq_true_eq, Bool.false_eq_true, Nat.add_zero, am_rok1_0, am_rok1_1, cond_true, cond_false, am_w_nat1, true_or, or_true, false_or, or_false, true_and, and_true, false_and, and_false, Int.reduceEq, Int.reduceNeg, Int.reduceLT, Int.reduceLE, or_self, and_self, if_pos, if_neg]
theorem m_wear (mr : MR M At) (hZ : At 0 0 = Z) (hZ8 : 1 ≤ Z ∧ Z ≤ 8) : am_cI 250 [am_R mo, am_R (mo + 9)] (mv mo (drow M 9 (pack At)) g) = some (spr (At 4) Z, mv mo (drow M 9 (pack At)) g) := by
  have f30 : M 3 0 = (Z : Int) := mr.1.trans hZ
  have r4 : ∀ z : Nat, z < 8 → am_rd (mv mo (drow M 9 (pack At)) g) (mo + 9) 0 (16 + (z : Int)) = some (At 4 z) := fun z hz => mr4 (m := mo) (M := M) (A := At) (h := g) (c := 9) (by omega) (z := z) hz
  have r40 : am_rd (mv mo (drow M 9 (pack At)) g) (mo + 9) 0 16 = some (At 4 0) := r4 0 (by omega)
  have r3 : am_rd (mv mo (drow M 9 (pack At)) g) (mo + 3) 0 0 = some (Z : Int) := by
    have r := mv_r3 (m := mo) (M := drow M 9 (pack At)) (h := g) (j := 0) (by omega) (by omega)
    rw [Int.toNat_zero, drow_o _ _ (show (3 : Nat) ≠ 9 by omega), f30] at r
    exact r
  have step : ∀ j : Nat, j < Z - 1 → am_run am_ms 250 13 [am_R mo, am_R (mo + 9), am_I (mxs (fun i => At 4 (i + 1)) (At 4 0) j), am_I (mns (fun i => At 4 (i + 1)) (At 4 0) j), am_I ((j + 1 : Nat) : Int)] [] (mv mo (drow M 9 (pack At)) g) = am_run am_ms 250 13 [am_R mo, am_R (mo + 9), am_I (mxs (fun i => At 4 (i + 1)) (At 4 0) (j + 1)), am_I (mns (fun i => At 4 (i + 1)) (At 4 0) (j + 1)), am_I ((j + 1 + 1 : Nat) : Int)] [] (mv mo (drow M 9 (pack At)) g) := by
    intro j hj
    have e1 : mxs (fun i => At 4 (i + 1)) (At 4 0) (j + 1) = if mxs (fun i => At 4 (i + 1)) (At 4 0) j < At 4 (j + 1) then At 4 (j + 1) else mxs (fun i => At 4 (i + 1)) (At 4 0) j := rfl
    have e2 : mns (fun i => At 4 (i + 1)) (At 4 0) (j + 1) = if At 4 (j + 1) < mns (fun i => At 4 (i + 1)) (At 4 0) j then At 4 (j + 1) else mns (fun i => At 4 (i + 1)) (At 4 0) j := rfl
    rw [e1, e2]
    clear e1 e2
    generalize mxs (fun i => At 4 (i + 1)) (At 4 0) j = a
    generalize mns (fun i => At 4 (i + 1)) (At 4 0) j = b
    generalize e1 : j + 1 = z
    have rz := r4 z (by omega)
    generalize At 4 z = v at rz
    rw [bk_250_13]
    by_cases q1 : a < v
    · rw [if_pos q1]
      by_cases q2 : v < b
      · rw [if_pos q2]
        simp (disch := omega) only [bk_250_36, bk_250_46, bk_250_69, mv_f0_6, r3, nte16, rz, Option.bind_some, Bool.cond_decide, am_oI_some, am_oV_some, am_oI_ite, am_oV_ite, am_bind_ite, Int.toNat_natCast, Int.toNat_zero, Int.reduceToNat, ite_true, ite_false, not_true_eq_false, not_false_eq_true, decide_true, decide_false, decide_eq_true_eq, Bool.false_eq_true, Nat.add_zero, am_rok1_0, am_rok1_1, cond_true, cond_false, am_w_nat1, true_or, or_true, false_or, or_false, true_and, and_true, false_and, and_false, Int.reduceEq, Int.reduceNeg, Int.reduceLT, Int.reduceLE, or_self, and_self, if_pos, if_neg]
      · rw [if_neg q2]
        simp (disch := omega) only [bk_250_36, bk_250_46, bk_250_68, bk_250_69, mv_f0_6, r3, nte16, rz, Option.bind_some, Bool.cond_decide, am_oI_some, am_oV_some, am_oI_ite, am_oV_ite, am_bind_ite, Int.toNat_natCast, Int.toNat_zero, Int.reduceToNat, ite_true, ite_false, not_true_eq_false, not_false_eq_true, decide_true, decide_false, decide_eq_true_eq, Bool.false_eq_true, Nat.add_zero, am_rok1_0, am_rok1_1, cond_true, cond_false, am_w_nat1, true_or, or_true, false_or, or_false, true_and, and_true, false_and, and_false, Int.reduceEq, Int.reduceNeg, Int.reduceLT, Int.reduceLE, or_self, and_self, if_pos, if_neg]
    · rw [if_neg q1]
      by_cases q2 : v < b
      · rw [if_pos q2]
        simp (disch := omega) only [bk_250_45, bk_250_46, bk_250_69, mv_f0_6, r3, nte16, rz, Option.bind_some, Bool.cond_decide, am_oI_some, am_oV_some, am_oI_ite, am_oV_ite, am_bind_ite, Int.toNat_natCast, Int.toNat_zero, Int.reduceToNat, ite_true, ite_false, not_true_eq_false, not_false_eq_true, decide_true, decide_false, decide_eq_true_eq, Bool.false_eq_true, Nat.add_zero, am_rok1_0, am_rok1_1, cond_true, cond_false, am_w_nat1, true_or, or_true, false_or, or_false, true_and, and_true, false_and, and_false, Int.reduceEq, Int.reduceNeg, Int.reduceLT, Int.reduceLE, or_self, and_self, if_pos, if_neg]
      · rw [if_neg q2]
        simp (disch := omega) only [bk_250_45, bk_250_46, bk_250_68, bk_250_69, mv_f0_6, r3, nte16, rz, Option.bind_some, Bool.cond_decide, am_oI_some, am_oV_some, am_oI_ite, am_oV_ite, am_bind_ite, Int.toNat_natCast, Int.toNat_zero, Int.reduceToNat, ite_true, ite_false, not_true_eq_false, not_false_eq_true, decide_true, decide_false, decide_eq_true_eq, Bool.false_eq_true, Nat.add_zero, am_rok1_0, am_rok1_1, cond_true, cond_false, am_w_nat1, true_or, or_true, false_or, or_false, true_and, and_true, false_and, and_false, Int.reduceEq, Int.reduceNeg, Int.reduceLT, Int.reduceLE, or_self, and_self, if_pos, if_neg]
  have key := loop_to (fun j : Nat => am_run am_ms 250 13 [am_R mo, am_R (mo + 9), am_I (mxs (fun i => At 4 (i + 1)) (At 4 0) j), am_I (mns (fun i => At 4 (i + 1)) (At 4 0) j), am_I ((j + 1 : Nat) : Int)] [] (mv mo (drow M 9 (pack At)) g)) (Z - 1) step
  have key' : am_run am_ms 250 13 [am_R mo, am_R (mo + 9), am_I (At 4 0), am_I (At 4 0), am_I 1] [] (mv mo (drow M 9 (pack At)) g) = am_run am_ms 250 13 [am_R mo, am_R (mo + 9), am_I (mxs (fun i => At 4 (i + 1)) (At 4 0) (Z - 1)), am_I (mns (fun i => At 4 (i + 1)) (At 4 0) (Z - 1)), am_I (Z : Int)] [] (mv mo (drow M 9 (pack At)) g) := by
    have k2 := key
    (try dsimp only at k2)
    rw [show Z - 1 + 1 = Z by omega] at k2
    exact k2
  unfold spr
  rw [am_cI, en_250, bk_250_0]
  simp (disch := omega) only [r40, key', Option.bind_some, Bool.cond_decide, am_oI_some, am_oV_some, am_oI_ite, am_oV_ite, am_bind_ite, Int.toNat_natCast, Int.toNat_zero, Int.reduceToNat, ite_true, ite_false, not_true_eq_false, not_false_eq_true, decide_true, decide_false, decide_eq_true_eq, Bool.false_eq_true, Nat.add_zero, am_rok1_0, am_rok1_1, cond_true, cond_false, am_w_nat1, true_or, or_true, false_or, or_false, true_and, and_true, false_and, and_false, Int.reduceEq, Int.reduceNeg, Int.reduceLT, Int.reduceLE, or_self, and_self, if_pos, if_neg]
  rw [bk_250_13]
  simp (disch := omega) only [bk_250_76, mv_f0_6, r3, Option.bind_some, Bool.cond_decide, am_oI_some, am_oV_some, am_oI_ite, am_oV_ite, am_bind_ite, Int.toNat_natCast, Int.toNat_zero, Int.reduceToNat, ite_true, ite_false, not_true_eq_false, not_false_eq_true, decide_true, decide_false, decide_eq_true_eq, Bool.false_eq_true, Nat.add_zero, am_rok1_0, am_rok1_1, cond_true, cond_false, am_w_nat1, true_or, or_true, false_or, or_false, true_and, and_true, false_and, and_false, Int.reduceEq, Int.reduceNeg, Int.reduceLT, Int.reduceLE, or_self, and_self, if_pos, if_neg]
/-- what is put by draws, a thousand times as many blocks by one put -/
def blk (a b d : Int) : Int := if d = 0 then 0 else am_div (am_w (1000 * am_w (a - b))) d
theorem m_blocksBy (b : Int) (d : Int) : am_cI 249 [am_R mo, am_I d, am_I b] (mv mo (drow M 9 (pack At)) g) = some (blk (am_w (At 1 0 + At 1 1)) b d, mv mo (drow M 9 (pack At)) g) := by
  have a1 := m_appc (mo := mo) (g := g) (M := drow M 9 (pack At)) (c := 9) (Ad := At) (by omega) (fun j _ => by rw [drow_t])
  unfold blk
  by_cases e : d = 0
  · rw [if_pos e, am_cI]; simp (disch := omega) only [en_249, bk_249_0, bk_249_8, bk_249_23, e, Option.bind_some, Bool.cond_decide, am_oI_some, am_oV_some, am_oI_ite, am_oV_ite, am_bind_ite, Int.toNat_natCast, Int.toNat_zero, Int.reduceToNat, ite_true, ite_false, not_true_eq_false, not_false_eq_true, decide_true, decide_false, decide_eq_true_eq, Bool.false_eq_true, Nat.add_zero, am_rok1_0, am_rok1_1, cond_true, cond_false, am_w_nat1, true_or, or_true, false_or, or_false, true_and, and_true, false_and, and_false, Int.reduceEq, Int.reduceNeg, Int.reduceLT, Int.reduceLE, or_self, and_self, if_pos, if_neg]
  · rw [if_neg e, am_cI]; simp (disch := omega) only [en_249, bk_249_0, bk_249_8, bk_249_23, mv_f0_16, a1, e, Option.bind_some, Bool.cond_decide, am_oI_some, am_oV_some, am_oI_ite, am_oV_ite, am_bind_ite, Int.toNat_natCast, Int.toNat_zero, Int.reduceToNat, ite_true, ite_false, not_true_eq_false, not_false_eq_true, decide_true, decide_false, decide_eq_true_eq, Bool.false_eq_true, Nat.add_zero, am_rok1_0, am_rok1_1, cond_true, cond_false, am_w_nat1, true_or, or_true, false_or, or_false, true_and, and_true, false_and, and_false, Int.reduceEq, Int.reduceNeg, Int.reduceLT, Int.reduceLE, or_self, and_self, if_pos, if_neg]
theorem m_draw9 {f : Nat → Int} {b : Int} (hb : 0 < b) : am_cI 204 [am_R mo, am_I b] (mv mo (drow M 9 f) g) = some (drw (dnx (M 0 29)) b, mv mo (drow (dup M 0 29 (dnx (M 0 29))) 9 f) g) := by
  have c := m_draw (mo := mo) (M := drow M 9 f) (g := g) hb
  rw [dup_drow_o _ _ _ _ (by omega), drow_o _ _ (by omega)] at c
  exact c
theorem m_draw9' {f : Nat → Int} {b : Int} (hb : 0 < b) (v : Int) : am_cI 204 [am_R mo, am_I b] (mv mo (drow (dup M 0 29 v) 9 f) g) = some (drw (dnx v) b, mv mo (drow (dup M 0 29 (dnx v)) 9 f) g) := by
  have c := m_draw9 (mo := mo) (M := dup M 0 29 v) (g := g) (f := f) hb
  rw [dup_dup, dup_t, va_up_self] at c
  exact c
theorem t_below2 {b : Int} (hb : 0 < b) (v : Int) : am_cI 201 [am_R (x + 86), am_I b] (zv x N P K T (dup S 0 13 v) m A h) = some (drw (dnx v) b, zv x N P K T (dup S 0 13 (dnx v)) m A h) := by
  have c := t_below (x := x) (N := N) (P := P) (K := K) (T := T) (S := dup S 0 13 v) (m := m) (A := A) (h := h) hb
  rw [dup_dup, dup_t, va_up_self] at c
  exact c
def SG (S S' : Nat → Nat → Int) : Prop := (∀ r, r ≠ 0 → S' r = S r) ∧ ∀ j, j ≠ 8 → j ≠ 9 → j ≠ 10 → j ≠ 13 → S' 0 j = S 0 j
theorem SG_refl (S : Nat → Nat → Int) : SG S S := ⟨fun _ _ => rfl, fun _ _ _ _ _ => rfl⟩
theorem SG_trans {S S' S'' : Nat → Nat → Int} (a : SG S S') (b : SG S' S'') : SG S S'' := ⟨fun r h => (b.1 r h).trans (a.1 r h), fun j h1 h2 h3 h4 => (b.2 j h1 h2 h3 h4).trans (a.2 j h1 h2 h3 h4)⟩
theorem SG_f (S : Nat → Nat → Int) {j : Nat} (hj : j = 8 ∨ j = 9 ∨ j = 10 ∨ j = 13) (v : Int) : SG S (dup S 0 j v) := ⟨fun r h => dup_o _ _ _ h, fun i _ _ _ _ => by rw [dup_t, va_up_ne _ _ (by omega)]⟩
theorem SG_SK {S S' : Nat → Nat → Int} (a : SG S S') : SK S S' := ⟨fun r h => a.1 r (by omega), fun j h => a.2 j (by omega) (by omega) (by omega) (by omega)⟩
theorem gr_loop {q : Nat} (hq : q ≤ 200) (sd af : Int) (hT : 0 ≤ Tc) : ∀ (r j n : Nat) (P T At S M : Nat → Nat → Int) (v6 w6 w7 : am_V), r + j = q → IV T Z 3 → RL T At md O Tc 8 → BD T n → (n : Int) + 3000 * r + Tc + 4000 < 2147483647 → MR M At → S 0 8 = j → M 0 29 = S 0 13 → ∃ (d : Nat) (c : Int) (P' T' At' S' M' : Nat → Nat → Int) (v6' : am_V), d ≤ 200 ∧ am_run am_ms 245 25 [am_R (x + 67), am_I q, am_L sd, am_K 1, am_I af, am_I 1, v6] [] (zv x N P K T S m A h) = am_run am_ms 245 113 [am_R (x + 67), am_I q, am_L sd, am_K 1, am_I af, am_I c, v6'] [] (zv x N P' K T' S' m A h) ∧ am_run am_ms 248 11 [am_R mo, am_I q, am_L sd, am_K 1, am_I j, am_I 1, w6, w7] [] (mv mo (drow M 9 (pack At)) g) = some (some (am_I d), mv mo (drow M' 9 (pack At')) g) ∧ S' 0 8 = d ∧ SG S S' ∧ MT M M' ∧ RL T' At' md O Tc 8 ∧ IV T' Z 3 ∧ T' 0 = T 0 ∧ MR M' At' := by
  intro r
  induction r with
  | zero =>
    intro j n P T At S M v6 w6 w7 hj iv rl bd hn mr h8 hsd
    refine ⟨j, 1, P, T, At, S, M, v6, by omega, ?_, ?_, h8, SG_refl S, MT_refl M, rl, iv, rfl, mr⟩
    · rw [bk_245_25]; simp (disch := omega) only [zv_f67_3, h8, Option.bind_some, Bool.cond_decide, am_oI_some, am_oV_some, am_oI_ite, am_oV_ite, am_bind_ite, Int.toNat_natCast, Int.toNat_zero, Int.reduceToNat, ite_true, ite_false, not_true_eq_false, not_false_eq_true, decide_true, decide_false, decide_eq_true_eq, Bool.false_eq_true, Nat.add_zero, am_rok1_0, am_rok1_1, cond_true, cond_false, am_w_nat1, true_or, or_true, false_or, or_false, true_and, and_true, false_and, and_false, Int.reduceEq, Int.reduceNeg, Int.reduceLT, Int.reduceLE, or_self, and_self, if_pos, if_neg]
    · rw [bk_248_11]; simp (disch := omega) only [bk_248_70, Option.bind_some, Bool.cond_decide, am_oI_some, am_oV_some, am_oI_ite, am_oV_ite, am_bind_ite, Int.toNat_natCast, Int.toNat_zero, Int.reduceToNat, ite_true, ite_false, not_true_eq_false, not_false_eq_true, decide_true, decide_false, decide_eq_true_eq, Bool.false_eq_true, Nat.add_zero, am_rok1_0, am_rok1_1, cond_true, cond_false, am_w_nat1, true_or, or_true, false_or, or_false, true_and, and_true, false_and, and_false, Int.reduceEq, Int.reduceNeg, Int.reduceLT, Int.reduceLE, or_self, and_self, if_pos, if_neg]
  | succ r ih =>
    intro j n P T At S M v6 w6 w7 hj iv rl bd hn mr h8 hsd
    have c1 := t_below (x := x) (N := N) (P := P) (K := K) (T := T) (S := S) (m := m) (A := A) (h := h) (b := 32) (by omega)
    have e1 := m_draw9 (mo := mo) (M := M) (g := g) (f := pack At) (b := 32) (by omega)
    rw [hsd] at e1
    have hk1 := drw_r (dnx (S 0 13)) (b := 32) (by omega) (by omega)
    generalize dnx (S 0 13) = s1 at c1 e1 hk1
    obtain ⟨tp, etp⟩ : ∃ tp : Nat, drw s1 32 = tp := ⟨(drw s1 32).toNat, by omega⟩
    rw [etp] at c1 e1 hk1
    have htp : tp < 32 := by omega
    have c2 := t_below2 (x := x) (N := N) (P := P) (K := K) (T := T) (S := S) (m := m) (A := A) (h := h) (b := ((tp + 1 : Nat) : Int)) (by omega) s1
    have e2 := m_draw9' (mo := mo) (M := M) (g := g) (f := pack At) (b := ((tp + 1 : Nat) : Int)) (by omega) s1
    have hk2 := drw_r (dnx s1) (b := ((tp + 1 : Nat) : Int)) (by omega) (by omega)
    obtain ⟨key, ek⟩ : ∃ key : Nat, drw (dnx s1) ((tp + 1 : Nat) : Int) = key := ⟨(drw (dnx s1) ((tp + 1 : Nat) : Int)).toNat, by omega⟩
    rw [ek] at c2 e2 hk2
    have hkey : key < 32 := by omega
    generalize dnx s1 = s2 at c2 e2
    have c3 := t_below2 (x := x) (N := N) (P := P) (K := K) (T := T) (S := S) (m := m) (A := A) (h := h) (b := 1000) (by omega) s2
    have e3 := m_draw9' (mo := mo) (M := M) (g := g) (f := pack At) (b := 1000) (by omega) s2
    have hk3 := drw_r (dnx s2) (b := 1000) (by omega) (by omega)
    generalize drw (dnx s2) 1000 = val at c3 e3 hk3
    generalize dnx s2 = s3 at c3 e3
    have h5 := bd.2.1
    obtain ⟨b, v, P1, T1, At1, M1, c4, e4, me, iv1, rl1, bd1, b1, b0, _, et0, mr1⟩ := tr_put (x := x) (mo := mo) (m := m) (A := A) (N := N) (P := P) (K := K) (T := T) (S := dup S 0 13 s3) (h := h) (g := g) (M := dup M 0 29 s3) iv rl bd (by omega) (Or.inr ⟨h5.1, hT, by omega⟩) (MT_MR (MT_x M s3) mr) hkey (val := val) (by omega)
    have f8 : dup S 0 13 s3 0 8 = (j : Int) := by rw [dup_t, va_up_ne _ _ (by omega)]; exact h8
    have mt1 : MT M M1 := MT_trans (MT_x M s3) (MT_ME me)
    have hjq : j < q := by omega
    have hj2 : j < 200 := by omega
    have e29 : M1 0 29 = s3 := by rw [me.2 29 (by omega) (by omega), dup_t, va_up_self]
    cases b with
    | true =>
      have hv := b1 rfl
      rw [if_pos rfl] at e4
      have g13 : M1 0 29 = dup (dup S 0 13 s3) 0 8 ((j + 1 : Nat) : Int) 0 13 := by rw [e29, dup_t, va_up_ne _ _ (by omega), dup_t, va_up_self]
      obtain ⟨d, c, P2, T2, At2, S2, M2, v62, hd, k1, k2, k3, k4, k5, k6, k7, k8, k9⟩ := ih (j + 1) (n + 3000) P1 T1 At1 (dup (dup S 0 13 s3) 0 8 ((j + 1 : Nat) : Int)) M1 (am_I key) (am_I tp) (am_I key) (by omega) iv1 rl1 bd1 (by omega) mr1 (by rw [dup_t, va_up_self]) g13
      refine ⟨d, c, P2, T2, At2, S2, M2, v62, hd, ?_, ?_, k3, SG_trans (SG_trans (SG_f S (by omega) s3) (SG_f _ (by omega) _)) k4, MT_trans mt1 k5, k6, k7, k8.trans et0, k9⟩
      · clear h5 hn hk1 hk2 hk3 bd bd1
        rw [← k1, bk_245_25]; simp (disch := omega) only [bk_245_53, bk_245_85, bk_245_89, bk_245_106, zv_f67_0, zv_f67_1, zv_f67_2, zv_f67_3, zv_c86, zv_p67_3, zT_c, h8, f8, am_w_nat1, c1, c2, c3, c4, Option.bind_some, Bool.cond_decide, am_oI_some, am_oV_some, am_oI_ite, am_oV_ite, am_bind_ite, Int.toNat_natCast, Int.toNat_zero, Int.reduceToNat, ite_true, ite_false, not_true_eq_false, not_false_eq_true, decide_true, decide_false, decide_eq_true_eq, Bool.false_eq_true, Nat.add_zero, am_rok1_0, am_rok1_1, cond_true, cond_false, am_w_nat1, true_or, or_true, false_or, or_false, true_and, and_true, false_and, and_false, Int.reduceEq, Int.reduceNeg, Int.reduceLT, Int.reduceLE, or_self, and_self, if_pos, if_neg]
      · clear h5 hn hk1 hk2 hk3 bd bd1
        rw [← k2, bk_248_11]; simp (disch := omega) only [bk_248_38, bk_248_67, mv_c0, mv_f0_16, am_w_nat1, e1, e2, e3, e4, Option.bind_some, Bool.cond_decide, am_oI_some, am_oV_some, am_oI_ite, am_oV_ite, am_bind_ite, Int.toNat_natCast, Int.toNat_zero, Int.reduceToNat, ite_true, ite_false, not_true_eq_false, not_false_eq_true, decide_true, decide_false, decide_eq_true_eq, Bool.false_eq_true, Nat.add_zero, am_rok1_0, am_rok1_1, cond_true, cond_false, am_w_nat1, true_or, or_true, false_or, or_false, true_and, and_true, false_and, and_false, Int.reduceEq, Int.reduceNeg, Int.reduceLT, Int.reduceLE, or_self, and_self, if_pos, if_neg]
    | false =>
      have hv := b0 rfl
      rw [if_neg (by decide)] at e4
      refine ⟨j, 0, P1, T1, At1, dup (dup S 0 13 s3) 0 8 (j : Int), M1, am_I key, by omega, ?_, ?_, by rw [dup_t, va_up_self], SG_trans (SG_f S (by omega) s3) (SG_f _ (by omega) _), mt1, rl1, iv1, et0, mr1⟩
      · have f8' : dup (dup S 0 13 s3) 0 8 (j : Int) 0 8 = (j : Int) := by rw [dup_t, va_up_self]
        clear h5 hn hk1 hk2 hk3 bd bd1
        rw [bk_245_25]; simp (disch := omega) only [bk_245_53, bk_245_88, bk_245_89, bk_245_105, bk_245_106, zv_f67_0, zv_f67_1, zv_f67_2, zv_f67_3, zv_c86, zv_p67_3, zT_c, h8, f8, am_w_nat1, scx00, c1, c2, c3, c4, Option.bind_some, Bool.cond_decide, am_oI_some, am_oV_some, am_oI_ite, am_oV_ite, am_bind_ite, Int.toNat_natCast, Int.toNat_zero, Int.reduceToNat, ite_true, ite_false, not_true_eq_false, not_false_eq_true, decide_true, decide_false, decide_eq_true_eq, Bool.false_eq_true, Nat.add_zero, am_rok1_0, am_rok1_1, cond_true, cond_false, am_w_nat1, true_or, or_true, false_or, or_false, true_and, and_true, false_and, and_false, Int.reduceEq, Int.reduceNeg, Int.reduceLT, Int.reduceLE, or_self, and_self, if_pos, if_neg]
        rw [bk_245_25]; simp (disch := omega) only [zv_f67_3, f8', Option.bind_some, Bool.cond_decide, am_oI_some, am_oV_some, am_oI_ite, am_oV_ite, am_bind_ite, Int.toNat_natCast, Int.toNat_zero, Int.reduceToNat, ite_true, ite_false, not_true_eq_false, not_false_eq_true, decide_true, decide_false, decide_eq_true_eq, Bool.false_eq_true, Nat.add_zero, am_rok1_0, am_rok1_1, cond_true, cond_false, am_w_nat1, true_or, or_true, false_or, or_false, true_and, and_true, false_and, and_false, Int.reduceEq, Int.reduceNeg, Int.reduceLT, Int.reduceLE, or_self, and_self, if_pos, if_neg]
      · clear h5 hn hk1 hk2 hk3 bd bd1
        rw [bk_248_11]; simp (disch := omega) only [bk_248_38, bk_248_67, mv_c0, mv_f0_16, am_w_nat1, e1, e2, e3, e4, Option.bind_some, Bool.cond_decide, am_oI_some, am_oV_some, am_oI_ite, am_oV_ite, am_bind_ite, Int.toNat_natCast, Int.toNat_zero, Int.reduceToNat, ite_true, ite_false, not_true_eq_false, not_false_eq_true, decide_true, decide_false, decide_eq_true_eq, Bool.false_eq_true, Nat.add_zero, am_rok1_0, am_rok1_1, cond_true, cond_false, am_w_nat1, true_or, or_true, false_or, or_false, true_and, and_true, false_and, and_false, Int.reduceEq, Int.reduceNeg, Int.reduceLT, Int.reduceLE, or_self, and_self, if_pos, if_neg]
        rw [bk_248_11]; simp (disch := omega) only [bk_248_70, Option.bind_some, Bool.cond_decide, am_oI_some, am_oV_some, am_oI_ite, am_oV_ite, am_bind_ite, Int.toNat_natCast, Int.toNat_zero, Int.reduceToNat, ite_true, ite_false, not_true_eq_false, not_false_eq_true, decide_true, decide_false, decide_eq_true_eq, Bool.false_eq_true, Nat.add_zero, am_rok1_0, am_rok1_1, cond_true, cond_false, am_w_nat1, true_or, or_true, false_or, or_false, true_and, and_true, false_and, and_false, Int.reduceEq, Int.reduceNeg, Int.reduceLT, Int.reduceLE, or_self, and_self, if_pos, if_neg]
/-- a whole growing -/
theorem t_grow {q : Nat} (hq : q ≤ 200) (sd : Int) (hT : 0 ≤ Tc) (iv : IV T Z 3) (rl : RL T At md O Tc 8) (bd : BD T n) (hn : (n : Int) + 600000 + Tc + 4000 < 2147483647) (mr : MR M At) : ∃ (d : Nat) (P' T' At' S' M' : Nat → Nat → Int), d ≤ 200 ∧ am_cV 245 [am_R (x + 67), am_I q, am_L sd] (zv x N P K T S m A h) = some (zv x N P' K T' S' m A h) ∧ am_cI 248 [am_R mo, am_I q, am_L sd] (mv mo (drow M 9 (pack At)) g) = some ((d : Int), mv mo (drow M' 9 (pack At')) g) ∧ S' 0 8 = d ∧ S' 0 9 = blk (am_w (T' 1 0 + T' 1 1)) (am_w (T 1 0 + T 1 1)) d ∧ S' 0 10 = spr (T' 4) Z ∧ SG S S' ∧ MT M M' ∧ RL T' At' md O Tc 8 ∧ IV T' Z 3 ∧ T' 0 = T 0 ∧ MR M' At' := by
  have a0 := zt_app (x := x) (N := N) (P := P) (K := K) (T := T) (S := dup (dup S 0 13 sd) 0 8 0) (m := m) (A := A) (h := h)
  have g13 : dup M 0 29 sd 0 29 = dup (dup S 0 13 sd) 0 8 0 0 13 := by rw [dup_t, va_up_self, dup_t, va_up_ne _ _ (by omega), dup_t, va_up_self]
  obtain ⟨d, c, P2, T2, At2, S2, M2, v62, hd, k1, k2, k3, k4, k5, k6, k7, k8, k9⟩ := gr_loop (x := x) (mo := mo) (m := m) (A := A) (N := N) (K := K) (h := h) (g := g) (Z := Z) hq sd (am_w (T 1 0 + T 1 1)) hT q 0 n P T At (dup (dup S 0 13 sd) 0 8 0) (dup M 0 29 sd) (am_K 1) (am_K 1) (am_K 1) (by omega) iv rl bd (by omega) (MT_MR (MT_x M sd) mr) (by rw [dup_t, va_up_self]; rfl) g13
  have k2' : am_run am_ms 248 11 [am_R mo, am_I q, am_L sd, am_K 1, am_I 0, am_I 1, am_K 1, am_K 1] [] (mv mo (drow (dup M 0 29 sd) 9 (pack At)) g) = some (some (am_I d), mv mo (drow M2 9 (pack At2)) g) := k2
  have a1 := zt_app (x := x) (N := N) (P := P2) (K := K) (T := T2) (S := S2) (m := m) (A := A) (h := h)
  have sp : ∀ S3 : Nat → Nat → Int, am_cI 244 [am_R (x + 68)] (zv x N P2 K T2 S3 m A h) = some (spr (T2 4) Z, zv x N P2 K T2 S3 m A h) := fun S3 => by
    have c := d_spread (d := x + 68) (h := zv x N P2 K T2 S3 m A h) k7.1.1.1 k7.1.2.1
    rw [zv_dT] at c
    exact c
  have ec : am_cV 245 [am_R (x + 67), am_I q, am_L sd] (zv x N P K T S m A h) = am_oV (am_run am_ms 245 113 [am_R (x + 67), am_I q, am_L sd, am_K 1, am_I (am_w (T 1 0 + T 1 1)), am_I c, v62] [] (zv x N P2 K T2 S2 m A h)) := by
    clear hn
    rw [am_cV, en_245, bk_245_0]; simp (disch := omega) only [zv_f67_0, zv_f67_2, zv_p86_0, zv_p67_3, zT_c, a0, k1, Option.bind_some, Bool.cond_decide, am_oI_some, am_oV_some, am_oI_ite, am_oV_ite, am_bind_ite, Int.toNat_natCast, Int.toNat_zero, Int.reduceToNat, ite_true, ite_false, not_true_eq_false, not_false_eq_true, decide_true, decide_false, decide_eq_true_eq, Bool.false_eq_true, Nat.add_zero, am_rok1_0, am_rok1_1, cond_true, cond_false, am_w_nat1, true_or, or_true, false_or, or_false, true_and, and_true, false_and, and_false, Int.reduceEq, Int.reduceNeg, Int.reduceLT, Int.reduceLE, or_self, and_self, if_pos, if_neg]
  have em : am_cI 248 [am_R mo, am_I q, am_L sd] (mv mo (drow M 9 (pack At)) g) = some ((d : Int), mv mo (drow M2 9 (pack At2)) g) := by
    clear hn
    rw [am_cI, en_248, bk_248_0]; simp (disch := omega) only [mv_p0_29, dup_drow_o, k2', Option.bind_some, Bool.cond_decide, am_oI_some, am_oV_some, am_oI_ite, am_oV_ite, am_bind_ite, Int.toNat_natCast, Int.toNat_zero, Int.reduceToNat, ite_true, ite_false, not_true_eq_false, not_false_eq_true, decide_true, decide_false, decide_eq_true_eq, Bool.false_eq_true, Nat.add_zero, am_rok1_0, am_rok1_1, cond_true, cond_false, am_w_nat1, true_or, or_true, false_or, or_false, true_and, and_true, false_and, and_false, Int.reduceEq, Int.reduceNeg, Int.reduceLT, Int.reduceLE, or_self, and_self, if_pos, if_neg]
  generalize am_w (T 1 0 + T 1 1) = af at ec ⊢
  refine ⟨d, P2, T2, At2, dup (dup S2 0 9 (blk (am_w (T2 1 0 + T2 1 1)) af d)) 0 10 (spr (T2 4) Z), M2, hd, ?_, em, ?_, ?_, ?_, ?_, MT_trans (MT_x M sd) k5, k6, k7, k8, k9⟩
  · rw [ec, bk_245_113]
    unfold blk
    clear hn
    by_cases e : (d : Int) = 0
    · rw [if_pos e]
      simp (disch := omega) only [bk_245_144, zv_f67_0, zv_f67_3, zv_p67_4, zv_p67_5, k3, sp, Option.bind_some, Bool.cond_decide, am_oI_some, am_oV_some, am_oI_ite, am_oV_ite, am_bind_ite, Int.toNat_natCast, Int.toNat_zero, Int.reduceToNat, ite_true, ite_false, not_true_eq_false, not_false_eq_true, decide_true, decide_false, decide_eq_true_eq, Bool.false_eq_true, Nat.add_zero, am_rok1_0, am_rok1_1, cond_true, cond_false, am_w_nat1, true_or, or_true, false_or, or_false, true_and, and_true, false_and, and_false, Int.reduceEq, Int.reduceNeg, Int.reduceLT, Int.reduceLE, or_self, and_self, if_pos, if_neg]
    · rw [if_neg e]
      simp (disch := omega) only [bk_245_125, bk_245_144, zv_f67_0, zv_f67_3, zv_p67_4, zv_p67_5, zT_c, k3, a1, sp, Option.bind_some, Bool.cond_decide, am_oI_some, am_oV_some, am_oI_ite, am_oV_ite, am_bind_ite, Int.toNat_natCast, Int.toNat_zero, Int.reduceToNat, ite_true, ite_false, not_true_eq_false, not_false_eq_true, decide_true, decide_false, decide_eq_true_eq, Bool.false_eq_true, Nat.add_zero, am_rok1_0, am_rok1_1, cond_true, cond_false, am_w_nat1, true_or, or_true, false_or, or_false, true_and, and_true, false_and, and_false, Int.reduceEq, Int.reduceNeg, Int.reduceLT, Int.reduceLE, or_self, and_self, if_pos, if_neg]
  · rw [dup_t, va_up_ne _ _ (by omega), dup_t, va_up_ne _ _ (by omega)]; exact k3
  · rw [dup_t, va_up_ne _ _ (by omega), dup_t, va_up_self]
  · rw [dup_t, va_up_self]
  · exact SG_trans (SG_trans (SG_trans (SG_trans (SG_f S (by omega) sd) (SG_f _ (by omega) 0)) k4) (SG_f _ (by omega) _)) (SG_f _ (by omega) _)
end GROW
