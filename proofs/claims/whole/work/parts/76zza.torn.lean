/-! ===== torn cleanings ===== -/
theorem cnt_le1 {P : Nat → Bool} : ∀ n, (∀ i j, i < n → j < n → P i = true → P j = true → i = j) → cnt P n ≤ 1 := by
  intro n
  induction n with
  | zero => intro _; exact Nat.zero_le 1
  | succ n ih =>
    intro h
    cases e : P n with
    | false =>
      rw [cnt_f e]
      exact ih (fun i j hi hj => h i j (by omega) (by omega))
    | true =>
      rw [cnt_t e, cnt_none n (fun j hj => by
        cases q : P j with
        | false => rfl
        | true => have := h j n (by omega) (by omega) q e; omega)]
      omega
/-- a block of the same key and number, at an earlier place -/
def agq (D : Nat → Nat → Int) (p q : Nat) : Bool := cd_has D q && decide (D 7 q = D 7 p ∧ D 9 q = D 9 p)
def tw1 (D : Nat → Nat → Int) (p : Nat) : Bool := cd_has D p && decide (0 < cnt (agq D p) p)
def tw2 (D : Nat → Nat → Int) : Nat → Nat
  | 0 => 0
  | p + 1 => tw2 D p + if cd_has D p = true then cnt (agq D p) p else 0
theorem tw_eq {D : Nat → Nat → Int} (h : ∀ p, p < 128 → cd_has D p = true → cnt (agq D p) p ≤ 1) : ∀ n, n ≤ 128 → tw2 D n = cnt (tw1 D) n := by
  intro n
  induction n with
  | zero => intro _; rfl
  | succ n ih =>
    intro hn
    have h1 := ih (by omega)
    have es : tw2 D (n + 1) = tw2 D n + if cd_has D n = true then cnt (agq D n) n else 0 := rfl
    rw [es, h1]
    cases e : cd_has D n with
    | false =>
      have et : tw1 D n = false := by unfold tw1; rw [e]; rfl
      rw [cnt_f et, if_neg (by decide)]
      rfl
    | true =>
      have h2 := h n (by omega) e
      rw [if_pos rfl]
      by_cases q : 0 < cnt (agq D n) n
      · have et : tw1 D n = true := by unfold tw1; rw [e, decide_eq_true q]; rfl
        rw [cnt_t et]
        omega
      · have et : tw1 D n = false := by unfold tw1; rw [e, decide_eq_false q]; rfl
        rw [cnt_f et]
        omega
theorem tw2_le (D : Nat → Nat → Int) : ∀ n, tw2 D n ≤ 128 * n ∨ 128 < n := by
  intro n
  induction n with
  | zero => left; exact Nat.le_refl _
  | succ n ih =>
    by_cases q : 128 < n + 1
    · right; exact q
    · left
      have h1 := ih.resolve_right (by omega)
      have h2 := cnt_le (agq D n) n
      have es : tw2 D (n + 1) = tw2 D n + if cd_has D n = true then cnt (agq D n) n else 0 := rfl
      rw [es]
      split
      · omega
      · omega
section TORN
variable {d x mo n m Z : Nat} {A : Nat → Nat} {D N P K T S M At Ad : Nat → Nat → Int} {HD : Nat → Nat → Nat → Int} {h g : am_H}
theorem s_again {p : Nat} (hp : p < 128) : am_cI 228 [am_R d, am_I p] (dv d D h) = some (if 0 < cnt (agq D p) p then 1 else 0, dv d D h) := by
  have step : ∀ q : Nat, q < p → agq D p q = false → am_run am_ms 228 2 [am_R d, am_I p, am_I q] [] (dv d D h) = am_run am_ms 228 2 [am_R d, am_I p, am_I ((q + 1 : Nat) : Int)] [] (dv d D h) := by
    intro q hq e
    have c1 := c_hasBlock d D h q (by omega)
    unfold agq at e
    rw [bk_228_2]
    cases e1 : cd_has D q with
    | false =>
      rw [e1, if_neg (by decide)] at c1
      simp (disch := omega) only [bk_228_47, c1, dv_f0, dv_f1, dv_f2, dv_f3, dv_f4, dv_f5, dv_f6, dv_f7, dv_f8, dv_f9, dv_f10, dv_f11, dv_f12, dv_f13, dv_g0, dv_g1, dv_g2, dv_i0, dv_i1, dv_p0, dv_p1, dv_isc, dv_iscL, dv_r0, dv_r1, dv_r2, dv_r3, dv_r4, dv_r5, dv_r6, dv_r7, dv_r8, dv_r9, dv_r10, dv_r11, dv_r12, dv_r13, dv_r14, dv_r15, Option.bind_some, Bool.cond_decide, am_oI_some, am_oV_some, am_oI_ite, am_oV_ite, am_bind_ite, Int.toNat_natCast, Int.toNat_zero, Int.reduceToNat, ite_true, ite_false, not_true_eq_false, not_false_eq_true, decide_true, decide_false, decide_eq_true_eq, Bool.false_eq_true, Nat.add_zero, am_rok1_0, am_rok1_1, cond_true, cond_false, am_w_nat1, true_or, or_true, false_or, or_false, true_and, and_true, false_and, and_false, Int.reduceEq, Int.reduceNeg, Int.reduceLT, Int.reduceLE, or_self, and_self, if_pos, if_neg]
    | true =>
      rw [e1, if_pos rfl] at c1
      rw [e1, Bool.true_and] at e
      have e2 := of_decide_eq_false e
      by_cases e3 : D 7 q = D 7 p
      · have e4 : ¬ D 9 q = D 9 p := fun t => e2 ⟨e3, t⟩
        simp (disch := omega) only [bk_228_26, bk_228_47, c1, e3, e4, dv_f0, dv_f1, dv_f2, dv_f3, dv_f4, dv_f5, dv_f6, dv_f7, dv_f8, dv_f9, dv_f10, dv_f11, dv_f12, dv_f13, dv_g0, dv_g1, dv_g2, dv_i0, dv_i1, dv_p0, dv_p1, dv_isc, dv_iscL, dv_r0, dv_r1, dv_r2, dv_r3, dv_r4, dv_r5, dv_r6, dv_r7, dv_r8, dv_r9, dv_r10, dv_r11, dv_r12, dv_r13, dv_r14, dv_r15, Option.bind_some, Bool.cond_decide, am_oI_some, am_oV_some, am_oI_ite, am_oV_ite, am_bind_ite, Int.toNat_natCast, Int.toNat_zero, Int.reduceToNat, ite_true, ite_false, not_true_eq_false, not_false_eq_true, decide_true, decide_false, decide_eq_true_eq, Bool.false_eq_true, Nat.add_zero, am_rok1_0, am_rok1_1, cond_true, cond_false, am_w_nat1, true_or, or_true, false_or, or_false, true_and, and_true, false_and, and_false, Int.reduceEq, Int.reduceNeg, Int.reduceLT, Int.reduceLE, or_self, and_self, if_pos, if_neg]
      · simp (disch := omega) only [bk_228_26, bk_228_47, c1, e3, dv_f0, dv_f1, dv_f2, dv_f3, dv_f4, dv_f5, dv_f6, dv_f7, dv_f8, dv_f9, dv_f10, dv_f11, dv_f12, dv_f13, dv_g0, dv_g1, dv_g2, dv_i0, dv_i1, dv_p0, dv_p1, dv_isc, dv_iscL, dv_r0, dv_r1, dv_r2, dv_r3, dv_r4, dv_r5, dv_r6, dv_r7, dv_r8, dv_r9, dv_r10, dv_r11, dv_r12, dv_r13, dv_r14, dv_r15, Option.bind_some, Bool.cond_decide, am_oI_some, am_oV_some, am_oI_ite, am_oV_ite, am_bind_ite, Int.toNat_natCast, Int.toNat_zero, Int.reduceToNat, ite_true, ite_false, not_true_eq_false, not_false_eq_true, decide_true, decide_false, decide_eq_true_eq, Bool.false_eq_true, Nat.add_zero, am_rok1_0, am_rok1_1, cond_true, cond_false, am_w_nat1, true_or, or_true, false_or, or_false, true_and, and_true, false_and, and_false, Int.reduceEq, Int.reduceNeg, Int.reduceLT, Int.reduceLE, or_self, and_self, if_pos, if_neg]
  rcases first_or (agq D p) p with hno | ⟨k, k1, k2, k3⟩
  · have key : am_run am_ms 228 2 [am_R d, am_I p, am_I 0] [] (dv d D h) = am_run am_ms 228 2 [am_R d, am_I p, am_I p] [] (dv d D h) := loop_to (fun q : Nat => am_run am_ms 228 2 [am_R d, am_I p, am_I q] [] (dv d D h)) p (fun q hq => step q hq (hno q hq))
    rw [if_neg (by rw [cnt_none p hno]; omega), am_cI, en_228, bk_228_0, key, bk_228_2]
    simp (disch := omega) only [bk_228_53, dv_f0, dv_f1, dv_f2, dv_f3, dv_f4, dv_f5, dv_f6, dv_f7, dv_f8, dv_f9, dv_f10, dv_f11, dv_f12, dv_f13, dv_g0, dv_g1, dv_g2, dv_i0, dv_i1, dv_p0, dv_p1, dv_isc, dv_iscL, dv_r0, dv_r1, dv_r2, dv_r3, dv_r4, dv_r5, dv_r6, dv_r7, dv_r8, dv_r9, dv_r10, dv_r11, dv_r12, dv_r13, dv_r14, dv_r15, Option.bind_some, Bool.cond_decide, am_oI_some, am_oV_some, am_oI_ite, am_oV_ite, am_bind_ite, Int.toNat_natCast, Int.toNat_zero, Int.reduceToNat, ite_true, ite_false, not_true_eq_false, not_false_eq_true, decide_true, decide_false, decide_eq_true_eq, Bool.false_eq_true, Nat.add_zero, am_rok1_0, am_rok1_1, cond_true, cond_false, am_w_nat1, true_or, or_true, false_or, or_false, true_and, and_true, false_and, and_false, Int.reduceEq, Int.reduceNeg, Int.reduceLT, Int.reduceLE, or_self, and_self, if_pos, if_neg]
  · have key : am_run am_ms 228 2 [am_R d, am_I p, am_I 0] [] (dv d D h) = am_run am_ms 228 2 [am_R d, am_I p, am_I k] [] (dv d D h) := loop_to (fun q : Nat => am_run am_ms 228 2 [am_R d, am_I p, am_I q] [] (dv d D h)) k (fun q hq => step q (by omega) (k3 q hq))
    have hpos : 0 < cnt (agq D p) p := cnt_pos.mpr ⟨k, k1, k2⟩
    unfold agq at k2
    rw [Bool.and_eq_true] at k2
    have c1 := c_hasBlock d D h k (by omega)
    rw [k2.1, if_pos rfl] at c1
    have e2 := of_decide_eq_true k2.2
    have e3 := e2.1
    have e4 := e2.2
    rw [if_pos hpos, am_cI, en_228, bk_228_0, key, bk_228_2]
    simp (disch := omega) only [bk_228_26, c1, e3, e4, dv_f0, dv_f1, dv_f2, dv_f3, dv_f4, dv_f5, dv_f6, dv_f7, dv_f8, dv_f9, dv_f10, dv_f11, dv_f12, dv_f13, dv_g0, dv_g1, dv_g2, dv_i0, dv_i1, dv_p0, dv_p1, dv_isc, dv_iscL, dv_r0, dv_r1, dv_r2, dv_r3, dv_r4, dv_r5, dv_r6, dv_r7, dv_r8, dv_r9, dv_r10, dv_r11, dv_r12, dv_r13, dv_r14, dv_r15, Option.bind_some, Bool.cond_decide, am_oI_some, am_oV_some, am_oI_ite, am_oV_ite, am_bind_ite, Int.toNat_natCast, Int.toNat_zero, Int.reduceToNat, ite_true, ite_false, not_true_eq_false, not_false_eq_true, decide_true, decide_false, decide_eq_true_eq, Bool.false_eq_true, Nat.add_zero, am_rok1_0, am_rok1_1, cond_true, cond_false, am_w_nat1, true_or, or_true, false_or, or_false, true_and, and_true, false_and, and_false, Int.reduceEq, Int.reduceNeg, Int.reduceLT, Int.reduceLE, or_self, and_self, if_pos, if_neg]
theorem s_twice : am_cI 229 [am_R d] (dv d D h) = some ((cnt (tw1 D) 128 : Int), dv d D h) := by
  have step : ∀ p : Nat, p < 128 → am_run am_ms 229 4 [am_R d, am_I (cnt (tw1 D) p), am_I p] [] (dv d D h) = am_run am_ms 229 4 [am_R d, am_I (cnt (tw1 D) (p + 1)), am_I ((p + 1 : Nat) : Int)] [] (dv d D h) := by
    intro p hp
    have hle := cnt_le (tw1 D) p
    have c1 := c_hasBlock d D h p hp
    have c2 := s_again (d := d) (D := D) (h := h) hp
    rw [bk_229_4]
    cases e : cd_has D p with
    | false =>
      rw [e, if_neg (by decide)] at c1
      have et : tw1 D p = false := by unfold tw1; rw [e]; rfl
      rw [cnt_f et]
      simp (disch := omega) only [bk_229_30, c1, dv_f0, dv_f1, dv_f2, dv_f3, dv_f4, dv_f5, dv_f6, dv_f7, dv_f8, dv_f9, dv_f10, dv_f11, dv_f12, dv_f13, dv_g0, dv_g1, dv_g2, dv_i0, dv_i1, dv_p0, dv_p1, dv_isc, dv_iscL, dv_r0, dv_r1, dv_r2, dv_r3, dv_r4, dv_r5, dv_r6, dv_r7, dv_r8, dv_r9, dv_r10, dv_r11, dv_r12, dv_r13, dv_r14, dv_r15, Option.bind_some, Bool.cond_decide, am_oI_some, am_oV_some, am_oI_ite, am_oV_ite, am_bind_ite, Int.toNat_natCast, Int.toNat_zero, Int.reduceToNat, ite_true, ite_false, not_true_eq_false, not_false_eq_true, decide_true, decide_false, decide_eq_true_eq, Bool.false_eq_true, Nat.add_zero, am_rok1_0, am_rok1_1, cond_true, cond_false, am_w_nat1, true_or, or_true, false_or, or_false, true_and, and_true, false_and, and_false, Int.reduceEq, Int.reduceNeg, Int.reduceLT, Int.reduceLE, or_self, and_self, if_pos, if_neg]
    | true =>
      rw [e, if_pos rfl] at c1
      by_cases q : 0 < cnt (agq D p) p
      · have et : tw1 D p = true := by unfold tw1; rw [e, decide_eq_true q]; rfl
        rw [if_pos q] at c2
        rw [cnt_t et]
        clear q
        simp (disch := omega) only [bk_229_30, c1, c2, dv_f0, dv_f1, dv_f2, dv_f3, dv_f4, dv_f5, dv_f6, dv_f7, dv_f8, dv_f9, dv_f10, dv_f11, dv_f12, dv_f13, dv_g0, dv_g1, dv_g2, dv_i0, dv_i1, dv_p0, dv_p1, dv_isc, dv_iscL, dv_r0, dv_r1, dv_r2, dv_r3, dv_r4, dv_r5, dv_r6, dv_r7, dv_r8, dv_r9, dv_r10, dv_r11, dv_r12, dv_r13, dv_r14, dv_r15, Option.bind_some, Bool.cond_decide, am_oI_some, am_oV_some, am_oI_ite, am_oV_ite, am_bind_ite, Int.toNat_natCast, Int.toNat_zero, Int.reduceToNat, ite_true, ite_false, not_true_eq_false, not_false_eq_true, decide_true, decide_false, decide_eq_true_eq, Bool.false_eq_true, Nat.add_zero, am_rok1_0, am_rok1_1, cond_true, cond_false, am_w_nat1, true_or, or_true, false_or, or_false, true_and, and_true, false_and, and_false, Int.reduceEq, Int.reduceNeg, Int.reduceLT, Int.reduceLE, or_self, and_self, if_pos, if_neg]
      · have et : tw1 D p = false := by unfold tw1; rw [e, decide_eq_false q]; rfl
        rw [if_neg q] at c2
        rw [cnt_f et]
        clear q
        simp (disch := omega) only [bk_229_30, c1, c2, dv_f0, dv_f1, dv_f2, dv_f3, dv_f4, dv_f5, dv_f6, dv_f7, dv_f8, dv_f9, dv_f10, dv_f11, dv_f12, dv_f13, dv_g0, dv_g1, dv_g2, dv_i0, dv_i1, dv_p0, dv_p1, dv_isc, dv_iscL, dv_r0, dv_r1, dv_r2, dv_r3, dv_r4, dv_r5, dv_r6, dv_r7, dv_r8, dv_r9, dv_r10, dv_r11, dv_r12, dv_r13, dv_r14, dv_r15, Option.bind_some, Bool.cond_decide, am_oI_some, am_oV_some, am_oI_ite, am_oV_ite, am_bind_ite, Int.toNat_natCast, Int.toNat_zero, Int.reduceToNat, ite_true, ite_false, not_true_eq_false, not_false_eq_true, decide_true, decide_false, decide_eq_true_eq, Bool.false_eq_true, Nat.add_zero, am_rok1_0, am_rok1_1, cond_true, cond_false, am_w_nat1, true_or, or_true, false_or, or_false, true_and, and_true, false_and, and_false, Int.reduceEq, Int.reduceNeg, Int.reduceLT, Int.reduceLE, or_self, and_self, if_pos, if_neg]
  have key : am_run am_ms 229 4 [am_R d, am_I 0, am_I 0] [] (dv d D h) = am_run am_ms 229 4 [am_R d, am_I (cnt (tw1 D) 128), am_I 128] [] (dv d D h) := loop_to (fun p : Nat => am_run am_ms 229 4 [am_R d, am_I (cnt (tw1 D) p), am_I p] [] (dv d D h)) 128 step
  rw [am_cI, en_229, bk_229_0, key, bk_229_4]
  simp (disch := omega) only [bk_229_36, dv_f0, dv_f1, dv_f2, dv_f3, dv_f4, dv_f5, dv_f6, dv_f7, dv_f8, dv_f9, dv_f10, dv_f11, dv_f12, dv_f13, dv_g0, dv_g1, dv_g2, dv_i0, dv_i1, dv_p0, dv_p1, dv_isc, dv_iscL, dv_r0, dv_r1, dv_r2, dv_r3, dv_r4, dv_r5, dv_r6, dv_r7, dv_r8, dv_r9, dv_r10, dv_r11, dv_r12, dv_r13, dv_r14, dv_r15, Option.bind_some, Bool.cond_decide, am_oI_some, am_oV_some, am_oI_ite, am_oV_ite, am_bind_ite, Int.toNat_natCast, Int.toNat_zero, Int.reduceToNat, ite_true, ite_false, not_true_eq_false, not_false_eq_true, decide_true, decide_false, decide_eq_true_eq, Bool.false_eq_true, Nat.add_zero, am_rok1_0, am_rok1_1, cond_true, cond_false, am_w_nat1, true_or, or_true, false_or, or_false, true_and, and_true, false_and, and_false, Int.reduceEq, Int.reduceNeg, Int.reduceLT, Int.reduceLE, or_self, and_self, if_pos, if_neg]
theorem m_twice (iv : IV D Z 3) (rl : RL D At true (fun _ => 0) 0 8) (mr : MR M At) : am_cI 232 [am_R mo, am_R (mo + 9)] (mv mo (drow M 9 (pack At)) g) = some ((tw2 D 128 : Int), mv mo (drow M 9 (pack At)) g) := by
  have ct : ∀ p : Nat, p < 128 → am_cI 231 [am_R mo, am_R (mo + 9), am_I p] (mv mo (drow M 9 (pack At)) g) = some (if cd_has D p = true then 1 else 0, mv mo (drow M 9 (pack At)) g) := fun p hp => by
    have c := m_isThere (mo := mo) (g := g) (c := 9) (by omega) mr (rl_AW iv rl) hp
    rw [rl_has rl] at c
    exact c
  have r7 : ∀ p : Nat, p < 128 → cd_has D p = true → am_rd (mv mo (drow M 9 (pack At)) g) (mo + 9) 0 (32 + (p : Int)) = some (D 7 p) := fun p hp hh => by
    have r := mr7 (m := mo) (M := M) (A := At) (h := g) (c := 9) (by omega) (z := p) hp
    rw [(rl.2.2.2.1 p hp hh).1] at r
    exact r
  have r9 : ∀ p : Nat, p < 128 → cd_has D p = true → am_rd (mv mo (drow M 9 (pack At)) g) (mo + 9) 0 (288 + (p : Int)) = some (D 9 p) := fun p hp hh => by
    have r := mr9 (m := mo) (M := M) (A := At) (h := g) (c := 9) (by omega) (z := p) hp
    rw [(rl.2.2.2.1 p hp hh).2.2] at r
    exact r
  have inner : ∀ p : Nat, p < 128 → cd_has D p = true → ∀ X : Nat, X ≤ 16384 → ∀ q : Nat, q < p → am_run am_ms 232 26 [am_R mo, am_R (mo + 9), am_I ((X + cnt (agq D p) q : Nat) : Int), am_I p, am_I q] [] (mv mo (drow M 9 (pack At)) g) = am_run am_ms 232 26 [am_R mo, am_R (mo + 9), am_I ((X + cnt (agq D p) (q + 1) : Nat) : Int), am_I p, am_I ((q + 1 : Nat) : Int)] [] (mv mo (drow M 9 (pack At)) g) := by
    intro p hp hh X hX q hq
    have hle := cnt_le (agq D p) q
    have c1 := ct q (by omega)
    have p7 := r7 p hp hh
    have p9 := r9 p hp hh
    rw [bk_232_26]
    cases e : cd_has D q with
    | false =>
      rw [e, if_neg (by decide)] at c1
      have et : agq D p q = false := by unfold agq; rw [e]; rfl
      rw [cnt_f et]
      simp (disch := omega) only [bk_232_81, bk_232_82, mv_c0, c1, scx00, Option.bind_some, Bool.cond_decide, am_oI_some, am_oV_some, am_oI_ite, am_oV_ite, am_bind_ite, Int.toNat_natCast, Int.toNat_zero, Int.reduceToNat, ite_true, ite_false, not_true_eq_false, not_false_eq_true, decide_true, decide_false, decide_eq_true_eq, Bool.false_eq_true, Nat.add_zero, am_rok1_0, am_rok1_1, cond_true, cond_false, am_w_nat1, true_or, or_true, false_or, or_false, true_and, and_true, false_and, and_false, Int.reduceEq, Int.reduceNeg, Int.reduceLT, Int.reduceLE, or_self, and_self, if_pos, if_neg]
    | true =>
      rw [e, if_pos rfl] at c1
      have q7 := r7 q (by omega) e
      have q9 := r9 q (by omega) e
      by_cases e7 : D 7 q = D 7 p
      · by_cases e9 : D 9 q = D 9 p
        · have et : agq D p q = true := by unfold agq; rw [e, decide_eq_true ⟨e7, e9⟩]; rfl
          rw [cnt_t et, show X + (cnt (agq D p) q + 1) = X + cnt (agq D p) q + 1 by omega]
          simp (disch := omega) only [bk_232_50, bk_232_72, bk_232_82, mv_c0, nte32, nte288, c1, p7, p9, q7, q9, e7, e9, Option.bind_some, Bool.cond_decide, am_oI_some, am_oV_some, am_oI_ite, am_oV_ite, am_bind_ite, Int.toNat_natCast, Int.toNat_zero, Int.reduceToNat, ite_true, ite_false, not_true_eq_false, not_false_eq_true, decide_true, decide_false, decide_eq_true_eq, Bool.false_eq_true, Nat.add_zero, am_rok1_0, am_rok1_1, cond_true, cond_false, am_w_nat1, true_or, or_true, false_or, or_false, true_and, and_true, false_and, and_false, Int.reduceEq, Int.reduceNeg, Int.reduceLT, Int.reduceLE, or_self, and_self, if_pos, if_neg]
        · have et : agq D p q = false := by unfold agq; rw [e, decide_eq_false (fun t => e9 t.2)]; rfl
          rw [cnt_f et]
          simp (disch := omega) only [bk_232_50, bk_232_72, bk_232_81, bk_232_82, mv_c0, nte32, nte288, c1, p7, p9, q7, q9, e7, e9, scx00, Option.bind_some, Bool.cond_decide, am_oI_some, am_oV_some, am_oI_ite, am_oV_ite, am_bind_ite, Int.toNat_natCast, Int.toNat_zero, Int.reduceToNat, ite_true, ite_false, not_true_eq_false, not_false_eq_true, decide_true, decide_false, decide_eq_true_eq, Bool.false_eq_true, Nat.add_zero, am_rok1_0, am_rok1_1, cond_true, cond_false, am_w_nat1, true_or, or_true, false_or, or_false, true_and, and_true, false_and, and_false, Int.reduceEq, Int.reduceNeg, Int.reduceLT, Int.reduceLE, or_self, and_self, if_pos, if_neg]
      · have et : agq D p q = false := by unfold agq; rw [e, decide_eq_false (fun t => e7 t.1)]; rfl
        rw [cnt_f et]
        simp (disch := omega) only [bk_232_50, bk_232_81, bk_232_82, mv_c0, nte32, nte288, c1, p7, q7, e7, scx00, Option.bind_some, Bool.cond_decide, am_oI_some, am_oV_some, am_oI_ite, am_oV_ite, am_bind_ite, Int.toNat_natCast, Int.toNat_zero, Int.reduceToNat, ite_true, ite_false, not_true_eq_false, not_false_eq_true, decide_true, decide_false, decide_eq_true_eq, Bool.false_eq_true, Nat.add_zero, am_rok1_0, am_rok1_1, cond_true, cond_false, am_w_nat1, true_or, or_true, false_or, or_false, true_and, and_true, false_and, and_false, Int.reduceEq, Int.reduceNeg, Int.reduceLT, Int.reduceLE, or_self, and_self, if_pos, if_neg]
  have step : ∀ p v, p < 128 → ∃ v', am_run am_ms 232 4 [am_R mo, am_R (mo + 9), am_I (tw2 D p), am_I p, v] [] (mv mo (drow M 9 (pack At)) g) = am_run am_ms 232 4 [am_R mo, am_R (mo + 9), am_I (tw2 D (p + 1)), am_I ((p + 1 : Nat) : Int), v'] [] (mv mo (drow M 9 (pack At)) g) := by
    intro p v hp
    have c1 := ct p hp
    have es : tw2 D (p + 1) = tw2 D p + if cd_has D p = true then cnt (agq D p) p else 0 := rfl
    have hle := (tw2_le D p).resolve_right (by omega)
    rw [es]
    clear es
    cases e : cd_has D p with
    | false =>
      rw [e, if_neg (by decide)] at c1
      refine ⟨v, ?_⟩
      rw [if_neg (by decide), Nat.add_zero, bk_232_4]
      simp (disch := omega) only [bk_232_90, mv_c0, c1, Option.bind_some, Bool.cond_decide, am_oI_some, am_oV_some, am_oI_ite, am_oV_ite, am_bind_ite, Int.toNat_natCast, Int.toNat_zero, Int.reduceToNat, ite_true, ite_false, not_true_eq_false, not_false_eq_true, decide_true, decide_false, decide_eq_true_eq, Bool.false_eq_true, Nat.add_zero, am_rok1_0, am_rok1_1, cond_true, cond_false, am_w_nat1, true_or, or_true, false_or, or_false, true_and, and_true, false_and, and_false, Int.reduceEq, Int.reduceNeg, Int.reduceLT, Int.reduceLE, or_self, and_self, if_pos, if_neg]
    | true =>
      rw [e, if_pos rfl] at c1
      refine ⟨am_I p, ?_⟩
      have k := loop_to (fun q : Nat => am_run am_ms 232 26 [am_R mo, am_R (mo + 9), am_I ((tw2 D p + cnt (agq D p) q : Nat) : Int), am_I p, am_I q] [] (mv mo (drow M 9 (pack At)) g)) p (fun q hq => inner p hp e (tw2 D p) (by omega) q hq)
      have k' : am_run am_ms 232 26 [am_R mo, am_R (mo + 9), am_I (tw2 D p), am_I p, am_I 0] [] (mv mo (drow M 9 (pack At)) g) = am_run am_ms 232 26 [am_R mo, am_R (mo + 9), am_I ((tw2 D p + cnt (agq D p) p : Nat) : Int), am_I p, am_I p] [] (mv mo (drow M 9 (pack At)) g) := k
      rw [if_pos rfl, bk_232_4]
      simp (disch := omega) only [bk_232_23, mv_c0, c1, k', Option.bind_some, Bool.cond_decide, am_oI_some, am_oV_some, am_oI_ite, am_oV_ite, am_bind_ite, Int.toNat_natCast, Int.toNat_zero, Int.reduceToNat, ite_true, ite_false, not_true_eq_false, not_false_eq_true, decide_true, decide_false, decide_eq_true_eq, Bool.false_eq_true, Nat.add_zero, am_rok1_0, am_rok1_1, cond_true, cond_false, am_w_nat1, true_or, or_true, false_or, or_false, true_and, and_true, false_and, and_false, Int.reduceEq, Int.reduceNeg, Int.reduceLT, Int.reduceLE, or_self, and_self, if_pos, if_neg]
      rw [bk_232_26]
      simp (disch := omega) only [bk_232_90, Option.bind_some, Bool.cond_decide, am_oI_some, am_oV_some, am_oI_ite, am_oV_ite, am_bind_ite, Int.toNat_natCast, Int.toNat_zero, Int.reduceToNat, ite_true, ite_false, not_true_eq_false, not_false_eq_true, decide_true, decide_false, decide_eq_true_eq, Bool.false_eq_true, Nat.add_zero, am_rok1_0, am_rok1_1, cond_true, cond_false, am_w_nat1, true_or, or_true, false_or, or_false, true_and, and_true, false_and, and_false, Int.reduceEq, Int.reduceNeg, Int.reduceLT, Int.reduceLE, or_self, and_self, if_pos, if_neg]
  obtain ⟨v', key⟩ := loop_v (fun (p : Nat) (v : am_V) => am_run am_ms 232 4 [am_R mo, am_R (mo + 9), am_I (tw2 D p), am_I p, v] [] (mv mo (drow M 9 (pack At)) g)) 128 step (am_K 1)
  have key' : am_run am_ms 232 4 [am_R mo, am_R (mo + 9), am_I 0, am_I 0, am_K 1] [] (mv mo (drow M 9 (pack At)) g) = am_run am_ms 232 4 [am_R mo, am_R (mo + 9), am_I (tw2 D 128), am_I 128, v'] [] (mv mo (drow M 9 (pack At)) g) := key
  rw [am_cI, en_232, bk_232_0, key', bk_232_4]
  simp (disch := omega) only [bk_232_96, Option.bind_some, Bool.cond_decide, am_oI_some, am_oV_some, am_oI_ite, am_oV_ite, am_bind_ite, Int.toNat_natCast, Int.toNat_zero, Int.reduceToNat, ite_true, ite_false, not_true_eq_false, not_false_eq_true, decide_true, decide_false, decide_eq_true_eq, Bool.false_eq_true, Nat.add_zero, am_rok1_0, am_rok1_1, cond_true, cond_false, am_w_nat1, true_or, or_true, false_or, or_false, true_and, and_true, false_and, and_false, Int.reduceEq, Int.reduceNeg, Int.reduceLT, Int.reduceLE, or_self, and_self, if_pos, if_neg]
def otv (N T : Nat → Nat → Int) : Nat → Nat := cnt (fun k => decide (¬ cd_val N k = cd_val T k))
theorem s_other (ivN : IV N Z 3) (ivT : IV T Z 3) : am_cI 227 [am_R (x + 13), am_R (x + 68)] (zv x N P K T S m A h) = some ((otv N T 32 : Int), (zv x N P K T S m A h)) := by
  have step : ∀ k : Nat, k < 32 → am_run am_ms 227 4 [am_R (x + 13), am_R (x + 68), am_I (otv N T k), am_I k] [] (zv x N P K T S m A h) = am_run am_ms 227 4 [am_R (x + 13), am_R (x + 68), am_I (otv N T (k + 1)), am_I ((k + 1 : Nat) : Int)] [] (zv x N P K T S m A h) := by
    intro k hk
    have hle : otv N T k ≤ k := cnt_le _ k
    have c1 := cd_val_of ivN.1 (k := k) hk (d := x + 13) (h := (zv x N P K T S m A h))
    rw [zv_dN] at c1
    have c2 := cd_val_of ivT.1 (k := k) hk (d := x + 68) (h := (zv x N P K T S m A h))
    rw [zv_dT] at c2
    rw [bk_227_4]
    by_cases e : cd_val N k = cd_val T k
    · have et : otv N T (k + 1) = otv N T k := cnt_f (decide_eq_false (fun q => q e))
      rw [et]
      simp (disch := omega) only [bk_227_26, zN_c, zT_c, c1, c2, e, Option.bind_some, Bool.cond_decide, am_oI_some, am_oV_some, am_oI_ite, am_oV_ite, am_bind_ite, Int.toNat_natCast, Int.toNat_zero, Int.reduceToNat, ite_true, ite_false, not_true_eq_false, not_false_eq_true, decide_true, decide_false, decide_eq_true_eq, Bool.false_eq_true, Nat.add_zero, am_rok1_0, am_rok1_1, cond_true, cond_false, am_w_nat1, true_or, or_true, false_or, or_false, true_and, and_true, false_and, and_false, Int.reduceEq, Int.reduceNeg, Int.reduceLT, Int.reduceLE, or_self, and_self, if_pos, if_neg]
    · have et : otv N T (k + 1) = otv N T k + 1 := cnt_t (decide_eq_true e)
      rw [et]
      simp (disch := omega) only [bk_227_26, zN_c, zT_c, c1, c2, e, Option.bind_some, Bool.cond_decide, am_oI_some, am_oV_some, am_oI_ite, am_oV_ite, am_bind_ite, Int.toNat_natCast, Int.toNat_zero, Int.reduceToNat, ite_true, ite_false, not_true_eq_false, not_false_eq_true, decide_true, decide_false, decide_eq_true_eq, Bool.false_eq_true, Nat.add_zero, am_rok1_0, am_rok1_1, cond_true, cond_false, am_w_nat1, true_or, or_true, false_or, or_false, true_and, and_true, false_and, and_false, Int.reduceEq, Int.reduceNeg, Int.reduceLT, Int.reduceLE, or_self, and_self, if_pos, if_neg]
  have key : am_run am_ms 227 4 [am_R (x + 13), am_R (x + 68), am_I 0, am_I 0] [] (zv x N P K T S m A h) = am_run am_ms 227 4 [am_R (x + 13), am_R (x + 68), am_I (otv N T 32), am_I 32] [] (zv x N P K T S m A h) := loop_to (fun k : Nat => am_run am_ms 227 4 [am_R (x + 13), am_R (x + 68), am_I (otv N T k), am_I k] [] (zv x N P K T S m A h)) 32 step
  rw [am_cI, en_227, bk_227_0, key, bk_227_4]
  simp (disch := omega) only [bk_227_32, Option.bind_some, Bool.cond_decide, am_oI_some, am_oV_some, am_oI_ite, am_oV_ite, am_bind_ite, Int.toNat_natCast, Int.toNat_zero, Int.reduceToNat, ite_true, ite_false, not_true_eq_false, not_false_eq_true, decide_true, decide_false, decide_eq_true_eq, Bool.false_eq_true, Nat.add_zero, am_rok1_0, am_rok1_1, cond_true, cond_false, am_w_nat1, true_or, or_true, false_or, or_false, true_and, and_true, false_and, and_false, Int.reduceEq, Int.reduceNeg, Int.reduceLT, Int.reduceLE, or_self, and_self, if_pos, if_neg]
/-- each number at most twice, behind some moves of a cleaning -/
theorem tn_one (iv : IV N Z 3) (nd : ND N) {z mm : Nat} {mc : Int} (hz : z < Z) (h2 : N 2 z = 3) (hroom : (cd_nl N z : Int) ≤ cd_room N Z) (hm : ∀ k : Nat, k < 16 → ((((min k mm : Nat) : Int)) < mc ↔ k < mm)) {E : Nat → Nat → Int} (e0 : E 0 = (mvs N Z z mc 16).1 0) (e3 : E 3 = (mvs N Z z mc 16).1 3) (e9 : E 9 = (mvs N Z z mc 16).1 9) : ∀ p, p < 128 → cd_has E p = true → cnt (agq E p) p ≤ 1 := by
  obtain ⟨B, rlB⟩ := RL_ex iv
  obtain ⟨mi, _⟩ := mv_all iv rlB hz h2 hroom hm (Or.inl rfl)
  have nm := mv_nm16 iv nd hz h2 hroom hm
  have hh : ∀ p, cd_has E p = cd_has (mvs N Z z mc 16).1 p := fun p => cd_has_of e0 e3 p
  obtain ⟨_, _, ⟨m0, _, m3, _, _⟩, mz, _⟩ := mi
  have same : ∀ a b, a < 128 → b < 128 → cd_has E a = true → cd_has E b = true → E 9 a = E 9 b → ((a / 16 = z ∧ b / 16 = z) ∨ (a / 16 ≠ z ∧ b / 16 ≠ z)) → a = b := by
    intro a b ha hb h1 h3 h4 hc
    rw [hh] at h1 h3
    rw [e9] at h4
    rcases hc with ⟨c1, c2⟩ | ⟨c1, c2⟩
    · have ea : 16 * z + a % 16 = a := by omega
      have eb : 16 * z + b % 16 = b := by omega
      have qa := mz (a % 16) (by omega)
      have qb := mz (b % 16) (by omega)
      rw [ea] at qa
      rw [eb] at qb
      have inN : ∀ p, cd_has (mvs N Z z mc 16).1 p = true → p / 16 = z → cd_has N p = true := by
        intro p hp hq
        unfold cd_has at hp ⊢
        have := of_decide_eq_true hp
        rw [m0, hq, m3] at this
        rw [hq]
        exact decide_eq_true this
      exact nd a b ha hb (inN a h1 c1) (inN b h3 c2) (by rw [← qa.2.2, ← qb.2.2]; exact h4)
    · exact nm.1 a b ha hb h1 h3 c1 c2 h4
  intro p hp hp1
  refine cnt_le1 p (fun i j hi hj h1 h3 => ?_)
  unfold agq at h1 h3
  rw [Bool.and_eq_true] at h1 h3
  have q1 := of_decide_eq_true h1.2
  have q3 := of_decide_eq_true h3.2
  by_cases ez : p / 16 = z
  · by_cases ei : i / 16 = z
    · have := same i p (by omega) hp h1.1 hp1 q1.2 (Or.inl ⟨ei, ez⟩)
      omega
    · by_cases ej : j / 16 = z
      · have := same j p (by omega) hp h3.1 hp1 q3.2 (Or.inl ⟨ej, ez⟩)
        omega
      · exact same i j (by omega) (by omega) h1.1 h3.1 (by rw [q1.2, q3.2]) (Or.inr ⟨ei, ej⟩)
  · by_cases ei : i / 16 = z
    · by_cases ej : j / 16 = z
      · exact same i j (by omega) (by omega) h1.1 h3.1 (by rw [q1.2, q3.2]) (Or.inl ⟨ei, ej⟩)
      · have := same j p (by omega) hp h3.1 hp1 q3.2 (Or.inr ⟨ej, ez⟩)
        omega
    · have := same i p (by omega) hp h1.1 hp1 q1.2 (Or.inr ⟨ei, ez⟩)
      omega
theorem o_cr_o (E : Nat → Nat → Int) (Z : Nat) {r : Nat} (h : r ≠ 1 ∧ r ≠ 2 ∧ r ≠ 6 ∧ r < 13) : o_cr E Z r = E r := by
  unfold o_cr
  rw [lga_o _ _ _ _ (by omega)]
  exact c0_o E Z (by omega)
theorem m_otv (iv : IV N Z 3) (rl : RL N Ad true (fun _ => 0) 0 8) (ivT : IV T Z 3) (rlT : RL T At true (fun _ => 0) 0 8) (mr : MR M Ad) (mrT : MR M At) (p8 : ∀ j, j < 609 → M 8 j = pack Ad j) (k0 q n0 : Int) : am_run am_ms 233 137 [am_R mo, am_I k0, am_I q, am_I n0, am_I 0, am_I 0] [] (mv mo (drow M 9 (pack At)) g) = some (some (am_I (otv N T 32)), mv mo (drow M 9 (pack At)) g) := by
  have v9 : ∀ k : Nat, k < 32 → am_cI 147 [am_R mo, am_R (mo + 9), am_I k] (mv mo (drow M 9 (pack At)) g) = some (cd_val T k, mv mo (drow M 9 (pack At)) g) := fun k hk => by
    have c := m_valueOf (m := mo) (h := g) (c := 9) (by omega) mrT (rl_AW ivT rlT) k
    rw [rl_val ivT rlT hk] at c
    exact c
  have pk : mv mo (drow M 9 (pack At)) g = mv mo (drow (drow M 9 (pack At)) 8 (pack Ad)) g := mv_pk (by omega) (by rw [drow_o _ _ (show (8 : Nat) ≠ 9 by omega)]; exact p8)
  have mr9 : MR (drow M 9 (pack At)) Ad := MT_MR (MT_9 M _) mr
  have v8 : ∀ k : Nat, k < 32 → am_cI 147 [am_R mo, am_R (mo + 8), am_I k] (mv mo (drow M 9 (pack At)) g) = some (cd_val N k, mv mo (drow M 9 (pack At)) g) := fun k hk => by
    have c := m_valueOf (m := mo) (h := g) (c := 8) (by omega) mr9 (rl_AW iv rl) k
    rw [← pk, rl_val iv rl hk] at c
    exact c
  have step : ∀ k : Nat, k < 32 → am_run am_ms 233 137 [am_R mo, am_I k0, am_I q, am_I n0, am_I (otv N T k), am_I k] [] (mv mo (drow M 9 (pack At)) g) = am_run am_ms 233 137 [am_R mo, am_I k0, am_I q, am_I n0, am_I (otv N T (k + 1)), am_I ((k + 1 : Nat) : Int)] [] (mv mo (drow M 9 (pack At)) g) := by
    intro k hk
    have hle : otv N T k ≤ k := cnt_le _ k
    have c1 := v9 k hk
    have c2 := v8 k hk
    rw [bk_233_137]
    by_cases e : cd_val N k = cd_val T k
    · have et : otv N T (k + 1) = otv N T k := cnt_f (decide_eq_false (fun q => q e))
      rw [et]
      rw [e] at c2
      simp (disch := omega) only [bk_233_166, bk_233_174, mv_c0, mv_f0_15, mv_f0_16, c1, c2, scx00, Option.bind_some, Bool.cond_decide, am_oI_some, am_oV_some, am_oI_ite, am_oV_ite, am_bind_ite, Int.toNat_natCast, Int.toNat_zero, Int.reduceToNat, ite_true, ite_false, not_true_eq_false, not_false_eq_true, decide_true, decide_false, decide_eq_true_eq, Bool.false_eq_true, Nat.add_zero, am_rok1_0, am_rok1_1, cond_true, cond_false, am_w_nat1, true_or, or_true, false_or, or_false, true_and, and_true, false_and, and_false, Int.reduceEq, Int.reduceNeg, Int.reduceLT, Int.reduceLE, or_self, and_self, if_pos, if_neg]
    · have et : otv N T (k + 1) = otv N T k + 1 := cnt_t (decide_eq_true e)
      rw [et]
      have e' : ¬ cd_val T k = cd_val N k := fun t => e t.symm
      simp (disch := omega) only [bk_233_166, bk_233_173, bk_233_174, mv_c0, mv_f0_15, mv_f0_16, c1, c2, e', Option.bind_some, Bool.cond_decide, am_oI_some, am_oV_some, am_oI_ite, am_oV_ite, am_bind_ite, Int.toNat_natCast, Int.toNat_zero, Int.reduceToNat, ite_true, ite_false, not_true_eq_false, not_false_eq_true, decide_true, decide_false, decide_eq_true_eq, Bool.false_eq_true, Nat.add_zero, am_rok1_0, am_rok1_1, cond_true, cond_false, am_w_nat1, true_or, or_true, false_or, or_false, true_and, and_true, false_and, and_false, Int.reduceEq, Int.reduceNeg, Int.reduceLT, Int.reduceLE, or_self, and_self, if_pos, if_neg]
  have key : am_run am_ms 233 137 [am_R mo, am_I k0, am_I q, am_I n0, am_I 0, am_I 0] [] (mv mo (drow M 9 (pack At)) g) = am_run am_ms 233 137 [am_R mo, am_I k0, am_I q, am_I n0, am_I (otv N T 32), am_I 32] [] (mv mo (drow M 9 (pack At)) g) := loop_to (fun k : Nat => am_run am_ms 233 137 [am_R mo, am_I k0, am_I q, am_I n0, am_I (otv N T k), am_I k] [] (mv mo (drow M 9 (pack At)) g)) 32 step
  rw [key, bk_233_137]
  simp (disch := omega) only [bk_233_183, Option.bind_some, Bool.cond_decide, am_oI_some, am_oV_some, am_oI_ite, am_oV_ite, am_bind_ite, Int.toNat_natCast, Int.toNat_zero, Int.reduceToNat, ite_true, ite_false, not_true_eq_false, not_false_eq_true, decide_true, decide_false, decide_eq_true_eq, Bool.false_eq_true, Nat.add_zero, am_rok1_0, am_rok1_1, cond_true, cond_false, am_w_nat1, true_or, or_true, false_or, or_false, true_and, and_true, false_and, and_false, Int.reduceEq, Int.reduceNeg, Int.reduceLT, Int.reduceLE, or_self, and_self, if_pos, if_neg]
theorem tk_torn (w : WR n m N K S HD M) (hn : n < 2147483647) (k0 q : Int) : TK 230 233 [am_I k0, am_I q] x mo m A N P K T S M h g := by
  have c0 := c_isDrive (x := x) (N := N) (P := P) (K := K) (T := T) (S := S) (m := m) (A := A) h
  have mk0 := MK_f M (j := 0) (by omega) 0
  have d1 := m_isIn q 0 2 (mv mo (dup M 0 0 0) g)
  rcases w.2.2.2.2 with w0 | ⟨Z, wd⟩
  · have f14 : dup M 0 0 0 0 14 = 0 := by rw [dup_t, va_up_ne _ _ (by omega)]; exact w0.1
    rw [if_neg (by have := w0.2.1.1; omega)] at c0
    refine ⟨-1, P, T, S, dup M 0 0 0, ?_, ?_, mk0, SK_refl S⟩
    · rw [am_cI, en_230, bk_230_0]; simp (disch := omega) only [bk_230_20, zv_c0, c0, Option.bind_some, Bool.cond_decide, am_oI_some, am_oV_some, am_oI_ite, am_oV_ite, am_bind_ite, Int.toNat_natCast, Int.toNat_zero, Int.reduceToNat, ite_true, ite_false, not_true_eq_false, not_false_eq_true, decide_true, decide_false, decide_eq_true_eq, Bool.false_eq_true, Nat.add_zero, am_rok1_0, am_rok1_1, cond_true, cond_false, am_w_nat1, true_or, or_true, false_or, or_false, true_and, and_true, false_and, and_false, Int.reduceEq, Int.reduceNeg, Int.reduceLT, Int.reduceLE, or_self, and_self, if_pos, if_neg]
    · rw [am_cI, en_233, bk_233_0]; simp (disch := omega) only [bk_233_69, mv_p0_0, mv_c0, mv_f0_14, f14, Option.bind_some, Bool.cond_decide, am_oI_some, am_oV_some, am_oI_ite, am_oV_ite, am_bind_ite, Int.toNat_natCast, Int.toNat_zero, Int.reduceToNat, ite_true, ite_false, not_true_eq_false, not_false_eq_true, decide_true, decide_false, decide_eq_true_eq, Bool.false_eq_true, Nat.add_zero, am_rok1_0, am_rok1_1, cond_true, cond_false, am_w_nat1, true_or, or_true, false_or, or_false, true_and, and_true, false_and, and_false, Int.reduceEq, Int.reduceNeg, Int.reduceLT, Int.reduceLE, or_self, and_self, if_pos, if_neg]
  · obtain ⟨Ad, iv, rl, mr, pk, f14, f30, bd, nd, ru, p8⟩ := ctx2 mo wd
    rw [if_pos (by have := iv.pw.1; have := iv.1.2.1; omega)] at c0
    by_cases e1 : 0 ≤ q ∧ q ≤ 2
    · rw [if_pos e1] at d1
      have hpol := iv.2.2.2.2.1.2.2.2
      have c1 := (d_zc_room (d := x + 13) (h := (zv x N P K T S m A h)) iv.1).1
      have c2 := (d_zc_room (d := x + 13) (h := (zv x N P K T S m A h)) iv.1).2
      rw [zv_dN] at c1 c2
      have d2 := m_stopsCleaning (m := mo) (h := g) (c := 8) (by omega) mr (rl_AW iv rl) (by rw [rl.1.1]; exact iv.1.2.2.1) (by rw [rl.1.1]; exact iv.1.2.2.2)
      rw [← pk, rl_bad iv rl] at d2
      have r6 := mr0_6 (m := mo) (M := dup M 0 0 0) (A := Ad) (h := g) (c := 8) (by omega)
      rw [← pk, rl.1.1] at r6
      have d3 := m_takes (m := mo) (h := g) (c := 8) (by omega) mr (rl_AW iv rl) (by rw [rl.1.1]; exact iv.1.2.2.2) (N 0 6) 0
      rw [← pk, rl_tk iv rl hpol] at d3
      have hzc := cd_zc_le N Z (N 0 6)
      by_cases e2 : cd_zc N Z (N 0 6) = -1
      · rw [e2] at c1
        rw [if_pos e2] at d2
        refine ⟨-1, P, T, S, dup M 0 0 0, ?_, ?_, mk0, SK_refl S⟩
        · by_cases e3 : k0 < 0
          · rw [am_cI, en_230, bk_230_0]; simp (disch := omega) only [bk_230_20, zv_c0, c0, Option.bind_some, Bool.cond_decide, am_oI_some, am_oV_some, am_oI_ite, am_oV_ite, am_bind_ite, Int.toNat_natCast, Int.toNat_zero, Int.reduceToNat, ite_true, ite_false, not_true_eq_false, not_false_eq_true, decide_true, decide_false, decide_eq_true_eq, Bool.false_eq_true, Nat.add_zero, am_rok1_0, am_rok1_1, cond_true, cond_false, am_w_nat1, true_or, or_true, false_or, or_false, true_and, and_true, false_and, and_false, Int.reduceEq, Int.reduceNeg, Int.reduceLT, Int.reduceLE, or_self, and_self, if_pos, if_neg]
          · rw [am_cI, en_230, bk_230_0]; simp (disch := omega) only [bk_230_22, bk_230_58, zv_c0, zv_f0_4, zN_c, c0, c1, Option.bind_some, Bool.cond_decide, am_oI_some, am_oV_some, am_oI_ite, am_oV_ite, am_bind_ite, Int.toNat_natCast, Int.toNat_zero, Int.reduceToNat, ite_true, ite_false, not_true_eq_false, not_false_eq_true, decide_true, decide_false, decide_eq_true_eq, Bool.false_eq_true, Nat.add_zero, am_rok1_0, am_rok1_1, cond_true, cond_false, am_w_nat1, true_or, or_true, false_or, or_false, true_and, and_true, false_and, and_false, Int.reduceEq, Int.reduceNeg, Int.reduceLT, Int.reduceLE, or_self, and_self, if_pos, if_neg]
        · rw [am_cI, en_233, bk_233_0]; simp (disch := omega) only [bk_233_26, bk_233_69, mv_p0_0, mv_c0, mv_f0_14, mv_f0_15, f14, d1, d2, Option.bind_some, Bool.cond_decide, am_oI_some, am_oV_some, am_oI_ite, am_oV_ite, am_bind_ite, Int.toNat_natCast, Int.toNat_zero, Int.reduceToNat, ite_true, ite_false, not_true_eq_false, not_false_eq_true, decide_true, decide_false, decide_eq_true_eq, Bool.false_eq_true, Nat.add_zero, am_rok1_0, am_rok1_1, cond_true, cond_false, am_w_nat1, true_or, or_true, false_or, or_false, true_and, and_true, false_and, and_false, Int.reduceEq, Int.reduceNeg, Int.reduceLT, Int.reduceLE, or_self, and_self, if_pos, if_neg]
      · have c2' := c2 e2
        rw [if_neg e2] at d2
        obtain ⟨z, hz⟩ : ∃ z : Nat, cd_zc N Z (N 0 6) = z := ⟨(cd_zc N Z (N 0 6)).toNat, by omega⟩
        have hz8 : z < 8 := by have := iv.pw.2.1; omega
        have c3 := d_liveIn (d := x + 13) (h := (zv x N P K T S m A h)) iv.1.1.1 hz8
        rw [zv_dN] at c3
        have d4 := m_liveIn (m := mo) (h := g) (c := 8) (by omega) mr (rl_AW iv rl) (z := z) hz8
        rw [← pk, rl_nl iv rl (by omega)] at d4
        have hza := zc_at e2
        rw [hz] at c1 c2' d3 hza e2
        rw [Int.toNat_natCast] at hza
        cases eb : w_bad N Z with
        | true =>
          rw [eb, if_pos rfl] at c2' d2
          refine ⟨-1, P, T, S, dup M 0 0 0, ?_, ?_, mk0, SK_refl S⟩
          · by_cases e3 : k0 < 0
            · rw [am_cI, en_230, bk_230_0]; simp (disch := omega) only [bk_230_20, zv_c0, c0, Option.bind_some, Bool.cond_decide, am_oI_some, am_oV_some, am_oI_ite, am_oV_ite, am_bind_ite, Int.toNat_natCast, Int.toNat_zero, Int.reduceToNat, ite_true, ite_false, not_true_eq_false, not_false_eq_true, decide_true, decide_false, decide_eq_true_eq, Bool.false_eq_true, Nat.add_zero, am_rok1_0, am_rok1_1, cond_true, cond_false, am_w_nat1, true_or, or_true, false_or, or_false, true_and, and_true, false_and, and_false, Int.reduceEq, Int.reduceNeg, Int.reduceLT, Int.reduceLE, or_self, and_self, if_pos, if_neg]
            · rw [am_cI, en_230, bk_230_0]; simp (disch := omega) only [bk_230_22, bk_230_58, zv_c0, zv_f0_4, zN_c, c0, c1, c2', Option.bind_some, Bool.cond_decide, am_oI_some, am_oV_some, am_oI_ite, am_oV_ite, am_bind_ite, Int.toNat_natCast, Int.toNat_zero, Int.reduceToNat, ite_true, ite_false, not_true_eq_false, not_false_eq_true, decide_true, decide_false, decide_eq_true_eq, Bool.false_eq_true, Nat.add_zero, am_rok1_0, am_rok1_1, cond_true, cond_false, am_w_nat1, true_or, or_true, false_or, or_false, true_and, and_true, false_and, and_false, Int.reduceEq, Int.reduceNeg, Int.reduceLT, Int.reduceLE, or_self, and_self, if_pos, if_neg]
          · rw [am_cI, en_233, bk_233_0]; simp (disch := omega) only [bk_233_26, bk_233_69, mv_p0_0, mv_c0, mv_f0_14, mv_f0_15, f14, d1, d2, Option.bind_some, Bool.cond_decide, am_oI_some, am_oV_some, am_oI_ite, am_oV_ite, am_bind_ite, Int.toNat_natCast, Int.toNat_zero, Int.reduceToNat, ite_true, ite_false, not_true_eq_false, not_false_eq_true, decide_true, decide_false, decide_eq_true_eq, Bool.false_eq_true, Nat.add_zero, am_rok1_0, am_rok1_1, cond_true, cond_false, am_w_nat1, true_or, or_true, false_or, or_false, true_and, and_true, false_and, and_false, Int.reduceEq, Int.reduceNeg, Int.reduceLT, Int.reduceLE, or_self, and_self, if_pos, if_neg]
        | false =>
          have hbn := bad_no eb
          rw [hz, Int.toNat_natCast] at hbn
          rw [eb, if_neg (by decide)] at c2' d2
          have hnl16 := cd_nl_le iv.1.1.1 hz8
          by_cases e3 : 0 ≤ k0 ∧ k0 ≤ (cd_nl N z : Int)
          · obtain ⟨k, rfl⟩ : ∃ k : Nat, k0 = k := ⟨k0.toNat, by omega⟩
            have hm : ∀ j : Nat, j < 16 → ((((min j k : Nat) : Int)) < (k : Int) ↔ j < k) := fun j _ => by omega
            obtain ⟨mi, mp⟩ := mv_all iv rl hza.1 hza.2.1 hbn.2 (mm := k) (mc := (k : Int)) hm (Or.inl rfl)
            have ivE := mi.1
            have rlE := mi.2.1
            obtain ⟨rlT, ivT, _⟩ := cr_all ivE rlE
            have one := tn_one iv nd hza.1 hza.2.1 hbn.2 hm (E := o_cr (mvs N Z z (k : Int) 16).1 Z) (o_cr_o _ _ (by omega)) (o_cr_o _ _ (by omega)) (o_cr_o _ _ (by omega))
            have ct := zt_copy (x := x) (N := N) (P := P) (K := K) (T := T) (S := S) (m := m) (A := A) (h := h)
            have c4 := d_moveLive (d := x + 68) (D := N) (h := zv x N P K N S m A h) iv.1.1 iv.1.2.2.1 hz8 (k : Int)
            rw [zv_dT, zv_dT] at c4
            have c5 := d_crashByHand (d := x + 68) (D := (mvs N Z z (k : Int) 16).1) (h := zv x N P K N S m A h) ivE.1
            rw [zv_dT, zv_dT] at c5
            have cc := m_cpt (mo := mo) (g := g) p8
            have htk : ml_tk Ad Z (Ad 0 6) 0 Z = z := by rw [rl.1.1, rl_tk iv rl hpol, hz]
            obtain ⟨L, d5⟩ := m_cleans (m := mo) (h := g) (c := 9) (by omega) mr (rl_AW iv rl) rl.2.2.2.2.2.2 (by rw [rl.1.1]; exact iv.1.2.2.2) (by rw [rl.1.1]; exact iv.1.2.2.1) htk (most := k) (by omega) mp
            rw [if_pos (by omega)] at d5
            have e0B : mcl1 Ad Z z k 0 = Ad 0 := mms_0 _ _ _ _ _
            have mt1 : MT (dup M 0 0 0) (drow (dup M 0 0 0) 13 L) := ⟨fun r _ _ _ h13 => drow_o _ _ h13, fun j _ _ _ => by rw [drow_o _ _ (by omega)]⟩
            have mr1 : MR (drow (dup M 0 0 0) 13 L) (mcl1 Ad Z z k) := MR_of (MT_MR mt1 mr) e0B
            have d6 := m_crashes (m := mo) (h := g) (c := 9) (by omega) mr1 (rl_AW ivE rlE) rlE.2.2.2.2.2.2
            have mr2 : MR (drow (dup M 0 0 0) 13 L) (m_cr (mcl1 Ad Z z k) Z) := MR_of mr1 (m_cr_o _ _ (by omega))
            have mk1 : MK M (drow (drow (dup M 0 0 0) 13 L) 9 (pack (m_cr (mcl1 Ad Z z k) Z))) := MK_trans mk0 (MK_MT (MT_trans mt1 (MT_9 _ _)))
            have p8' : ∀ j, j < 609 → drow (dup M 0 0 0) 13 L 8 j = pack Ad j := by rw [mt1.1 8 (by omega) (by omega) (by omega) (by omega)]; exact p8
            generalize m_cr (mcl1 Ad Z z k) Z = At1 at rlT d6 mr2 mk1
            generalize (mvs N Z z (k : Int) 16).2 = mvd at c4
            have o3 := s_other (x := x) (P := P) (K := K) (S := S) (m := m) (A := A) (h := h) iv ivT
            have o1 := s_twice (d := x + 68) (D := o_cr (mvs N Z z (k : Int) 16).1 Z) (h := zv x N P K N S m A h)
            rw [zv_dT] at o1
            have o2 := d_countOf (d := x + 68) (h := zv x N P K N S m A h) ivT.1.1.1 0
            rw [zv_dT] at o2
            have q1 := m_twice (mo := mo) (g := g) ivT rlT mr2
            rw [tw_eq one 128 (by omega)] at q1
            have q2 := m_many (m := mo) (h := g) (c := 9) (by omega) mr2 ((congrFun rlT.1.1 0).trans ivT.pw.1) ivT.pw.2.1 0
            rw [cd_many_of rlT.1.2.1] at q2
            have q3 := m_otv (mo := mo) (g := g) iv rl ivT rlT (MT_MR mt1 mr) mr2 p8' (k : Int) q (cd_nl N z : Int)
            generalize hE : o_cr (mvs N Z z (k : Int) 16).1 Z = E at c5 o1 o2 o3 q1 q2 q3
            generalize (mvs N Z z (k : Int) 16).1 = E1 at c4 c5
            rw [rl_nl iv rl hza.1] at d5
            have em : am_cI 233 [am_R mo, am_I k, am_I q] (mv mo M g) = am_oI (am_run am_ms 233 95 [am_R mo, am_I k, am_I q, am_I (cd_nl N z : Int), am_K 1, am_K 1] [am_R mo] (mv mo (drow (drow (dup M 0 0 0) 13 L) 9 (pack (mcl1 Ad Z z k))) g)) := by
              have e3a : ¬ ((k : Nat) : Int) < 0 := by omega
              have e3b : (k : Int) ≤ (cd_nl N z : Int) := e3.2
              rw [am_cI, en_233, bk_233_0]; simp only [bk_233_26, bk_233_52, bk_233_71, mv_p0_0, mv_c0, mv_f0_14, mv_f0_15, mv_f0_16, f14, d1, d2, d3, d4, d5, r6, cc, e3a, e3b, Option.bind_some, Bool.cond_decide, am_oI_some, am_oV_some, am_oI_ite, am_oV_ite, am_bind_ite, Int.toNat_natCast, Int.toNat_zero, Int.reduceToNat, ite_true, ite_false, not_true_eq_false, not_false_eq_true, decide_true, decide_false, decide_eq_true_eq, Bool.false_eq_true, Nat.add_zero, am_rok1_0, am_rok1_1, cond_true, cond_false, am_w_nat1, true_or, or_true, false_or, or_false, true_and, and_true, false_and, and_false, Int.reduceEq, Int.reduceNeg, Int.reduceLT, Int.reduceLE, or_self, and_self]
            have ec : am_cI 230 [am_R x, am_I k, am_I q] (zv x N P K T S m A h) = am_oI (am_run am_ms 230 88 [am_R x, am_I k, am_I q, am_I z, am_R (x + 68)] [am_R (x + 68)] (zv x N P K E1 S m A h)) := by
              have e3a : ¬ ((k : Nat) : Int) < 0 := by omega
              have e3b : (k : Int) ≤ (cd_nl N z : Int) := e3.2
              have e1a : ¬ q < 0 := by omega
              have e1b : q ≤ 2 := by omega
              rw [am_cI, en_230, bk_230_0]; simp only [bk_230_22, bk_230_48, bk_230_60, zv_c0, zv_f0_4, zv_f0_8, zv_f67_0, zN_c, zT_c, c0, c1, c2', c3, c4, ct, e1a, e1b, e2, e3a, e3b, Int.reduceEq, Option.bind_some, Bool.cond_decide, am_oI_some, am_oV_some, am_oI_ite, am_oV_ite, am_bind_ite, Int.toNat_natCast, Int.toNat_zero, Int.reduceToNat, ite_true, ite_false, not_true_eq_false, not_false_eq_true, decide_true, decide_false, decide_eq_true_eq, Bool.false_eq_true, Nat.add_zero, am_rok1_0, am_rok1_1, cond_true, cond_false, am_w_nat1, true_or, or_true, false_or, or_false, true_and, and_true, false_and, and_false, Int.reduceEq, Int.reduceNeg, Int.reduceLT, Int.reduceLE, or_self, and_self]
            by_cases b0 : q = 0
            · refine ⟨(otv N E 32 : Int), P, E, S, _, ?_, ?_, mk1, SK_refl S⟩
              · rw [ec, bk_230_88]; simp only [zv_f0_4, zT_c, c5, o3, b0, Option.bind_some, Bool.cond_decide, am_oI_some, am_oV_some, am_oI_ite, am_oV_ite, am_bind_ite, Int.toNat_natCast, Int.toNat_zero, Int.reduceToNat, ite_true, ite_false, not_true_eq_false, not_false_eq_true, decide_true, decide_false, decide_eq_true_eq, Bool.false_eq_true, Nat.add_zero, am_rok1_0, am_rok1_1, cond_true, cond_false, am_w_nat1, true_or, or_true, false_or, or_false, true_and, and_true, false_and, and_false, Int.reduceEq, Int.reduceNeg, Int.reduceLT, Int.reduceLE, or_self, and_self]
              · have b1 : ¬ q = 1 := by omega
                have b2 : ¬ q = 2 := by omega
                rw [em, bk_233_95]; simp only [bk_233_116, bk_233_131, mv_c0, mv_f0_16, d6, q3, b1, b2, Option.bind_some, Bool.cond_decide, am_oI_some, am_oV_some, am_oI_ite, am_oV_ite, am_bind_ite, Int.toNat_natCast, Int.toNat_zero, Int.reduceToNat, ite_true, ite_false, not_true_eq_false, not_false_eq_true, decide_true, decide_false, decide_eq_true_eq, Bool.false_eq_true, Nat.add_zero, am_rok1_0, am_rok1_1, cond_true, cond_false, am_w_nat1, true_or, or_true, false_or, or_false, true_and, and_true, false_and, and_false, Int.reduceEq, Int.reduceNeg, Int.reduceLT, Int.reduceLE, or_self, and_self]
            · by_cases b1 : q = 1
              · refine ⟨(cnt (tw1 E) 128 : Int), P, E, S, _, ?_, ?_, mk1, SK_refl S⟩
                · rw [ec, bk_230_88]; simp only [bk_230_106, bk_230_125, zT_c, c5, o1, b0, b1, Option.bind_some, Bool.cond_decide, am_oI_some, am_oV_some, am_oI_ite, am_oV_ite, am_bind_ite, Int.toNat_natCast, Int.toNat_zero, Int.reduceToNat, ite_true, ite_false, not_true_eq_false, not_false_eq_true, decide_true, decide_false, decide_eq_true_eq, Bool.false_eq_true, Nat.add_zero, am_rok1_0, am_rok1_1, cond_true, cond_false, am_w_nat1, true_or, or_true, false_or, or_false, true_and, and_true, false_and, and_false, Int.reduceEq, Int.reduceNeg, Int.reduceLT, Int.reduceLE, or_self, and_self]
                · rw [em, bk_233_95]; simp only [mv_c0, mv_f0_16, d6, q1, b1, Option.bind_some, Bool.cond_decide, am_oI_some, am_oV_some, am_oI_ite, am_oV_ite, am_bind_ite, Int.toNat_natCast, Int.toNat_zero, Int.reduceToNat, ite_true, ite_false, not_true_eq_false, not_false_eq_true, decide_true, decide_false, decide_eq_true_eq, Bool.false_eq_true, Nat.add_zero, am_rok1_0, am_rok1_1, cond_true, cond_false, am_w_nat1, true_or, or_true, false_or, or_false, true_and, and_true, false_and, and_false, Int.reduceEq, Int.reduceNeg, Int.reduceLT, Int.reduceLE, or_self, and_self]
              · have b2 : q = 2 := by omega
                refine ⟨(cd_many E Z 0 : Int), P, E, S, _, ?_, ?_, mk1, SK_refl S⟩
                · rw [ec, bk_230_88]; simp only [bk_230_106, bk_230_119, bk_230_125, zT_c, c5, o2, b0, b1, Option.bind_some, Bool.cond_decide, am_oI_some, am_oV_some, am_oI_ite, am_oV_ite, am_bind_ite, Int.toNat_natCast, Int.toNat_zero, Int.reduceToNat, ite_true, ite_false, not_true_eq_false, not_false_eq_true, decide_true, decide_false, decide_eq_true_eq, Bool.false_eq_true, Nat.add_zero, am_rok1_0, am_rok1_1, cond_true, cond_false, am_w_nat1, true_or, or_true, false_or, or_false, true_and, and_true, false_and, and_false, Int.reduceEq, Int.reduceNeg, Int.reduceLT, Int.reduceLE, or_self, and_self]
                · rw [em, bk_233_95]; simp only [bk_233_116, mv_c0, mv_f0_16, d6, q2, b1, b2, Int.reduceEq, Option.bind_some, Bool.cond_decide, am_oI_some, am_oV_some, am_oI_ite, am_oV_ite, am_bind_ite, Int.toNat_natCast, Int.toNat_zero, Int.reduceToNat, ite_true, ite_false, not_true_eq_false, not_false_eq_true, decide_true, decide_false, decide_eq_true_eq, Bool.false_eq_true, Nat.add_zero, am_rok1_0, am_rok1_1, cond_true, cond_false, am_w_nat1, true_or, or_true, false_or, or_false, true_and, and_true, false_and, and_false, Int.reduceEq, Int.reduceNeg, Int.reduceLT, Int.reduceLE, or_self, and_self]
          · refine ⟨-1, P, T, S, dup M 0 0 0, ?_, ?_, mk0, SK_refl S⟩
            · by_cases e4 : k0 < 0
              · rw [am_cI, en_230, bk_230_0]; simp (disch := omega) only [bk_230_20, zv_c0, c0, Option.bind_some, Bool.cond_decide, am_oI_some, am_oV_some, am_oI_ite, am_oV_ite, am_bind_ite, Int.toNat_natCast, Int.toNat_zero, Int.reduceToNat, ite_true, ite_false, not_true_eq_false, not_false_eq_true, decide_true, decide_false, decide_eq_true_eq, Bool.false_eq_true, Nat.add_zero, am_rok1_0, am_rok1_1, cond_true, cond_false, am_w_nat1, true_or, or_true, false_or, or_false, true_and, and_true, false_and, and_false, Int.reduceEq, Int.reduceNeg, Int.reduceLT, Int.reduceLE, or_self, and_self, if_pos, if_neg]
              · rw [am_cI, en_230, bk_230_0]; simp (disch := omega) only [bk_230_22, bk_230_48, bk_230_58, zv_c0, zv_f0_4, zN_c, c0, c1, c2', c3, Option.bind_some, Bool.cond_decide, am_oI_some, am_oV_some, am_oI_ite, am_oV_ite, am_bind_ite, Int.toNat_natCast, Int.toNat_zero, Int.reduceToNat, ite_true, ite_false, not_true_eq_false, not_false_eq_true, decide_true, decide_false, decide_eq_true_eq, Bool.false_eq_true, Nat.add_zero, am_rok1_0, am_rok1_1, cond_true, cond_false, am_w_nat1, true_or, or_true, false_or, or_false, true_and, and_true, false_and, and_false, Int.reduceEq, Int.reduceNeg, Int.reduceLT, Int.reduceLE, or_self, and_self, if_pos, if_neg]
            · by_cases e4 : k0 < 0
              · rw [am_cI, en_233, bk_233_0]; simp (disch := omega) only [bk_233_26, bk_233_69, mv_p0_0, mv_c0, mv_f0_14, mv_f0_15, f14, d1, d2, Option.bind_some, Bool.cond_decide, am_oI_some, am_oV_some, am_oI_ite, am_oV_ite, am_bind_ite, Int.toNat_natCast, Int.toNat_zero, Int.reduceToNat, ite_true, ite_false, not_true_eq_false, not_false_eq_true, decide_true, decide_false, decide_eq_true_eq, Bool.false_eq_true, Nat.add_zero, am_rok1_0, am_rok1_1, cond_true, cond_false, am_w_nat1, true_or, or_true, false_or, or_false, true_and, and_true, false_and, and_false, Int.reduceEq, Int.reduceNeg, Int.reduceLT, Int.reduceLE, or_self, and_self, if_pos, if_neg]
              · rw [am_cI, en_233, bk_233_0]; simp (disch := omega) only [bk_233_26, bk_233_52, bk_233_69, mv_p0_0, mv_c0, mv_f0_14, mv_f0_15, f14, d1, d2, d3, d4, r6, Option.bind_some, Bool.cond_decide, am_oI_some, am_oV_some, am_oI_ite, am_oV_ite, am_bind_ite, Int.toNat_natCast, Int.toNat_zero, Int.reduceToNat, ite_true, ite_false, not_true_eq_false, not_false_eq_true, decide_true, decide_false, decide_eq_true_eq, Bool.false_eq_true, Nat.add_zero, am_rok1_0, am_rok1_1, cond_true, cond_false, am_w_nat1, true_or, or_true, false_or, or_false, true_and, and_true, false_and, and_false, Int.reduceEq, Int.reduceNeg, Int.reduceLT, Int.reduceLE, or_self, and_self, if_pos, if_neg]
    · rw [if_neg e1] at d1
      refine ⟨-1, P, T, S, dup M 0 0 0, ?_, ?_, mk0, SK_refl S⟩
      · by_cases e3 : k0 < 0
        · rw [am_cI, en_230, bk_230_0]; simp (disch := omega) only [bk_230_20, zv_c0, c0, Option.bind_some, Bool.cond_decide, am_oI_some, am_oV_some, am_oI_ite, am_oV_ite, am_bind_ite, Int.toNat_natCast, Int.toNat_zero, Int.reduceToNat, ite_true, ite_false, not_true_eq_false, not_false_eq_true, decide_true, decide_false, decide_eq_true_eq, Bool.false_eq_true, Nat.add_zero, am_rok1_0, am_rok1_1, cond_true, cond_false, am_w_nat1, true_or, or_true, false_or, or_false, true_and, and_true, false_and, and_false, Int.reduceEq, Int.reduceNeg, Int.reduceLT, Int.reduceLE, or_self, and_self, if_pos, if_neg]
        · by_cases e4 : q < 0
          · rw [am_cI, en_230, bk_230_0]; simp (disch := omega) only [bk_230_20, zv_c0, c0, Option.bind_some, Bool.cond_decide, am_oI_some, am_oV_some, am_oI_ite, am_oV_ite, am_bind_ite, Int.toNat_natCast, Int.toNat_zero, Int.reduceToNat, ite_true, ite_false, not_true_eq_false, not_false_eq_true, decide_true, decide_false, decide_eq_true_eq, Bool.false_eq_true, Nat.add_zero, am_rok1_0, am_rok1_1, cond_true, cond_false, am_w_nat1, true_or, or_true, false_or, or_false, true_and, and_true, false_and, and_false, Int.reduceEq, Int.reduceNeg, Int.reduceLT, Int.reduceLE, or_self, and_self, if_pos, if_neg]
          · rw [am_cI, en_230, bk_230_0]; simp (disch := omega) only [bk_230_20, zv_c0, c0, Option.bind_some, Bool.cond_decide, am_oI_some, am_oV_some, am_oI_ite, am_oV_ite, am_bind_ite, Int.toNat_natCast, Int.toNat_zero, Int.reduceToNat, ite_true, ite_false, not_true_eq_false, not_false_eq_true, decide_true, decide_false, decide_eq_true_eq, Bool.false_eq_true, Nat.add_zero, am_rok1_0, am_rok1_1, cond_true, cond_false, am_w_nat1, true_or, or_true, false_or, or_false, true_and, and_true, false_and, and_false, Int.reduceEq, Int.reduceNeg, Int.reduceLT, Int.reduceLE, or_self, and_self, if_pos, if_neg]
      · rw [am_cI, en_233, bk_233_0]; simp (disch := omega) only [bk_233_69, mv_p0_0, mv_c0, mv_f0_14, f14, d1, Option.bind_some, Bool.cond_decide, am_oI_some, am_oV_some, am_oI_ite, am_oV_ite, am_bind_ite, Int.toNat_natCast, Int.toNat_zero, Int.reduceToNat, ite_true, ite_false, not_true_eq_false, not_false_eq_true, decide_true, decide_false, decide_eq_true_eq, Bool.false_eq_true, Nat.add_zero, am_rok1_0, am_rok1_1, cond_true, cond_false, am_w_nat1, true_or, or_true, false_or, or_false, true_and, and_true, false_and, and_false, Int.reduceEq, Int.reduceNeg, Int.reduceLT, Int.reduceLE, or_self, and_self, if_pos, if_neg]
end TORN
