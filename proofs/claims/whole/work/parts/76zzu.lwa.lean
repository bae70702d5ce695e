/-! ===== the law's cases ===== -/
section LW0
variable {x mo o lo c0 t i : Nat} {L : Nat × (Nat → Int)} {H : am_H}
theorem lw_0 (g1 : x + 107 ≤ mo) (g2 : mo + 15 ≤ o) (g3 : o < lo) (ht : t < 512) (hi : i + 7 ≤ L.1) (hL : L.1 ≤ 3584) (st : ST x mo o lo c0 L t H) (y5 y6 : am_V) : ∃ H2, am_run am_ms 304 240 [am_K 2, am_R x, am_R mo, am_R o, am_I i, y5, y6] [] H = am_run am_ms 304 1939 [am_K 2, am_R x, am_R mo, am_R o, am_I i, y5, y6] [] H2 ∧ ST x mo o lo c0 L (t + 1) H2 := by
  obtain ⟨v, H1, H2, c1, c2, st2, i8, i9, hL1, hL2⟩ := st_call g1 g2 g3 12 15 [am_I (L.2 (i + 1)), am_I (L.2 (i + 2)), am_I (L.2 (i + 3)), am_I (L.2 (i + 4)), am_I (L.2 (i + 5))] st (fun N P K T S M m A HD h n g w hs hn => CL_mono (cl_feed w hs (L.2 (i + 1)) (L.2 (i + 2)) (L.2 (i + 3)) (L.2 (i + 4)) (L.2 (i + 5))) (by omega))
  refine ⟨H2, ?_, st2⟩
  have hb : Nat.beq 2 1 = false := rfl
  have r1 := rk_L (H := H) hL1 (j := i + 1) (by omega)
  have q1 := rk_L (H := H1) hL2 (j := i + 1) (by omega)
  have r2 := rk_L (H := H) hL1 (j := i + 2) (by omega)
  have q2 := rk_L (H := H1) hL2 (j := i + 2) (by omega)
  have r3 := rk_L (H := H) hL1 (j := i + 3) (by omega)
  have q3 := rk_L (H := H1) hL2 (j := i + 3) (by omega)
  have r4 := rk_L (H := H) hL1 (j := i + 4) (by omega)
  have q4 := rk_L (H := H1) hL2 (j := i + 4) (by omega)
  have r5 := rk_L (H := H) hL1 (j := i + 5) (by omega)
  have q5 := rk_L (H := H1) hL2 (j := i + 5) (by omega)
  have hi1 : i < 100000 := by omega
  have e1 : am_w ((i : Int) + 1) = ((i + 1 : Nat) : Int) := w_ik hi1 1 (by decide)
  have e2 : am_w ((i : Int) + 2) = ((i + 2 : Nat) : Int) := w_ik hi1 2 (by decide)
  have e3 : am_w ((i : Int) + 3) = ((i + 3 : Nat) : Int) := w_ik hi1 3 (by decide)
  have e4 : am_w ((i : Int) + 4) = ((i + 4 : Nat) : Int) := w_ik hi1 4 (by decide)
  have e5 : am_w ((i : Int) + 5) = ((i + 5 : Nat) : Int) := w_ik hi1 5 (by decide)
  rw [bk_304_240]
  simp only [bk_304_257, bk_304_275, bk_304_292, bk_304_312, hb, e1, e2, e3, e4, e5, r1, q1, r2, q2, r3, q3, r4, q4, r5, q5, i8, i9, c1, c2, eq_self, Option.bind_some, Bool.cond_decide, am_oI_some, am_oV_some, am_oI_ite, am_oV_ite, am_bind_ite, Int.toNat_natCast, Int.toNat_zero, Int.reduceToNat, ite_true, ite_false, not_true_eq_false, not_false_eq_true, decide_true, decide_false, decide_eq_true_eq, Bool.false_eq_true, Nat.add_zero, am_rok1_0, am_rok1_1, cond_true, cond_false, am_w_nat1, true_or, or_true, false_or, or_false, true_and, and_true, false_and, and_false, Int.reduceEq, Int.reduceNeg, Int.reduceLT, Int.reduceLE, or_self, and_self]
theorem lw_1 (g1 : x + 107 ≤ mo) (g2 : mo + 15 ≤ o) (g3 : o < lo) (ht : t < 512) (hi : i + 7 ≤ L.1) (hL : L.1 ≤ 3584) (st : ST x mo o lo c0 L t H) (y5 y6 : am_V) : ∃ H2, am_run am_ms 304 313 [am_K 2, am_R x, am_R mo, am_R o, am_I i, y5, y6] [] H = am_run am_ms 304 1939 [am_K 2, am_R x, am_R mo, am_R o, am_I i, y5, y6] [] H2 ∧ ST x mo o lo c0 L (t + 1) H2 := by
  obtain ⟨v, H1, H2, c1, c2, st2, i8, i9, hL1, hL2⟩ := st_call g1 g2 g3 16 17 [am_I (L.2 (i + 1))] st (fun N P K T S M m A HD h n g w hs hn => CL_mono (cl_end w hs (L.2 (i + 1))) (by omega))
  refine ⟨H2, ?_, st2⟩
  have hb : Nat.beq 2 1 = false := rfl
  have r1 := rk_L (H := H) hL1 (j := i + 1) (by omega)
  have q1 := rk_L (H := H1) hL2 (j := i + 1) (by omega)
  have hi1 : i < 100000 := by omega
  have e1 : am_w ((i : Int) + 1) = ((i + 1 : Nat) : Int) := w_ik hi1 1 (by decide)
  rw [bk_304_313]
  simp only [bk_304_333, hb, e1, r1, q1, i8, i9, c1, c2, eq_self, Option.bind_some, Bool.cond_decide, am_oI_some, am_oV_some, am_oI_ite, am_oV_ite, am_bind_ite, Int.toNat_natCast, Int.toNat_zero, Int.reduceToNat, ite_true, ite_false, not_true_eq_false, not_false_eq_true, decide_true, decide_false, decide_eq_true_eq, Bool.false_eq_true, Nat.add_zero, am_rok1_0, am_rok1_1, cond_true, cond_false, am_w_nat1, true_or, or_true, false_or, or_false, true_and, and_true, false_and, and_false, Int.reduceEq, Int.reduceNeg, Int.reduceLT, Int.reduceLE, or_self, and_self]
theorem lw_2 (g1 : x + 107 ≤ mo) (g2 : mo + 15 ≤ o) (g3 : o < lo) (ht : t < 512) (hi : i + 7 ≤ L.1) (hL : L.1 ≤ 3584) (st : ST x mo o lo c0 L t H) (y5 y6 : am_V) : ∃ H2, am_run am_ms 304 338 [am_K 2, am_R x, am_R mo, am_R o, am_I i, y5, y6] [] H = am_run am_ms 304 1939 [am_K 2, am_R x, am_R mo, am_R o, am_I i, y5, y6] [] H2 ∧ ST x mo o lo c0 L (t + 1) H2 := by
  obtain ⟨v, H1, H2, c1, c2, st2, i8, i9, hL1, hL2⟩ := st_call g1 g2 g3 39 60 [am_I (L.2 (i + 1))] st (fun N P K T S M m A HD h n g w hs hn => CL_mono (cl_fault w hs (L.2 (i + 1))) (by omega))
  refine ⟨H2, ?_, st2⟩
  have hb : Nat.beq 2 1 = false := rfl
  have r1 := rk_L (H := H) hL1 (j := i + 1) (by omega)
  have q1 := rk_L (H := H1) hL2 (j := i + 1) (by omega)
  have hi1 : i < 100000 := by omega
  have e1 : am_w ((i : Int) + 1) = ((i + 1 : Nat) : Int) := w_ik hi1 1 (by decide)
  rw [bk_304_338]
  simp only [bk_304_358, hb, e1, r1, q1, i8, i9, c1, c2, eq_self, Option.bind_some, Bool.cond_decide, am_oI_some, am_oV_some, am_oI_ite, am_oV_ite, am_bind_ite, Int.toNat_natCast, Int.toNat_zero, Int.reduceToNat, ite_true, ite_false, not_true_eq_false, not_false_eq_true, decide_true, decide_false, decide_eq_true_eq, Bool.false_eq_true, Nat.add_zero, am_rok1_0, am_rok1_1, cond_true, cond_false, am_w_nat1, true_or, or_true, false_or, or_false, true_and, and_true, false_and, and_false, Int.reduceEq, Int.reduceNeg, Int.reduceLT, Int.reduceLE, or_self, and_self]
theorem lw_3 (g1 : x + 107 ≤ mo) (g2 : mo + 15 ≤ o) (g3 : o < lo) (ht : t < 512) (hi : i + 7 ≤ L.1) (hL : L.1 ≤ 3584) (st : ST x mo o lo c0 L t H) (y5 y6 : am_V) : ∃ H2, am_run am_ms 304 363 [am_K 2, am_R x, am_R mo, am_R o, am_I i, y5, y6] [] H = am_run am_ms 304 1939 [am_K 2, am_R x, am_R mo, am_R o, am_I i, y5, y6] [] H2 ∧ ST x mo o lo c0 L (t + 1) H2 := by
  obtain ⟨v, H1, H2, c1, c2, st2, i8, i9, hL1, hL2⟩ := st_call g1 g2 g3 106 136 [am_I (L.2 (i + 1))] st (fun N P K T S M m A HD h n g w hs hn => CL_mono (cl_text w hs (L.2 (i + 1))) (by omega))
  refine ⟨H2, ?_, st2⟩
  have hb : Nat.beq 2 1 = false := rfl
  have r1 := rk_L (H := H) hL1 (j := i + 1) (by omega)
  have q1 := rk_L (H := H1) hL2 (j := i + 1) (by omega)
  have hi1 : i < 100000 := by omega
  have e1 : am_w ((i : Int) + 1) = ((i + 1 : Nat) : Int) := w_ik hi1 1 (by decide)
  rw [bk_304_363]
  simp only [bk_304_383, hb, e1, r1, q1, i8, i9, c1, c2, eq_self, Option.bind_some, Bool.cond_decide, am_oI_some, am_oV_some, am_oI_ite, am_oV_ite, am_bind_ite, Int.toNat_natCast, Int.toNat_zero, Int.reduceToNat, ite_true, ite_false, not_true_eq_false, not_false_eq_true, decide_true, decide_false, decide_eq_true_eq, Bool.false_eq_true, Nat.add_zero, am_rok1_0, am_rok1_1, cond_true, cond_false, am_w_nat1, true_or, or_true, false_or, or_false, true_and, and_true, false_and, and_false, Int.reduceEq, Int.reduceNeg, Int.reduceLT, Int.reduceLE, or_self, and_self]
theorem lw_4 (g1 : x + 107 ≤ mo) (g2 : mo + 15 ≤ o) (g3 : o < lo) (ht : t < 512) (hi : i + 7 ≤ L.1) (hL : L.1 ≤ 3584) (st : ST x mo o lo c0 L t H) (y5 y6 : am_V) : ∃ H2, am_run am_ms 304 388 [am_K 2, am_R x, am_R mo, am_R o, am_I i, y5, y6] [] H = am_run am_ms 304 1939 [am_K 2, am_R x, am_R mo, am_R o, am_I i, y5, y6] [] H2 ∧ ST x mo o lo c0 L (t + 1) H2 := by
  obtain ⟨v, H1, H2, c1, c2, st2, i8, i9, hL1, hL2⟩ := st_call g1 g2 g3 138 139 [am_I (L.2 (i + 1))] st (fun N P K T S M m A HD h n g w hs hn => cl_of_lk w hs (by omega) (lk_rule w (L.2 (i + 1))))
  refine ⟨H2, ?_, st2⟩
  have hb : Nat.beq 2 1 = false := rfl
  have r1 := rk_L (H := H) hL1 (j := i + 1) (by omega)
  have q1 := rk_L (H := H1) hL2 (j := i + 1) (by omega)
  have hi1 : i < 100000 := by omega
  have e1 : am_w ((i : Int) + 1) = ((i + 1 : Nat) : Int) := w_ik hi1 1 (by decide)
  rw [bk_304_388]
  simp only [bk_304_408, hb, e1, r1, q1, i8, i9, c1, c2, eq_self, Option.bind_some, Bool.cond_decide, am_oI_some, am_oV_some, am_oI_ite, am_oV_ite, am_bind_ite, Int.toNat_natCast, Int.toNat_zero, Int.reduceToNat, ite_true, ite_false, not_true_eq_false, not_false_eq_true, decide_true, decide_false, decide_eq_true_eq, Bool.false_eq_true, Nat.add_zero, am_rok1_0, am_rok1_1, cond_true, cond_false, am_w_nat1, true_or, or_true, false_or, or_false, true_and, and_true, false_and, and_false, Int.reduceEq, Int.reduceNeg, Int.reduceLT, Int.reduceLE, or_self, and_self]
theorem lw_6 (g1 : x + 107 ≤ mo) (g2 : mo + 15 ≤ o) (g3 : o < lo) (ht : t < 512) (hi : i + 7 ≤ L.1) (hL : L.1 ≤ 3584) (st : ST x mo o lo c0 L t H) (y5 y6 : am_V) : ∃ H2, am_run am_ms 304 481 [am_K 2, am_R x, am_R mo, am_R o, am_I i, y5, y6] [] H = am_run am_ms 304 1939 [am_K 2, am_R x, am_R mo, am_R o, am_I i, y5, y6] [] H2 ∧ ST x mo o lo c0 L (t + 1) H2 := by
  obtain ⟨v, H1, H2, c1, c2, st2, i8, i9, hL1, hL2⟩ := st_call g1 g2 g3 143 144 [am_I (L.2 (i + 1)), am_I (L.2 (i + 2)), am_I (L.2 (i + 3))] st (fun N P K T S M m A HD h n g w hs hn => cl_of_lk w hs (by omega) (lk_block w (L.2 (i + 1)) (L.2 (i + 2)) (L.2 (i + 3))))
  refine ⟨H2, ?_, st2⟩
  have hb : Nat.beq 2 1 = false := rfl
  have r1 := rk_L (H := H) hL1 (j := i + 1) (by omega)
  have q1 := rk_L (H := H1) hL2 (j := i + 1) (by omega)
  have r2 := rk_L (H := H) hL1 (j := i + 2) (by omega)
  have q2 := rk_L (H := H1) hL2 (j := i + 2) (by omega)
  have r3 := rk_L (H := H) hL1 (j := i + 3) (by omega)
  have q3 := rk_L (H := H1) hL2 (j := i + 3) (by omega)
  have hi1 : i < 100000 := by omega
  have e1 : am_w ((i : Int) + 1) = ((i + 1 : Nat) : Int) := w_ik hi1 1 (by decide)
  have e2 : am_w ((i : Int) + 2) = ((i + 2 : Nat) : Int) := w_ik hi1 2 (by decide)
  have e3 : am_w ((i : Int) + 3) = ((i + 3 : Nat) : Int) := w_ik hi1 3 (by decide)
  rw [bk_304_481]
  simp only [bk_304_498, bk_304_516, hb, e1, e2, e3, r1, q1, r2, q2, r3, q3, i8, i9, c1, c2, eq_self, Option.bind_some, Bool.cond_decide, am_oI_some, am_oV_some, am_oI_ite, am_oV_ite, am_bind_ite, Int.toNat_natCast, Int.toNat_zero, Int.reduceToNat, ite_true, ite_false, not_true_eq_false, not_false_eq_true, decide_true, decide_false, decide_eq_true_eq, Bool.false_eq_true, Nat.add_zero, am_rok1_0, am_rok1_1, cond_true, cond_false, am_w_nat1, true_or, or_true, false_or, or_false, true_and, and_true, false_and, and_false, Int.reduceEq, Int.reduceNeg, Int.reduceLT, Int.reduceLE, or_self, and_self]
theorem lw_7 (g1 : x + 107 ≤ mo) (g2 : mo + 15 ≤ o) (g3 : o < lo) (ht : t < 512) (hi : i + 7 ≤ L.1) (hL : L.1 ≤ 3584) (st : ST x mo o lo c0 L t H) (y5 y6 : am_V) : ∃ H2, am_run am_ms 304 530 [am_K 2, am_R x, am_R mo, am_R o, am_I i, y5, y6] [] H = am_run am_ms 304 1939 [am_K 2, am_R x, am_R mo, am_R o, am_I i, y5, y6] [] H2 ∧ ST x mo o lo c0 L (t + 1) H2 := by
  obtain ⟨v, H1, H2, c1, c2, st2, i8, i9, hL1, hL2⟩ := st_call g1 g2 g3 145 148 [am_I (L.2 (i + 1))] st (fun N P K T S M m A HD h n g w hs hn => cl_of_lk w hs (by omega) (lk_get w (L.2 (i + 1))))
  refine ⟨H2, ?_, st2⟩
  have hb : Nat.beq 2 1 = false := rfl
  have r1 := rk_L (H := H) hL1 (j := i + 1) (by omega)
  have q1 := rk_L (H := H1) hL2 (j := i + 1) (by omega)
  have hi1 : i < 100000 := by omega
  have e1 : am_w ((i : Int) + 1) = ((i + 1 : Nat) : Int) := w_ik hi1 1 (by decide)
  rw [bk_304_530]
  simp only [bk_304_550, hb, e1, r1, q1, i8, i9, c1, c2, eq_self, Option.bind_some, Bool.cond_decide, am_oI_some, am_oV_some, am_oI_ite, am_oV_ite, am_bind_ite, Int.toNat_natCast, Int.toNat_zero, Int.reduceToNat, ite_true, ite_false, not_true_eq_false, not_false_eq_true, decide_true, decide_false, decide_eq_true_eq, Bool.false_eq_true, Nat.add_zero, am_rok1_0, am_rok1_1, cond_true, cond_false, am_w_nat1, true_or, or_true, false_or, or_false, true_and, and_true, false_and, and_false, Int.reduceEq, Int.reduceNeg, Int.reduceLT, Int.reduceLE, or_self, and_self]
theorem lw_8 (g1 : x + 107 ≤ mo) (g2 : mo + 15 ≤ o) (g3 : o < lo) (ht : t < 512) (hi : i + 7 ≤ L.1) (hL : L.1 ≤ 3584) (st : ST x mo o lo c0 L t H) (y5 y6 : am_V) : ∃ H2, am_run am_ms 304 555 [am_K 2, am_R x, am_R mo, am_R o, am_I i, y5, y6] [] H = am_run am_ms 304 1939 [am_K 2, am_R x, am_R mo, am_R o, am_I i, y5, y6] [] H2 ∧ ST x mo o lo c0 L (t + 1) H2 := by
  obtain ⟨v, H1, H2, c1, c2, st2, i8, i9, hL1, hL2⟩ := st_call g1 g2 g3 150 151 [am_I (L.2 (i + 1)), am_I (L.2 (i + 2))] st (fun N P K T S M m A HD h n g w hs hn => cl_of_lk w hs (by omega) (lk_key (by omega) w (L.2 (i + 1)) (L.2 (i + 2))))
  refine ⟨H2, ?_, st2⟩
  have hb : Nat.beq 2 1 = false := rfl
  have r1 := rk_L (H := H) hL1 (j := i + 1) (by omega)
  have q1 := rk_L (H := H1) hL2 (j := i + 1) (by omega)
  have r2 := rk_L (H := H) hL1 (j := i + 2) (by omega)
  have q2 := rk_L (H := H1) hL2 (j := i + 2) (by omega)
  have hi1 : i < 100000 := by omega
  have e1 : am_w ((i : Int) + 1) = ((i + 1 : Nat) : Int) := w_ik hi1 1 (by decide)
  have e2 : am_w ((i : Int) + 2) = ((i + 2 : Nat) : Int) := w_ik hi1 2 (by decide)
  rw [bk_304_555]
  simp only [bk_304_573, hb, e1, e2, r1, q1, r2, q2, i8, i9, c1, c2, eq_self, Option.bind_some, Bool.cond_decide, am_oI_some, am_oV_some, am_oI_ite, am_oV_ite, am_bind_ite, Int.toNat_natCast, Int.toNat_zero, Int.reduceToNat, ite_true, ite_false, not_true_eq_false, not_false_eq_true, decide_true, decide_false, decide_eq_true_eq, Bool.false_eq_true, Nat.add_zero, am_rok1_0, am_rok1_1, cond_true, cond_false, am_w_nat1, true_or, or_true, false_or, or_false, true_and, and_true, false_and, and_false, Int.reduceEq, Int.reduceNeg, Int.reduceLT, Int.reduceLE, or_self, and_self]
theorem lw_9 (g1 : x + 107 ≤ mo) (g2 : mo + 15 ≤ o) (g3 : o < lo) (ht : t < 512) (hi : i + 7 ≤ L.1) (hL : L.1 ≤ 3584) (st : ST x mo o lo c0 L t H) (y5 y6 : am_V) : ∃ H2, am_run am_ms 304 592 [am_K 2, am_R x, am_R mo, am_R o, am_I i, y5, y6] [] H = am_run am_ms 304 1939 [am_K 2, am_R x, am_R mo, am_R o, am_I i, y5, y6] [] H2 ∧ ST x mo o lo c0 L (t + 1) H2 := by
  obtain ⟨v, H1, H2, c1, c2, st2, i8, i9, hL1, hL2⟩ := st_call g1 g2 g3 152 153 [am_I (L.2 (i + 1))] st (fun N P K T S M m A HD h n g w hs hn => cl_of_lk w hs (by omega) (lk_next w (L.2 (i + 1))))
  refine ⟨H2, ?_, st2⟩
  have hb : Nat.beq 2 1 = false := rfl
  have r1 := rk_L (H := H) hL1 (j := i + 1) (by omega)
  have q1 := rk_L (H := H1) hL2 (j := i + 1) (by omega)
  have hi1 : i < 100000 := by omega
  have e1 : am_w ((i : Int) + 1) = ((i + 1 : Nat) : Int) := w_ik hi1 1 (by decide)
  rw [bk_304_592]
  simp only [bk_304_612, hb, e1, r1, q1, i8, i9, c1, c2, eq_self, Option.bind_some, Bool.cond_decide, am_oI_some, am_oV_some, am_oI_ite, am_oV_ite, am_bind_ite, Int.toNat_natCast, Int.toNat_zero, Int.reduceToNat, ite_true, ite_false, not_true_eq_false, not_false_eq_true, decide_true, decide_false, decide_eq_true_eq, Bool.false_eq_true, Nat.add_zero, am_rok1_0, am_rok1_1, cond_true, cond_false, am_w_nat1, true_or, or_true, false_or, or_false, true_and, and_true, false_and, and_false, Int.reduceEq, Int.reduceNeg, Int.reduceLT, Int.reduceLE, or_self, and_self]
theorem lw_10 (g1 : x + 107 ≤ mo) (g2 : mo + 15 ≤ o) (g3 : o < lo) (ht : t < 512) (hi : i + 7 ≤ L.1) (hL : L.1 ≤ 3584) (st : ST x mo o lo c0 L t H) (y5 y6 : am_V) : ∃ H2, am_run am_ms 304 617 [am_K 2, am_R x, am_R mo, am_R o, am_I i, y5, y6] [] H = am_run am_ms 304 1939 [am_K 2, am_R x, am_R mo, am_R o, am_I i, y5, y6] [] H2 ∧ ST x mo o lo c0 L (t + 1) H2 := by
  obtain ⟨v, H1, H2, c1, c2, st2, i8, i9, hL1, hL2⟩ := st_call g1 g2 g3 154 155 [am_I (L.2 (i + 1)), am_I (L.2 (i + 2)), am_I (L.2 (i + 3))] st (fun N P K T S M m A HD h n g w hs hn => cl_of_lk w hs (by omega) (lk_range w (L.2 (i + 1)) (L.2 (i + 2)) (L.2 (i + 3))))
  refine ⟨H2, ?_, st2⟩
  have hb : Nat.beq 2 1 = false := rfl
  have r1 := rk_L (H := H) hL1 (j := i + 1) (by omega)
  have q1 := rk_L (H := H1) hL2 (j := i + 1) (by omega)
  have r2 := rk_L (H := H) hL1 (j := i + 2) (by omega)
  have q2 := rk_L (H := H1) hL2 (j := i + 2) (by omega)
  have r3 := rk_L (H := H) hL1 (j := i + 3) (by omega)
  have q3 := rk_L (H := H1) hL2 (j := i + 3) (by omega)
  have hi1 : i < 100000 := by omega
  have e1 : am_w ((i : Int) + 1) = ((i + 1 : Nat) : Int) := w_ik hi1 1 (by decide)
  have e2 : am_w ((i : Int) + 2) = ((i + 2 : Nat) : Int) := w_ik hi1 2 (by decide)
  have e3 : am_w ((i : Int) + 3) = ((i + 3 : Nat) : Int) := w_ik hi1 3 (by decide)
  rw [bk_304_617]
  simp only [bk_304_634, bk_304_652, hb, e1, e2, e3, r1, q1, r2, q2, r3, q3, i8, i9, c1, c2, eq_self, Option.bind_some, Bool.cond_decide, am_oI_some, am_oV_some, am_oI_ite, am_oV_ite, am_bind_ite, Int.toNat_natCast, Int.toNat_zero, Int.reduceToNat, ite_true, ite_false, not_true_eq_false, not_false_eq_true, decide_true, decide_false, decide_eq_true_eq, Bool.false_eq_true, Nat.add_zero, am_rok1_0, am_rok1_1, cond_true, cond_false, am_w_nat1, true_or, or_true, false_or, or_false, true_and, and_true, false_and, and_false, Int.reduceEq, Int.reduceNeg, Int.reduceLT, Int.reduceLE, or_self, and_self]
theorem lw_11 (g1 : x + 107 ≤ mo) (g2 : mo + 15 ≤ o) (g3 : o < lo) (ht : t < 512) (hi : i + 7 ≤ L.1) (hL : L.1 ≤ 3584) (st : ST x mo o lo c0 L t H) (y5 y6 : am_V) : ∃ H2, am_run am_ms 304 666 [am_K 2, am_R x, am_R mo, am_R o, am_I i, y5, y6] [] H = am_run am_ms 304 1939 [am_K 2, am_R x, am_R mo, am_R o, am_I i, y5, y6] [] H2 ∧ ST x mo o lo c0 L (t + 1) H2 := by
  obtain ⟨v, H1, H2, c1, c2, st2, i8, i9, hL1, hL2⟩ := st_call g1 g2 g3 156 157 [am_I (L.2 (i + 1))] st (fun N P K T S M m A HD h n g w hs hn => cl_of_lk w hs (by omega) (lk_stream w (L.2 (i + 1))))
  refine ⟨H2, ?_, st2⟩
  have hb : Nat.beq 2 1 = false := rfl
  have r1 := rk_L (H := H) hL1 (j := i + 1) (by omega)
  have q1 := rk_L (H := H1) hL2 (j := i + 1) (by omega)
  have hi1 : i < 100000 := by omega
  have e1 : am_w ((i : Int) + 1) = ((i + 1 : Nat) : Int) := w_ik hi1 1 (by decide)
  rw [bk_304_666]
  simp only [bk_304_686, hb, e1, r1, q1, i8, i9, c1, c2, eq_self, Option.bind_some, Bool.cond_decide, am_oI_some, am_oV_some, am_oI_ite, am_oV_ite, am_bind_ite, Int.toNat_natCast, Int.toNat_zero, Int.reduceToNat, ite_true, ite_false, not_true_eq_false, not_false_eq_true, decide_true, decide_false, decide_eq_true_eq, Bool.false_eq_true, Nat.add_zero, am_rok1_0, am_rok1_1, cond_true, cond_false, am_w_nat1, true_or, or_true, false_or, or_false, true_and, and_true, false_and, and_false, Int.reduceEq, Int.reduceNeg, Int.reduceLT, Int.reduceLE, or_self, and_self]
theorem lw_12 (g1 : x + 107 ≤ mo) (g2 : mo + 15 ≤ o) (g3 : o < lo) (ht : t < 512) (hi : i + 7 ≤ L.1) (hL : L.1 ≤ 3584) (st : ST x mo o lo c0 L t H) (y5 y6 : am_V) : ∃ H2, am_run am_ms 304 691 [am_K 2, am_R x, am_R mo, am_R o, am_I i, y5, y6] [] H = am_run am_ms 304 1939 [am_K 2, am_R x, am_R mo, am_R o, am_I i, y5, y6] [] H2 ∧ ST x mo o lo c0 L (t + 1) H2 := by
  obtain ⟨v, H1, H2, c1, c2, st2, i8, i9, hL1, hL2⟩ := st_call g1 g2 g3 162 173 [am_I (L.2 (i + 1)), am_I (L.2 (i + 2))] st (fun N P K T S M m A HD h n g w hs hn => CL_mono (cl_put (by omega) w hs (by omega) (L.2 (i + 1)) (L.2 (i + 2))) (by omega))
  refine ⟨H2, ?_, st2⟩
  have hb : Nat.beq 2 1 = false := rfl
  have r1 := rk_L (H := H) hL1 (j := i + 1) (by omega)
  have q1 := rk_L (H := H1) hL2 (j := i + 1) (by omega)
  have r2 := rk_L (H := H) hL1 (j := i + 2) (by omega)
  have q2 := rk_L (H := H1) hL2 (j := i + 2) (by omega)
  have hi1 : i < 100000 := by omega
  have e1 : am_w ((i : Int) + 1) = ((i + 1 : Nat) : Int) := w_ik hi1 1 (by decide)
  have e2 : am_w ((i : Int) + 2) = ((i + 2 : Nat) : Int) := w_ik hi1 2 (by decide)
  rw [bk_304_691]
  simp only [bk_304_709, hb, e1, e2, r1, q1, r2, q2, i8, i9, c1, c2, eq_self, Option.bind_some, Bool.cond_decide, am_oI_some, am_oV_some, am_oI_ite, am_oV_ite, am_bind_ite, Int.toNat_natCast, Int.toNat_zero, Int.reduceToNat, ite_true, ite_false, not_true_eq_false, not_false_eq_true, decide_true, decide_false, decide_eq_true_eq, Bool.false_eq_true, Nat.add_zero, am_rok1_0, am_rok1_1, cond_true, cond_false, am_w_nat1, true_or, or_true, false_or, or_false, true_and, and_true, false_and, and_false, Int.reduceEq, Int.reduceNeg, Int.reduceLT, Int.reduceLE, or_self, and_self]
theorem lw_13 (g1 : x + 107 ≤ mo) (g2 : mo + 15 ≤ o) (g3 : o < lo) (ht : t < 512) (hi : i + 7 ≤ L.1) (hL : L.1 ≤ 3584) (st : ST x mo o lo c0 L t H) (y5 y6 : am_V) : ∃ H2, am_run am_ms 304 728 [am_K 2, am_R x, am_R mo, am_R o, am_I i, y5, y6] [] H = am_run am_ms 304 1939 [am_K 2, am_R x, am_R mo, am_R o, am_I i, y5, y6] [] H2 ∧ ST x mo o lo c0 L (t + 1) H2 := by
  obtain ⟨v, H1, H2, c1, c2, st2, i8, i9, hL1, hL2⟩ := st_call g1 g2 g3 174 175 [am_I (L.2 (i + 1))] st (fun N P K T S M m A HD h n g w hs hn => CL_mono (cl_delete (by omega) w hs (by omega) (L.2 (i + 1))) (by omega))
  refine ⟨H2, ?_, st2⟩
  have hb : Nat.beq 2 1 = false := rfl
  have r1 := rk_L (H := H) hL1 (j := i + 1) (by omega)
  have q1 := rk_L (H := H1) hL2 (j := i + 1) (by omega)
  have hi1 : i < 100000 := by omega
  have e1 : am_w ((i : Int) + 1) = ((i + 1 : Nat) : Int) := w_ik hi1 1 (by decide)
  rw [bk_304_728]
  simp only [bk_304_748, hb, e1, r1, q1, i8, i9, c1, c2, eq_self, Option.bind_some, Bool.cond_decide, am_oI_some, am_oV_some, am_oI_ite, am_oV_ite, am_bind_ite, Int.toNat_natCast, Int.toNat_zero, Int.reduceToNat, ite_true, ite_false, not_true_eq_false, not_false_eq_true, decide_true, decide_false, decide_eq_true_eq, Bool.false_eq_true, Nat.add_zero, am_rok1_0, am_rok1_1, cond_true, cond_false, am_w_nat1, true_or, or_true, false_or, or_false, true_and, and_true, false_and, and_false, Int.reduceEq, Int.reduceNeg, Int.reduceLT, Int.reduceLE, or_self, and_self]
theorem lw_14 (g1 : x + 107 ≤ mo) (g2 : mo + 15 ≤ o) (g3 : o < lo) (ht : t < 512) (hi : i + 7 ≤ L.1) (hL : L.1 ≤ 3584) (st : ST x mo o lo c0 L t H) (y5 y6 : am_V) : ∃ H2, am_run am_ms 304 753 [am_K 2, am_R x, am_R mo, am_R o, am_I i, y5, y6] [] H = am_run am_ms 304 1939 [am_K 2, am_R x, am_R mo, am_R o, am_I i, y5, y6] [] H2 ∧ ST x mo o lo c0 L (t + 1) H2 := by
  obtain ⟨v, H1, H2, c1, c2, st2, i8, i9, hL1, hL2⟩ := st_call g1 g2 g3 177 178 [] st (fun N P K T S M m A HD h n g w hs hn => CL_mono (cl_clean (by omega) w hs (by omega)) (by omega))
  refine ⟨H2, ?_, st2⟩
  have hb : Nat.beq 2 1 = false := rfl
  rw [bk_304_753]
  simp only [hb, i8, i9, c1, c2, eq_self, Option.bind_some, Bool.cond_decide, am_oI_some, am_oV_some, am_oI_ite, am_oV_ite, am_bind_ite, Int.toNat_natCast, Int.toNat_zero, Int.reduceToNat, ite_true, ite_false, not_true_eq_false, not_false_eq_true, decide_true, decide_false, decide_eq_true_eq, Bool.false_eq_true, Nat.add_zero, am_rok1_0, am_rok1_1, cond_true, cond_false, am_w_nat1, true_or, or_true, false_or, or_false, true_and, and_true, false_and, and_false, Int.reduceEq, Int.reduceNeg, Int.reduceLT, Int.reduceLE, or_self, and_self]
theorem lw_15 (g1 : x + 107 ≤ mo) (g2 : mo + 15 ≤ o) (g3 : o < lo) (ht : t < 512) (hi : i + 7 ≤ L.1) (hL : L.1 ≤ 3584) (st : ST x mo o lo c0 L t H) (y5 y6 : am_V) : ∃ H2, am_run am_ms 304 766 [am_K 2, am_R x, am_R mo, am_R o, am_I i, y5, y6] [] H = am_run am_ms 304 1939 [am_K 2, am_R x, am_R mo, am_R o, am_I i, y5, y6] [] H2 ∧ ST x mo o lo c0 L (t + 1) H2 := by
  obtain ⟨v, H1, H2, c1, c2, st2, i8, i9, hL1, hL2⟩ := st_call g1 g2 g3 183 184 [] st (fun N P K T S M m A HD h n g w hs hn => CL_mono (cl_crash (by omega) w hs (by omega)) (by omega))
  refine ⟨H2, ?_, st2⟩
  have hb : Nat.beq 2 1 = false := rfl
  rw [bk_304_766]
  simp only [hb, i8, i9, c1, c2, eq_self, Option.bind_some, Bool.cond_decide, am_oI_some, am_oV_some, am_oI_ite, am_oV_ite, am_bind_ite, Int.toNat_natCast, Int.toNat_zero, Int.reduceToNat, ite_true, ite_false, not_true_eq_false, not_false_eq_true, decide_true, decide_false, decide_eq_true_eq, Bool.false_eq_true, Nat.add_zero, am_rok1_0, am_rok1_1, cond_true, cond_false, am_w_nat1, true_or, or_true, false_or, or_false, true_and, and_true, false_and, and_false, Int.reduceEq, Int.reduceNeg, Int.reduceLT, Int.reduceLE, or_self, and_self]
theorem lw_16 (g1 : x + 107 ≤ mo) (g2 : mo + 15 ≤ o) (g3 : o < lo) (ht : t < 512) (hi : i + 7 ≤ L.1) (hL : L.1 ≤ 3584) (st : ST x mo o lo c0 L t H) (y5 y6 : am_V) : ∃ H2, am_run am_ms 304 779 [am_K 2, am_R x, am_R mo, am_R o, am_I i, y5, y6] [] H = am_run am_ms 304 1939 [am_K 2, am_R x, am_R mo, am_R o, am_I i, y5, y6] [] H2 ∧ ST x mo o lo c0 L (t + 1) H2 := by
  obtain ⟨v, H1, H2, c1, c2, st2, i8, i9, hL1, hL2⟩ := st_call g1 g2 g3 186 187 [am_I (L.2 (i + 1))] st (fun N P K T S M m A HD h n g w hs hn => CL_mono (cl_open (by omega) w hs (by omega) (L.2 (i + 1))) (by omega))
  refine ⟨H2, ?_, st2⟩
  have hb : Nat.beq 2 1 = false := rfl
  have r1 := rk_L (H := H) hL1 (j := i + 1) (by omega)
  have q1 := rk_L (H := H1) hL2 (j := i + 1) (by omega)
  have hi1 : i < 100000 := by omega
  have e1 : am_w ((i : Int) + 1) = ((i + 1 : Nat) : Int) := w_ik hi1 1 (by decide)
  rw [bk_304_779]
  simp only [bk_304_799, hb, e1, r1, q1, i8, i9, c1, c2, eq_self, Option.bind_some, Bool.cond_decide, am_oI_some, am_oV_some, am_oI_ite, am_oV_ite, am_bind_ite, Int.toNat_natCast, Int.toNat_zero, Int.reduceToNat, ite_true, ite_false, not_true_eq_false, not_false_eq_true, decide_true, decide_false, decide_eq_true_eq, Bool.false_eq_true, Nat.add_zero, am_rok1_0, am_rok1_1, cond_true, cond_false, am_w_nat1, true_or, or_true, false_or, or_false, true_and, and_true, false_and, and_false, Int.reduceEq, Int.reduceNeg, Int.reduceLT, Int.reduceLE, or_self, and_self]
theorem lw_17 (g1 : x + 107 ≤ mo) (g2 : mo + 15 ≤ o) (g3 : o < lo) (ht : t < 512) (hi : i + 7 ≤ L.1) (hL : L.1 ≤ 3584) (st : ST x mo o lo c0 L t H) (y5 y6 : am_V) : ∃ H2, am_run am_ms 304 804 [am_K 2, am_R x, am_R mo, am_R o, am_I i, y5, y6] [] H = am_run am_ms 304 1939 [am_K 2, am_R x, am_R mo, am_R o, am_I i, y5, y6] [] H2 ∧ ST x mo o lo c0 L (t + 1) H2 := by
  obtain ⟨v, H1, H2, c1, c2, st2, i8, i9, hL1, hL2⟩ := st_call g1 g2 g3 189 190 [am_I (L.2 (i + 1))] st (fun N P K T S M m A HD h n g w hs hn => CL_mono (cl_close (by omega) w hs (by omega) (L.2 (i + 1))) (by omega))
  refine ⟨H2, ?_, st2⟩
  have hb : Nat.beq 2 1 = false := rfl
  have r1 := rk_L (H := H) hL1 (j := i + 1) (by omega)
  have q1 := rk_L (H := H1) hL2 (j := i + 1) (by omega)
  have hi1 : i < 100000 := by omega
  have e1 : am_w ((i : Int) + 1) = ((i + 1 : Nat) : Int) := w_ik hi1 1 (by decide)
  rw [bk_304_804]
  simp only [bk_304_824, hb, e1, r1, q1, i8, i9, c1, c2, eq_self, Option.bind_some, Bool.cond_decide, am_oI_some, am_oV_some, am_oI_ite, am_oV_ite, am_bind_ite, Int.toNat_natCast, Int.toNat_zero, Int.reduceToNat, ite_true, ite_false, not_true_eq_false, not_false_eq_true, decide_true, decide_false, decide_eq_true_eq, Bool.false_eq_true, Nat.add_zero, am_rok1_0, am_rok1_1, cond_true, cond_false, am_w_nat1, true_or, or_true, false_or, or_false, true_and, and_true, false_and, and_false, Int.reduceEq, Int.reduceNeg, Int.reduceLT, Int.reduceLE, or_self, and_self]
theorem lw_18 (g1 : x + 107 ≤ mo) (g2 : mo + 15 ≤ o) (g3 : o < lo) (ht : t < 512) (hi : i + 7 ≤ L.1) (hL : L.1 ≤ 3584) (st : ST x mo o lo c0 L t H) (y5 y6 : am_V) : ∃ H2, am_run am_ms 304 829 [am_K 2, am_R x, am_R mo, am_R o, am_I i, y5, y6] [] H = am_run am_ms 304 1939 [am_K 2, am_R x, am_R mo, am_R o, am_I i, y5, y6] [] H2 ∧ ST x mo o lo c0 L (t + 1) H2 := by
  obtain ⟨v, H1, H2, c1, c2, st2, i8, i9, hL1, hL2⟩ := st_call g1 g2 g3 192 193 [am_I (L.2 (i + 1))] st (fun N P K T S M m A HD h n g w hs hn => CL_mono (cl_finish (by omega) w hs (by omega) (L.2 (i + 1))) (by omega))
  refine ⟨H2, ?_, st2⟩
  have hb : Nat.beq 2 1 = false := rfl
  have r1 := rk_L (H := H) hL1 (j := i + 1) (by omega)
  have q1 := rk_L (H := H1) hL2 (j := i + 1) (by omega)
  have hi1 : i < 100000 := by omega
  have e1 : am_w ((i : Int) + 1) = ((i + 1 : Nat) : Int) := w_ik hi1 1 (by decide)
  rw [bk_304_829]
  simp only [bk_304_849, hb, e1, r1, q1, i8, i9, c1, c2, eq_self, Option.bind_some, Bool.cond_decide, am_oI_some, am_oV_some, am_oI_ite, am_oV_ite, am_bind_ite, Int.toNat_natCast, Int.toNat_zero, Int.reduceToNat, ite_true, ite_false, not_true_eq_false, not_false_eq_true, decide_true, decide_false, decide_eq_true_eq, Bool.false_eq_true, Nat.add_zero, am_rok1_0, am_rok1_1, cond_true, cond_false, am_w_nat1, true_or, or_true, false_or, or_false, true_and, and_true, false_and, and_false, Int.reduceEq, Int.reduceNeg, Int.reduceLT, Int.reduceLE, or_self, and_self]
theorem lw_19 (g1 : x + 107 ≤ mo) (g2 : mo + 15 ≤ o) (g3 : o < lo) (ht : t < 512) (hi : i + 7 ≤ L.1) (hL : L.1 ≤ 3584) (st : ST x mo o lo c0 L t H) (y5 y6 : am_V) : ∃ H2, am_run am_ms 304 854 [am_K 2, am_R x, am_R mo, am_R o, am_I i, y5, y6] [] H = am_run am_ms 304 1939 [am_K 2, am_R x, am_R mo, am_R o, am_I i, y5, y6] [] H2 ∧ ST x mo o lo c0 L (t + 1) H2 := by
  obtain ⟨v, H1, H2, c1, c2, st2, i8, i9, hL1, hL2⟩ := st_call g1 g2 g3 195 196 [am_I (L.2 (i + 1))] st (fun N P K T S M m A HD h n g w hs hn => CL_mono (cl_reset (by omega) w hs (by omega) (L.2 (i + 1))) (by omega))
  refine ⟨H2, ?_, st2⟩
  have hb : Nat.beq 2 1 = false := rfl
  have r1 := rk_L (H := H) hL1 (j := i + 1) (by omega)
  have q1 := rk_L (H := H1) hL2 (j := i + 1) (by omega)
  have hi1 : i < 100000 := by omega
  have e1 : am_w ((i : Int) + 1) = ((i + 1 : Nat) : Int) := w_ik hi1 1 (by decide)
  rw [bk_304_854]
  simp only [bk_304_874, hb, e1, r1, q1, i8, i9, c1, c2, eq_self, Option.bind_some, Bool.cond_decide, am_oI_some, am_oV_some, am_oI_ite, am_oV_ite, am_bind_ite, Int.toNat_natCast, Int.toNat_zero, Int.reduceToNat, ite_true, ite_false, not_true_eq_false, not_false_eq_true, decide_true, decide_false, decide_eq_true_eq, Bool.false_eq_true, Nat.add_zero, am_rok1_0, am_rok1_1, cond_true, cond_false, am_w_nat1, true_or, or_true, false_or, or_false, true_and, and_true, false_and, and_false, Int.reduceEq, Int.reduceNeg, Int.reduceLT, Int.reduceLE, or_self, and_self]
theorem lw_20 (g1 : x + 107 ≤ mo) (g2 : mo + 15 ≤ o) (g3 : o < lo) (ht : t < 512) (hi : i + 7 ≤ L.1) (hL : L.1 ≤ 3584) (st : ST x mo o lo c0 L t H) (y5 y6 : am_V) : ∃ H2, am_run am_ms 304 879 [am_K 2, am_R x, am_R mo, am_R o, am_I i, y5, y6] [] H = am_run am_ms 304 1939 [am_K 2, am_R x, am_R mo, am_R o, am_I i, y5, y6] [] H2 ∧ ST x mo o lo c0 L (t + 1) H2 := by
  obtain ⟨v, H1, H2, c1, c2, st2, i8, i9, hL1, hL2⟩ := st_call g1 g2 g3 199 200 [am_I (L.2 (i + 1))] st (fun N P K T S M m A HD h n g w hs hn => CL_mono (cl_policy (by omega) w hs (by omega) (L.2 (i + 1))) (by omega))
  refine ⟨H2, ?_, st2⟩
  have hb : Nat.beq 2 1 = false := rfl
  have r1 := rk_L (H := H) hL1 (j := i + 1) (by omega)
  have q1 := rk_L (H := H1) hL2 (j := i + 1) (by omega)
  have hi1 : i < 100000 := by omega
  have e1 : am_w ((i : Int) + 1) = ((i + 1 : Nat) : Int) := w_ik hi1 1 (by decide)
  rw [bk_304_879]
  simp only [bk_304_899, hb, e1, r1, q1, i8, i9, c1, c2, eq_self, Option.bind_some, Bool.cond_decide, am_oI_some, am_oV_some, am_oI_ite, am_oV_ite, am_bind_ite, Int.toNat_natCast, Int.toNat_zero, Int.reduceToNat, ite_true, ite_false, not_true_eq_false, not_false_eq_true, decide_true, decide_false, decide_eq_true_eq, Bool.false_eq_true, Nat.add_zero, am_rok1_0, am_rok1_1, cond_true, cond_false, am_w_nat1, true_or, or_true, false_or, or_false, true_and, and_true, false_and, and_false, Int.reduceEq, Int.reduceNeg, Int.reduceLT, Int.reduceLE, or_self, and_self]
theorem lw_21 (g1 : x + 107 ≤ mo) (g2 : mo + 15 ≤ o) (g3 : o < lo) (ht : t < 512) (hi : i + 7 ≤ L.1) (hL : L.1 ≤ 3584) (st : ST x mo o lo c0 L t H) (y5 y6 : am_V) : ∃ H2, am_run am_ms 304 904 [am_K 2, am_R x, am_R mo, am_R o, am_I i, y5, y6] [] H = am_run am_ms 304 1939 [am_K 2, am_R x, am_R mo, am_R o, am_I i, y5, y6] [] H2 ∧ ST x mo o lo c0 L (t + 1) H2 := by
  obtain ⟨v, H1, H2, c1, c2, st2, i8, i9, hL1, hL2⟩ := st_call g1 g2 g3 203 206 [am_I (L.2 (i + 1)), am_L (am_lor (am_lshl (L.2 (i + 2)) 32) (am_land (L.2 (i + 3)) 4294967295))] st (fun N P K T S M m A HD h n g w hs hn => CL_mono (cl_years (by omega) w hs (by omega) (L.2 (i + 1)) (am_lor (am_lshl (L.2 (i + 2)) 32) (am_land (L.2 (i + 3)) 4294967295))) (by omega))
  refine ⟨H2, ?_, st2⟩
  have hb : Nat.beq 2 1 = false := rfl
  have r1 := rk_L (H := H) hL1 (j := i + 1) (by omega)
  have q1 := rk_L (H := H1) hL2 (j := i + 1) (by omega)
  have r2 := rk_L (H := H) hL1 (j := i + 2) (by omega)
  have q2 := rk_L (H := H1) hL2 (j := i + 2) (by omega)
  have r3 := rk_L (H := H) hL1 (j := i + 3) (by omega)
  have q3 := rk_L (H := H1) hL2 (j := i + 3) (by omega)
  have hi1 : i < 100000 := by omega
  have e1 : am_w ((i : Int) + 1) = ((i + 1 : Nat) : Int) := w_ik hi1 1 (by decide)
  have e2 : am_w ((i : Int) + 2) = ((i + 2 : Nat) : Int) := w_ik hi1 2 (by decide)
  have e3 : am_w ((i : Int) + 3) = ((i + 3 : Nat) : Int) := w_ik hi1 3 (by decide)
  rw [bk_304_904]
  simp only [bk_304_921, bk_304_941, bk_304_958, hb, e1, e2, e3, r1, q1, r2, q2, r3, q3, i8, i9, c1, c2, eq_self, Option.bind_some, Bool.cond_decide, am_oI_some, am_oV_some, am_oI_ite, am_oV_ite, am_bind_ite, Int.toNat_natCast, Int.toNat_zero, Int.reduceToNat, ite_true, ite_false, not_true_eq_false, not_false_eq_true, decide_true, decide_false, decide_eq_true_eq, Bool.false_eq_true, Nat.add_zero, am_rok1_0, am_rok1_1, cond_true, cond_false, am_w_nat1, true_or, or_true, false_or, or_false, true_and, and_true, false_and, and_false, Int.reduceEq, Int.reduceNeg, Int.reduceLT, Int.reduceLE, or_self, and_self]
theorem lw_22 (g1 : x + 107 ≤ mo) (g2 : mo + 15 ≤ o) (g3 : o < lo) (ht : t < 512) (hi : i + 7 ≤ L.1) (hL : L.1 ≤ 3584) (st : ST x mo o lo c0 L t H) (y5 y6 : am_V) : ∃ H2, am_run am_ms 304 973 [am_K 2, am_R x, am_R mo, am_R o, am_I i, y5, y6] [] H = am_run am_ms 304 1939 [am_K 2, am_R x, am_R mo, am_R o, am_I i, y5, y6] [] H2 ∧ ST x mo o lo c0 L (t + 1) H2 := by
  obtain ⟨v, H1, H2, c1, c2, st2, i8, i9, hL1, hL2⟩ := st_call g1 g2 g3 207 208 [am_I (L.2 (i + 1))] st (fun N P K T S M m A HD h n g w hs hn => cl_of_lk w hs (by omega) (lk_status w (L.2 (i + 1))))
  refine ⟨H2, ?_, st2⟩
  have hb : Nat.beq 2 1 = false := rfl
  have r1 := rk_L (H := H) hL1 (j := i + 1) (by omega)
  have q1 := rk_L (H := H1) hL2 (j := i + 1) (by omega)
  have hi1 : i < 100000 := by omega
  have e1 : am_w ((i : Int) + 1) = ((i + 1 : Nat) : Int) := w_ik hi1 1 (by decide)
  rw [bk_304_973]
  simp only [bk_304_993, hb, e1, r1, q1, i8, i9, c1, c2, eq_self, Option.bind_some, Bool.cond_decide, am_oI_some, am_oV_some, am_oI_ite, am_oV_ite, am_bind_ite, Int.toNat_natCast, Int.toNat_zero, Int.reduceToNat, ite_true, ite_false, not_true_eq_false, not_false_eq_true, decide_true, decide_false, decide_eq_true_eq, Bool.false_eq_true, Nat.add_zero, am_rok1_0, am_rok1_1, cond_true, cond_false, am_w_nat1, true_or, or_true, false_or, or_false, true_and, and_true, false_and, and_false, Int.reduceEq, Int.reduceNeg, Int.reduceLT, Int.reduceLE, or_self, and_self]
theorem lw_23 (g1 : x + 107 ≤ mo) (g2 : mo + 15 ≤ o) (g3 : o < lo) (ht : t < 512) (hi : i + 7 ≤ L.1) (hL : L.1 ≤ 3584) (st : ST x mo o lo c0 L t H) (y5 y6 : am_V) : ∃ H2, am_run am_ms 304 998 [am_K 2, am_R x, am_R mo, am_R o, am_I i, y5, y6] [] H = am_run am_ms 304 1939 [am_K 2, am_R x, am_R mo, am_R o, am_I i, y5, y6] [] H2 ∧ ST x mo o lo c0 L (t + 1) H2 := by
  obtain ⟨v, H1, H2, c1, c2, st2, i8, i9, hL1, hL2⟩ := st_call g1 g2 g3 210 211 [] st (fun N P K T S M m A HD h n g w hs hn => CL_mono (cl_undo (by omega) w hs) (by omega))
  refine ⟨H2, ?_, st2⟩
  have hb : Nat.beq 2 1 = false := rfl
  rw [bk_304_998]
  simp only [hb, i8, i9, c1, c2, eq_self, Option.bind_some, Bool.cond_decide, am_oI_some, am_oV_some, am_oI_ite, am_oV_ite, am_bind_ite, Int.toNat_natCast, Int.toNat_zero, Int.reduceToNat, ite_true, ite_false, not_true_eq_false, not_false_eq_true, decide_true, decide_false, decide_eq_true_eq, Bool.false_eq_true, Nat.add_zero, am_rok1_0, am_rok1_1, cond_true, cond_false, am_w_nat1, true_or, or_true, false_or, or_false, true_and, and_true, false_and, and_false, Int.reduceEq, Int.reduceNeg, Int.reduceLT, Int.reduceLE, or_self, and_self]
theorem lw_24 (g1 : x + 107 ≤ mo) (g2 : mo + 15 ≤ o) (g3 : o < lo) (ht : t < 512) (hi : i + 7 ≤ L.1) (hL : L.1 ≤ 3584) (st : ST x mo o lo c0 L t H) (y5 y6 : am_V) : ∃ H2, am_run am_ms 304 1011 [am_K 2, am_R x, am_R mo, am_R o, am_I i, y5, y6] [] H = am_run am_ms 304 1939 [am_K 2, am_R x, am_R mo, am_R o, am_I i, y5, y6] [] H2 ∧ ST x mo o lo c0 L (t + 1) H2 := by
  obtain ⟨v, H1, H2, c1, c2, st2, i8, i9, hL1, hL2⟩ := st_call g1 g2 g3 213 214 [am_I (L.2 (i + 1)), am_I (L.2 (i + 2))] st (fun N P K T S M m A HD h n g w hs hn => cl_of_lk w hs (by omega) (lk_log w (L.2 (i + 1)) (L.2 (i + 2))))
  refine ⟨H2, ?_, st2⟩
  have hb : Nat.beq 2 1 = false := rfl
  have r1 := rk_L (H := H) hL1 (j := i + 1) (by omega)
  have q1 := rk_L (H := H1) hL2 (j := i + 1) (by omega)
  have r2 := rk_L (H := H) hL1 (j := i + 2) (by omega)
  have q2 := rk_L (H := H1) hL2 (j := i + 2) (by omega)
  have hi1 : i < 100000 := by omega
  have e1 : am_w ((i : Int) + 1) = ((i + 1 : Nat) : Int) := w_ik hi1 1 (by decide)
  have e2 : am_w ((i : Int) + 2) = ((i + 2 : Nat) : Int) := w_ik hi1 2 (by decide)
  rw [bk_304_1011]
  simp only [bk_304_1029, hb, e1, e2, r1, q1, r2, q2, i8, i9, c1, c2, eq_self, Option.bind_some, Bool.cond_decide, am_oI_some, am_oV_some, am_oI_ite, am_oV_ite, am_bind_ite, Int.toNat_natCast, Int.toNat_zero, Int.reduceToNat, ite_true, ite_false, not_true_eq_false, not_false_eq_true, decide_true, decide_false, decide_eq_true_eq, Bool.false_eq_true, Nat.add_zero, am_rok1_0, am_rok1_1, cond_true, cond_false, am_w_nat1, true_or, or_true, false_or, or_false, true_and, and_true, false_and, and_false, Int.reduceEq, Int.reduceNeg, Int.reduceLT, Int.reduceLE, or_self, and_self]
theorem lw_25 (g1 : x + 107 ≤ mo) (g2 : mo + 15 ≤ o) (g3 : o < lo) (ht : t < 512) (hi : i + 7 ≤ L.1) (hL : L.1 ≤ 3584) (st : ST x mo o lo c0 L t H) (y5 y6 : am_V) : ∃ H2, am_run am_ms 304 1048 [am_K 2, am_R x, am_R mo, am_R o, am_I i, y5, y6] [] H = am_run am_ms 304 1939 [am_K 2, am_R x, am_R mo, am_R o, am_I i, y5, y6] [] H2 ∧ ST x mo o lo c0 L (t + 1) H2 := by
  obtain ⟨v, H1, H2, c1, c2, st2, i8, i9, hL1, hL2⟩ := st_call g1 g2 g3 217 219 [am_I (L.2 (i + 1)), am_I (L.2 (i + 2)), am_I (L.2 (i + 3))] st (fun N P K T S M m A HD h n g w hs hn => cl_of_lk w hs (by omega) (lk_step w (L.2 (i + 1)) (L.2 (i + 2)) (L.2 (i + 3))))
  refine ⟨H2, ?_, st2⟩
  have hb : Nat.beq 2 1 = false := rfl
  have r1 := rk_L (H := H) hL1 (j := i + 1) (by omega)
  have q1 := rk_L (H := H1) hL2 (j := i + 1) (by omega)
  have r2 := rk_L (H := H) hL1 (j := i + 2) (by omega)
  have q2 := rk_L (H := H1) hL2 (j := i + 2) (by omega)
  have r3 := rk_L (H := H) hL1 (j := i + 3) (by omega)
  have q3 := rk_L (H := H1) hL2 (j := i + 3) (by omega)
  have hi1 : i < 100000 := by omega
  have e1 : am_w ((i : Int) + 1) = ((i + 1 : Nat) : Int) := w_ik hi1 1 (by decide)
  have e2 : am_w ((i : Int) + 2) = ((i + 2 : Nat) : Int) := w_ik hi1 2 (by decide)
  have e3 : am_w ((i : Int) + 3) = ((i + 3 : Nat) : Int) := w_ik hi1 3 (by decide)
  rw [bk_304_1048]
  simp only [bk_304_1065, bk_304_1083, hb, e1, e2, e3, r1, q1, r2, q2, r3, q3, i8, i9, c1, c2, eq_self, Option.bind_some, Bool.cond_decide, am_oI_some, am_oV_some, am_oI_ite, am_oV_ite, am_bind_ite, Int.toNat_natCast, Int.toNat_zero, Int.reduceToNat, ite_true, ite_false, not_true_eq_false, not_false_eq_true, decide_true, decide_false, decide_eq_true_eq, Bool.false_eq_true, Nat.add_zero, am_rok1_0, am_rok1_1, cond_true, cond_false, am_w_nat1, true_or, or_true, false_or, or_false, true_and, and_true, false_and, and_false, Int.reduceEq, Int.reduceNeg, Int.reduceLT, Int.reduceLE, or_self, and_self]
theorem lw_26 (g1 : x + 107 ≤ mo) (g2 : mo + 15 ≤ o) (g3 : o < lo) (ht : t < 512) (hi : i + 7 ≤ L.1) (hL : L.1 ≤ 3584) (st : ST x mo o lo c0 L t H) (y5 y6 : am_V) : ∃ H2, am_run am_ms 304 1097 [am_K 2, am_R x, am_R mo, am_R o, am_I i, y5, y6] [] H = am_run am_ms 304 1939 [am_K 2, am_R x, am_R mo, am_R o, am_I i, y5, y6] [] H2 ∧ ST x mo o lo c0 L (t + 1) H2 := by
  obtain ⟨v, H1, H2, c1, c2, st2, i8, i9, hL1, hL2⟩ := st_call g1 g2 g3 222 224 [am_I (L.2 (i + 1)), am_I (L.2 (i + 2))] st (fun N P K T S M m A HD h n g w hs hn => CL_mono (cl_of_tk w hs (tk_run w (by omega) (L.2 (i + 1)) (L.2 (i + 2)))) (by omega))
  refine ⟨H2, ?_, st2⟩
  have hb : Nat.beq 2 1 = false := rfl
  have r1 := rk_L (H := H) hL1 (j := i + 1) (by omega)
  have q1 := rk_L (H := H1) hL2 (j := i + 1) (by omega)
  have r2 := rk_L (H := H) hL1 (j := i + 2) (by omega)
  have q2 := rk_L (H := H1) hL2 (j := i + 2) (by omega)
  have hi1 : i < 100000 := by omega
  have e1 : am_w ((i : Int) + 1) = ((i + 1 : Nat) : Int) := w_ik hi1 1 (by decide)
  have e2 : am_w ((i : Int) + 2) = ((i + 2 : Nat) : Int) := w_ik hi1 2 (by decide)
  rw [bk_304_1097]
  simp only [bk_304_1115, hb, e1, e2, r1, q1, r2, q2, i8, i9, c1, c2, eq_self, Option.bind_some, Bool.cond_decide, am_oI_some, am_oV_some, am_oI_ite, am_oV_ite, am_bind_ite, Int.toNat_natCast, Int.toNat_zero, Int.reduceToNat, ite_true, ite_false, not_true_eq_false, not_false_eq_true, decide_true, decide_false, decide_eq_true_eq, Bool.false_eq_true, Nat.add_zero, am_rok1_0, am_rok1_1, cond_true, cond_false, am_w_nat1, true_or, or_true, false_or, or_false, true_and, and_true, false_and, and_false, Int.reduceEq, Int.reduceNeg, Int.reduceLT, Int.reduceLE, or_self, and_self]
theorem lw_27 (g1 : x + 107 ≤ mo) (g2 : mo + 15 ≤ o) (g3 : o < lo) (ht : t < 512) (hi : i + 7 ≤ L.1) (hL : L.1 ≤ 3584) (st : ST x mo o lo c0 L t H) (y5 y6 : am_V) : ∃ H2, am_run am_ms 304 1134 [am_K 2, am_R x, am_R mo, am_R o, am_I i, y5, y6] [] H = am_run am_ms 304 1939 [am_K 2, am_R x, am_R mo, am_R o, am_I i, y5, y6] [] H2 ∧ ST x mo o lo c0 L (t + 1) H2 := by
  obtain ⟨v, H1, H2, c1, c2, st2, i8, i9, hL1, hL2⟩ := st_call g1 g2 g3 225 226 [am_I (L.2 (i + 1))] st (fun N P K T S M m A HD h n g w hs hn => CL_mono (cl_perform (by omega) w hs (by omega) (L.2 (i + 1))) (by omega))
  refine ⟨H2, ?_, st2⟩
  have hb : Nat.beq 2 1 = false := rfl
  have r1 := rk_L (H := H) hL1 (j := i + 1) (by omega)
  have q1 := rk_L (H := H1) hL2 (j := i + 1) (by omega)
  have hi1 : i < 100000 := by omega
  have e1 : am_w ((i : Int) + 1) = ((i + 1 : Nat) : Int) := w_ik hi1 1 (by decide)
  rw [bk_304_1134]
  simp only [bk_304_1154, hb, e1, r1, q1, i8, i9, c1, c2, eq_self, Option.bind_some, Bool.cond_decide, am_oI_some, am_oV_some, am_oI_ite, am_oV_ite, am_bind_ite, Int.toNat_natCast, Int.toNat_zero, Int.reduceToNat, ite_true, ite_false, not_true_eq_false, not_false_eq_true, decide_true, decide_false, decide_eq_true_eq, Bool.false_eq_true, Nat.add_zero, am_rok1_0, am_rok1_1, cond_true, cond_false, am_w_nat1, true_or, or_true, false_or, or_false, true_and, and_true, false_and, and_false, Int.reduceEq, Int.reduceNeg, Int.reduceLT, Int.reduceLE, or_self, and_self]
theorem lw_28 (g1 : x + 107 ≤ mo) (g2 : mo + 15 ≤ o) (g3 : o < lo) (ht : t < 512) (hi : i + 7 ≤ L.1) (hL : L.1 ≤ 3584) (st : ST x mo o lo c0 L t H) (y5 y6 : am_V) : ∃ H2, am_run am_ms 304 1159 [am_K 2, am_R x, am_R mo, am_R o, am_I i, y5, y6] [] H = am_run am_ms 304 1939 [am_K 2, am_R x, am_R mo, am_R o, am_I i, y5, y6] [] H2 ∧ ST x mo o lo c0 L (t + 1) H2 := by
  obtain ⟨v, H1, H2, c1, c2, st2, i8, i9, hL1, hL2⟩ := st_call g1 g2 g3 230 233 [am_I (L.2 (i + 1)), am_I (L.2 (i + 2))] st (fun N P K T S M m A HD h n g w hs hn => CL_mono (cl_of_tk w hs (tk_torn w (by omega) (L.2 (i + 1)) (L.2 (i + 2)))) (by omega))
  refine ⟨H2, ?_, st2⟩
  have hb : Nat.beq 2 1 = false := rfl
  have r1 := rk_L (H := H) hL1 (j := i + 1) (by omega)
  have q1 := rk_L (H := H1) hL2 (j := i + 1) (by omega)
  have r2 := rk_L (H := H) hL1 (j := i + 2) (by omega)
  have q2 := rk_L (H := H1) hL2 (j := i + 2) (by omega)
  have hi1 : i < 100000 := by omega
  have e1 : am_w ((i : Int) + 1) = ((i + 1 : Nat) : Int) := w_ik hi1 1 (by decide)
  have e2 : am_w ((i : Int) + 2) = ((i + 2 : Nat) : Int) := w_ik hi1 2 (by decide)
  rw [bk_304_1159]
  simp only [bk_304_1177, hb, e1, e2, r1, q1, r2, q2, i8, i9, c1, c2, eq_self, Option.bind_some, Bool.cond_decide, am_oI_some, am_oV_some, am_oI_ite, am_oV_ite, am_bind_ite, Int.toNat_natCast, Int.toNat_zero, Int.reduceToNat, ite_true, ite_false, not_true_eq_false, not_false_eq_true, decide_true, decide_false, decide_eq_true_eq, Bool.false_eq_true, Nat.add_zero, am_rok1_0, am_rok1_1, cond_true, cond_false, am_w_nat1, true_or, or_true, false_or, or_false, true_and, and_true, false_and, and_false, Int.reduceEq, Int.reduceNeg, Int.reduceLT, Int.reduceLE, or_self, and_self]
theorem lw_29 (g1 : x + 107 ≤ mo) (g2 : mo + 15 ≤ o) (g3 : o < lo) (ht : t < 512) (hi : i + 7 ≤ L.1) (hL : L.1 ≤ 3584) (st : ST x mo o lo c0 L t H) (y5 y6 : am_V) : ∃ H2, am_run am_ms 304 1196 [am_K 2, am_R x, am_R mo, am_R o, am_I i, y5, y6] [] H = am_run am_ms 304 1939 [am_K 2, am_R x, am_R mo, am_R o, am_I i, y5, y6] [] H2 ∧ ST x mo o lo c0 L (t + 1) H2 := by
  obtain ⟨v, H1, H2, c1, c2, st2, i8, i9, hL1, hL2⟩ := st_call g1 g2 g3 236 237 [am_I (L.2 (i + 1)), am_I (L.2 (i + 2))] st (fun N P K T S M m A HD h n g w hs hn => cl_of_lk w hs (by omega) (lk_order w (L.2 (i + 1)) (L.2 (i + 2))))
  refine ⟨H2, ?_, st2⟩
  have hb : Nat.beq 2 1 = false := rfl
  have r1 := rk_L (H := H) hL1 (j := i + 1) (by omega)
  have q1 := rk_L (H := H1) hL2 (j := i + 1) (by omega)
  have r2 := rk_L (H := H) hL1 (j := i + 2) (by omega)
  have q2 := rk_L (H := H1) hL2 (j := i + 2) (by omega)
  have hi1 : i < 100000 := by omega
  have e1 : am_w ((i : Int) + 1) = ((i + 1 : Nat) : Int) := w_ik hi1 1 (by decide)
  have e2 : am_w ((i : Int) + 2) = ((i + 2 : Nat) : Int) := w_ik hi1 2 (by decide)
  rw [bk_304_1196]
  simp only [bk_304_1214, hb, e1, e2, r1, q1, r2, q2, i8, i9, c1, c2, eq_self, Option.bind_some, Bool.cond_decide, am_oI_some, am_oV_some, am_oI_ite, am_oV_ite, am_bind_ite, Int.toNat_natCast, Int.toNat_zero, Int.reduceToNat, ite_true, ite_false, not_true_eq_false, not_false_eq_true, decide_true, decide_false, decide_eq_true_eq, Bool.false_eq_true, Nat.add_zero, am_rok1_0, am_rok1_1, cond_true, cond_false, am_w_nat1, true_or, or_true, false_or, or_false, true_and, and_true, false_and, and_false, Int.reduceEq, Int.reduceNeg, Int.reduceLT, Int.reduceLE, or_self, and_self]
theorem lw_30 (g1 : x + 107 ≤ mo) (g2 : mo + 15 ≤ o) (g3 : o < lo) (ht : t < 512) (hi : i + 7 ≤ L.1) (hL : L.1 ≤ 3584) (st : ST x mo o lo c0 L t H) (y5 y6 : am_V) : ∃ H2, am_run am_ms 304 1233 [am_K 2, am_R x, am_R mo, am_R o, am_I i, y5, y6] [] H = am_run am_ms 304 1939 [am_K 2, am_R x, am_R mo, am_R o, am_I i, y5, y6] [] H2 ∧ ST x mo o lo c0 L (t + 1) H2 := by
  obtain ⟨v, H1, H2, c1, c2, st2, i8, i9, hL1, hL2⟩ := st_call g1 g2 g3 238 239 [am_I (L.2 (i + 1)), am_I (L.2 (i + 2))] st (fun N P K T S M m A HD h n g w hs hn => cl_of_lk w hs (by omega) (lk_score w (L.2 (i + 1)) (L.2 (i + 2))))
  refine ⟨H2, ?_, st2⟩
  have hb : Nat.beq 2 1 = false := rfl
  have r1 := rk_L (H := H) hL1 (j := i + 1) (by omega)
  have q1 := rk_L (H := H1) hL2 (j := i + 1) (by omega)
  have r2 := rk_L (H := H) hL1 (j := i + 2) (by omega)
  have q2 := rk_L (H := H1) hL2 (j := i + 2) (by omega)
  have hi1 : i < 100000 := by omega
  have e1 : am_w ((i : Int) + 1) = ((i + 1 : Nat) : Int) := w_ik hi1 1 (by decide)
  have e2 : am_w ((i : Int) + 2) = ((i + 2 : Nat) : Int) := w_ik hi1 2 (by decide)
  rw [bk_304_1233]
  simp only [bk_304_1251, hb, e1, e2, r1, q1, r2, q2, i8, i9, c1, c2, eq_self, Option.bind_some, Bool.cond_decide, am_oI_some, am_oV_some, am_oI_ite, am_oV_ite, am_bind_ite, Int.toNat_natCast, Int.toNat_zero, Int.reduceToNat, ite_true, ite_false, not_true_eq_false, not_false_eq_true, decide_true, decide_false, decide_eq_true_eq, Bool.false_eq_true, Nat.add_zero, am_rok1_0, am_rok1_1, cond_true, cond_false, am_w_nat1, true_or, or_true, false_or, or_false, true_and, and_true, false_and, and_false, Int.reduceEq, Int.reduceNeg, Int.reduceLT, Int.reduceLE, or_self, and_self]
theorem lw_31 (g1 : x + 107 ≤ mo) (g2 : mo + 15 ≤ o) (g3 : o < lo) (ht : t < 512) (hi : i + 7 ≤ L.1) (hL : L.1 ≤ 3584) (st : ST x mo o lo c0 L t H) (y5 y6 : am_V) : ∃ H2, am_run am_ms 304 1270 [am_K 2, am_R x, am_R mo, am_R o, am_I i, y5, y6] [] H = am_run am_ms 304 1939 [am_K 2, am_R x, am_R mo, am_R o, am_I i, y5, y6] [] H2 ∧ ST x mo o lo c0 L (t + 1) H2 := by
  obtain ⟨v, H1, H2, c1, c2, st2, i8, i9, hL1, hL2⟩ := st_call g1 g2 g3 240 241 [am_I (L.2 (i + 1))] st (fun N P K T S M m A HD h n g w hs hn => CL_mono (cl_of_tk w hs (tk_cost w (by omega) (L.2 (i + 1)))) (by omega))
  refine ⟨H2, ?_, st2⟩
  have hb : Nat.beq 2 1 = false := rfl
  have r1 := rk_L (H := H) hL1 (j := i + 1) (by omega)
  have q1 := rk_L (H := H1) hL2 (j := i + 1) (by omega)
  have hi1 : i < 100000 := by omega
  have e1 : am_w ((i : Int) + 1) = ((i + 1 : Nat) : Int) := w_ik hi1 1 (by decide)
  rw [bk_304_1270]
  simp only [bk_304_1290, hb, e1, r1, q1, i8, i9, c1, c2, eq_self, Option.bind_some, Bool.cond_decide, am_oI_some, am_oV_some, am_oI_ite, am_oV_ite, am_bind_ite, Int.toNat_natCast, Int.toNat_zero, Int.reduceToNat, ite_true, ite_false, not_true_eq_false, not_false_eq_true, decide_true, decide_false, decide_eq_true_eq, Bool.false_eq_true, Nat.add_zero, am_rok1_0, am_rok1_1, cond_true, cond_false, am_w_nat1, true_or, or_true, false_or, or_false, true_and, and_true, false_and, and_false, Int.reduceEq, Int.reduceNeg, Int.reduceLT, Int.reduceLE, or_self, and_self]
theorem lw_32 (g1 : x + 107 ≤ mo) (g2 : mo + 15 ≤ o) (g3 : o < lo) (ht : t < 512) (hi : i + 7 ≤ L.1) (hL : L.1 ≤ 3584) (st : ST x mo o lo c0 L t H) (y5 y6 : am_V) : ∃ H2, am_run am_ms 304 1295 [am_K 2, am_R x, am_R mo, am_R o, am_I i, y5, y6] [] H = am_run am_ms 304 1939 [am_K 2, am_R x, am_R mo, am_R o, am_I i, y5, y6] [] H2 ∧ ST x mo o lo c0 L (t + 1) H2 := by
  obtain ⟨v, H1, H2, c1, c2, st2, i8, i9, hL1, hL2⟩ := st_call g1 g2 g3 247 252 [am_I (L.2 (i + 1)), am_I (L.2 (i + 2)), am_L (am_lor (am_lshl (L.2 (i + 3)) 32) (am_land (L.2 (i + 4)) 4294967295)), am_I (L.2 (i + 5))] st (fun N P K T S M m A HD h n g w hs hn => CL_mono (cl_of_tk w hs (tk_growth w (by omega) (L.2 (i + 1)) (L.2 (i + 2)) (am_lor (am_lshl (L.2 (i + 3)) 32) (am_land (L.2 (i + 4)) 4294967295)) (L.2 (i + 5)))) (by omega))
  refine ⟨H2, ?_, st2⟩
  have hb : Nat.beq 2 1 = false := rfl
  have r1 := rk_L (H := H) hL1 (j := i + 1) (by omega)
  have q1 := rk_L (H := H1) hL2 (j := i + 1) (by omega)
  have r2 := rk_L (H := H) hL1 (j := i + 2) (by omega)
  have q2 := rk_L (H := H1) hL2 (j := i + 2) (by omega)
  have r3 := rk_L (H := H) hL1 (j := i + 3) (by omega)
  have q3 := rk_L (H := H1) hL2 (j := i + 3) (by omega)
  have r4 := rk_L (H := H) hL1 (j := i + 4) (by omega)
  have q4 := rk_L (H := H1) hL2 (j := i + 4) (by omega)
  have r5 := rk_L (H := H) hL1 (j := i + 5) (by omega)
  have q5 := rk_L (H := H1) hL2 (j := i + 5) (by omega)
  have hi1 : i < 100000 := by omega
  have e1 : am_w ((i : Int) + 1) = ((i + 1 : Nat) : Int) := w_ik hi1 1 (by decide)
  have e2 : am_w ((i : Int) + 2) = ((i + 2 : Nat) : Int) := w_ik hi1 2 (by decide)
  have e3 : am_w ((i : Int) + 3) = ((i + 3 : Nat) : Int) := w_ik hi1 3 (by decide)
  have e4 : am_w ((i : Int) + 4) = ((i + 4 : Nat) : Int) := w_ik hi1 4 (by decide)
  have e5 : am_w ((i : Int) + 5) = ((i + 5 : Nat) : Int) := w_ik hi1 5 (by decide)
  rw [bk_304_1295]
  simp only [bk_304_1312, bk_304_1330, bk_304_1349, bk_304_1366, bk_304_1387, hb, e1, e2, e3, e4, e5, r1, q1, r2, q2, r3, q3, r4, q4, r5, q5, i8, i9, c1, c2, eq_self, Option.bind_some, Bool.cond_decide, am_oI_some, am_oV_some, am_oI_ite, am_oV_ite, am_bind_ite, Int.toNat_natCast, Int.toNat_zero, Int.reduceToNat, ite_true, ite_false, not_true_eq_false, not_false_eq_true, decide_true, decide_false, decide_eq_true_eq, Bool.false_eq_true, Nat.add_zero, am_rok1_0, am_rok1_1, cond_true, cond_false, am_w_nat1, true_or, or_true, false_or, or_false, true_and, and_true, false_and, and_false, Int.reduceEq, Int.reduceNeg, Int.reduceLT, Int.reduceLE, or_self, and_self]
theorem lw_33 (g1 : x + 107 ≤ mo) (g2 : mo + 15 ≤ o) (g3 : o < lo) (ht : t < 512) (hi : i + 7 ≤ L.1) (hL : L.1 ≤ 3584) (st : ST x mo o lo c0 L t H) (y5 y6 : am_V) : ∃ H2, am_run am_ms 304 1388 [am_K 2, am_R x, am_R mo, am_R o, am_I i, y5, y6] [] H = am_run am_ms 304 1939 [am_K 2, am_R x, am_R mo, am_R o, am_I i, y5, y6] [] H2 ∧ ST x mo o lo c0 L (t + 1) H2 := by
  obtain ⟨v, H1, H2, c1, c2, st2, i8, i9, hL1, hL2⟩ := st_call g1 g2 g3 255 256 [am_I (L.2 (i + 1)), am_L (am_lor (am_lshl (L.2 (i + 2)) 32) (am_land (L.2 (i + 3)) 4294967295))] st (fun N P K T S M m A HD h n g w hs hn => CL_mono (cl_of_tk w hs (tk_best w (by omega) (L.2 (i + 1)) (am_lor (am_lshl (L.2 (i + 2)) 32) (am_land (L.2 (i + 3)) 4294967295)))) (by omega))
  refine ⟨H2, ?_, st2⟩
  have hb : Nat.beq 2 1 = false := rfl
  have r1 := rk_L (H := H) hL1 (j := i + 1) (by omega)
  have q1 := rk_L (H := H1) hL2 (j := i + 1) (by omega)
  have r2 := rk_L (H := H) hL1 (j := i + 2) (by omega)
  have q2 := rk_L (H := H1) hL2 (j := i + 2) (by omega)
  have r3 := rk_L (H := H) hL1 (j := i + 3) (by omega)
  have q3 := rk_L (H := H1) hL2 (j := i + 3) (by omega)
  have hi1 : i < 100000 := by omega
  have e1 : am_w ((i : Int) + 1) = ((i + 1 : Nat) : Int) := w_ik hi1 1 (by decide)
  have e2 : am_w ((i : Int) + 2) = ((i + 2 : Nat) : Int) := w_ik hi1 2 (by decide)
  have e3 : am_w ((i : Int) + 3) = ((i + 3 : Nat) : Int) := w_ik hi1 3 (by decide)
  rw [bk_304_1388]
  simp only [bk_304_1405, bk_304_1425, bk_304_1442, hb, e1, e2, e3, r1, q1, r2, q2, r3, q3, i8, i9, c1, c2, eq_self, Option.bind_some, Bool.cond_decide, am_oI_some, am_oV_some, am_oI_ite, am_oV_ite, am_bind_ite, Int.toNat_natCast, Int.toNat_zero, Int.reduceToNat, ite_true, ite_false, not_true_eq_false, not_false_eq_true, decide_true, decide_false, decide_eq_true_eq, Bool.false_eq_true, Nat.add_zero, am_rok1_0, am_rok1_1, cond_true, cond_false, am_w_nat1, true_or, or_true, false_or, or_false, true_and, and_true, false_and, and_false, Int.reduceEq, Int.reduceNeg, Int.reduceLT, Int.reduceLE, or_self, and_self]
theorem lw_34 (g1 : x + 107 ≤ mo) (g2 : mo + 15 ≤ o) (g3 : o < lo) (ht : t < 512) (hi : i + 7 ≤ L.1) (hL : L.1 ≤ 3584) (st : ST x mo o lo c0 L t H) (y5 y6 : am_V) : ∃ H2, am_run am_ms 304 1457 [am_K 2, am_R x, am_R mo, am_R o, am_I i, y5, y6] [] H = am_run am_ms 304 1939 [am_K 2, am_R x, am_R mo, am_R o, am_I i, y5, y6] [] H2 ∧ ST x mo o lo c0 L (t + 1) H2 := by
  obtain ⟨v, H1, H2, c1, c2, st2, i8, i9, hL1, hL2⟩ := st_call g1 g2 g3 257 258 [am_I (L.2 (i + 1)), am_I (L.2 (i + 2)), am_I (L.2 (i + 3)), am_L (am_lor (am_lshl (L.2 (i + 4)) 32) (am_land (L.2 (i + 5)) 4294967295)), am_I (L.2 (i + 6))] st (fun N P K T S M m A HD h n g w hs hn => CL_mono (cl_of_tk w hs (tk_strain w (by omega) (L.2 (i + 1)) (L.2 (i + 2)) (L.2 (i + 3)) (am_lor (am_lshl (L.2 (i + 4)) 32) (am_land (L.2 (i + 5)) 4294967295)) (L.2 (i + 6)))) (by omega))
  refine ⟨H2, ?_, st2⟩
  have hb : Nat.beq 2 1 = false := rfl
  have r1 := rk_L (H := H) hL1 (j := i + 1) (by omega)
  have q1 := rk_L (H := H1) hL2 (j := i + 1) (by omega)
  have r2 := rk_L (H := H) hL1 (j := i + 2) (by omega)
  have q2 := rk_L (H := H1) hL2 (j := i + 2) (by omega)
  have r3 := rk_L (H := H) hL1 (j := i + 3) (by omega)
  have q3 := rk_L (H := H1) hL2 (j := i + 3) (by omega)
  have r4 := rk_L (H := H) hL1 (j := i + 4) (by omega)
  have q4 := rk_L (H := H1) hL2 (j := i + 4) (by omega)
  have r5 := rk_L (H := H) hL1 (j := i + 5) (by omega)
  have q5 := rk_L (H := H1) hL2 (j := i + 5) (by omega)
  have r6 := rk_L (H := H) hL1 (j := i + 6) (by omega)
  have q6 := rk_L (H := H1) hL2 (j := i + 6) (by omega)
  have hi1 : i < 100000 := by omega
  have e1 : am_w ((i : Int) + 1) = ((i + 1 : Nat) : Int) := w_ik hi1 1 (by decide)
  have e2 : am_w ((i : Int) + 2) = ((i + 2 : Nat) : Int) := w_ik hi1 2 (by decide)
  have e3 : am_w ((i : Int) + 3) = ((i + 3 : Nat) : Int) := w_ik hi1 3 (by decide)
  have e4 : am_w ((i : Int) + 4) = ((i + 4 : Nat) : Int) := w_ik hi1 4 (by decide)
  have e5 : am_w ((i : Int) + 5) = ((i + 5 : Nat) : Int) := w_ik hi1 5 (by decide)
  have e6 : am_w ((i : Int) + 6) = ((i + 6 : Nat) : Int) := w_ik hi1 6 (by decide)
  rw [bk_304_1457]
  simp only [bk_304_1474, bk_304_1491, bk_304_1512, bk_304_1528, bk_304_1547, hb, e1, e2, e3, e4, e5, e6, r1, q1, r2, q2, r3, q3, r4, q4, r5, q5, r6, q6, i8, i9, c1, c2, eq_self, Option.bind_some, Bool.cond_decide, am_oI_some, am_oV_some, am_oI_ite, am_oV_ite, am_bind_ite, Int.toNat_natCast, Int.toNat_zero, Int.reduceToNat, ite_true, ite_false, not_true_eq_false, not_false_eq_true, decide_true, decide_false, decide_eq_true_eq, Bool.false_eq_true, Nat.add_zero, am_rok1_0, am_rok1_1, cond_true, cond_false, am_w_nat1, true_or, or_true, false_or, or_false, true_and, and_true, false_and, and_false, Int.reduceEq, Int.reduceNeg, Int.reduceLT, Int.reduceLE, or_self, and_self]
theorem lw_35 (g1 : x + 107 ≤ mo) (g2 : mo + 15 ≤ o) (g3 : o < lo) (ht : t < 512) (hi : i + 7 ≤ L.1) (hL : L.1 ≤ 3584) (st : ST x mo o lo c0 L t H) (y5 y6 : am_V) : ∃ H2, am_run am_ms 304 1564 [am_K 2, am_R x, am_R mo, am_R o, am_I i, y5, y6] [] H = am_run am_ms 304 1939 [am_K 2, am_R x, am_R mo, am_R o, am_I i, y5, y6] [] H2 ∧ ST x mo o lo c0 L (t + 1) H2 := by
  obtain ⟨v, H1, H2, c1, c2, st2, i8, i9, hL1, hL2⟩ := st_call g1 g2 g3 260 262 [am_I (L.2 (i + 1)), am_I (L.2 (i + 2)), am_L (am_lor (am_lshl (L.2 (i + 3)) 32) (am_land (L.2 (i + 4)) 4294967295)), am_I (L.2 (i + 5))] st (fun N P K T S M m A HD h n g w hs hn => CL_mono (cl_of_tk w hs (tk_fresh w (by omega) (L.2 (i + 1)) (L.2 (i + 2)) (am_lor (am_lshl (L.2 (i + 3)) 32) (am_land (L.2 (i + 4)) 4294967295)) (L.2 (i + 5)))) (by omega))
  refine ⟨H2, ?_, st2⟩
  have hb : Nat.beq 2 1 = false := rfl
  have r1 := rk_L (H := H) hL1 (j := i + 1) (by omega)
  have q1 := rk_L (H := H1) hL2 (j := i + 1) (by omega)
  have r2 := rk_L (H := H) hL1 (j := i + 2) (by omega)
  have q2 := rk_L (H := H1) hL2 (j := i + 2) (by omega)
  have r3 := rk_L (H := H) hL1 (j := i + 3) (by omega)
  have q3 := rk_L (H := H1) hL2 (j := i + 3) (by omega)
  have r4 := rk_L (H := H) hL1 (j := i + 4) (by omega)
  have q4 := rk_L (H := H1) hL2 (j := i + 4) (by omega)
  have r5 := rk_L (H := H) hL1 (j := i + 5) (by omega)
  have q5 := rk_L (H := H1) hL2 (j := i + 5) (by omega)
  have hi1 : i < 100000 := by omega
  have e1 : am_w ((i : Int) + 1) = ((i + 1 : Nat) : Int) := w_ik hi1 1 (by decide)
  have e2 : am_w ((i : Int) + 2) = ((i + 2 : Nat) : Int) := w_ik hi1 2 (by decide)
  have e3 : am_w ((i : Int) + 3) = ((i + 3 : Nat) : Int) := w_ik hi1 3 (by decide)
  have e4 : am_w ((i : Int) + 4) = ((i + 4 : Nat) : Int) := w_ik hi1 4 (by decide)
  have e5 : am_w ((i : Int) + 5) = ((i + 5 : Nat) : Int) := w_ik hi1 5 (by decide)
  rw [bk_304_1564]
  simp only [bk_304_1581, bk_304_1599, bk_304_1618, bk_304_1635, bk_304_1656, hb, e1, e2, e3, e4, e5, r1, q1, r2, q2, r3, q3, r4, q4, r5, q5, i8, i9, c1, c2, eq_self, Option.bind_some, Bool.cond_decide, am_oI_some, am_oV_some, am_oI_ite, am_oV_ite, am_bind_ite, Int.toNat_natCast, Int.toNat_zero, Int.reduceToNat, ite_true, ite_false, not_true_eq_false, not_false_eq_true, decide_true, decide_false, decide_eq_true_eq, Bool.false_eq_true, Nat.add_zero, am_rok1_0, am_rok1_1, cond_true, cond_false, am_w_nat1, true_or, or_true, false_or, or_false, true_and, and_true, false_and, and_false, Int.reduceEq, Int.reduceNeg, Int.reduceLT, Int.reduceLE, or_self, and_self]
theorem lw_36 (g1 : x + 107 ≤ mo) (g2 : mo + 15 ≤ o) (g3 : o < lo) (ht : t < 512) (hi : i + 7 ≤ L.1) (hL : L.1 ≤ 3584) (st : ST x mo o lo c0 L t H) (y5 y6 : am_V) : ∃ H2, am_run am_ms 304 1657 [am_K 2, am_R x, am_R mo, am_R o, am_I i, y5, y6] [] H = am_run am_ms 304 1939 [am_K 2, am_R x, am_R mo, am_R o, am_I i, y5, y6] [] H2 ∧ ST x mo o lo c0 L (t + 1) H2 := by
  obtain ⟨v, H1, H2, c1, c2, st2, i8, i9, hL1, hL2⟩ := st_call g1 g2 g3 263 264 [am_I (L.2 (i + 1)), am_L (am_lor (am_lshl (L.2 (i + 2)) 32) (am_land (L.2 (i + 3)) 4294967295))] st (fun N P K T S M m A HD h n g w hs hn => CL_mono (cl_of_tk w hs (tk_bs w (by omega) (L.2 (i + 1)) (am_lor (am_lshl (L.2 (i + 2)) 32) (am_land (L.2 (i + 3)) 4294967295)))) (by omega))
  refine ⟨H2, ?_, st2⟩
  have hb : Nat.beq 2 1 = false := rfl
  have r1 := rk_L (H := H) hL1 (j := i + 1) (by omega)
  have q1 := rk_L (H := H1) hL2 (j := i + 1) (by omega)
  have r2 := rk_L (H := H) hL1 (j := i + 2) (by omega)
  have q2 := rk_L (H := H1) hL2 (j := i + 2) (by omega)
  have r3 := rk_L (H := H) hL1 (j := i + 3) (by omega)
  have q3 := rk_L (H := H1) hL2 (j := i + 3) (by omega)
  have hi1 : i < 100000 := by omega
  have e1 : am_w ((i : Int) + 1) = ((i + 1 : Nat) : Int) := w_ik hi1 1 (by decide)
  have e2 : am_w ((i : Int) + 2) = ((i + 2 : Nat) : Int) := w_ik hi1 2 (by decide)
  have e3 : am_w ((i : Int) + 3) = ((i + 3 : Nat) : Int) := w_ik hi1 3 (by decide)
  rw [bk_304_1657]
  simp only [bk_304_1674, bk_304_1694, bk_304_1711, hb, e1, e2, e3, r1, q1, r2, q2, r3, q3, i8, i9, c1, c2, eq_self, Option.bind_some, Bool.cond_decide, am_oI_some, am_oV_some, am_oI_ite, am_oV_ite, am_bind_ite, Int.toNat_natCast, Int.toNat_zero, Int.reduceToNat, ite_true, ite_false, not_true_eq_false, not_false_eq_true, decide_true, decide_false, decide_eq_true_eq, Bool.false_eq_true, Nat.add_zero, am_rok1_0, am_rok1_1, cond_true, cond_false, am_w_nat1, true_or, or_true, false_or, or_false, true_and, and_true, false_and, and_false, Int.reduceEq, Int.reduceNeg, Int.reduceLT, Int.reduceLE, or_self, and_self]
theorem lw_37 (g1 : x + 107 ≤ mo) (g2 : mo + 15 ≤ o) (g3 : o < lo) (ht : t < 512) (hi : i + 7 ≤ L.1) (hL : L.1 ≤ 3584) (st : ST x mo o lo c0 L t H) (y5 y6 : am_V) : ∃ H2, am_run am_ms 304 1726 [am_K 2, am_R x, am_R mo, am_R o, am_I i, y5, y6] [] H = am_run am_ms 304 1939 [am_K 2, am_R x, am_R mo, am_R o, am_I i, y5, y6] [] H2 ∧ ST x mo o lo c0 L (t + 1) H2 := by
  obtain ⟨v, H1, H2, c1, c2, st2, i8, i9, hL1, hL2⟩ := st_call g1 g2 g3 267 268 [am_I (L.2 (i + 1)), am_I (L.2 (i + 2))] st (fun N P K T S M m A HD h n g w hs hn => cl_of_lk w hs (by omega) (lk_past w (L.2 (i + 1)) (L.2 (i + 2))))
  refine ⟨H2, ?_, st2⟩
  have hb : Nat.beq 2 1 = false := rfl
  have r1 := rk_L (H := H) hL1 (j := i + 1) (by omega)
  have q1 := rk_L (H := H1) hL2 (j := i + 1) (by omega)
  have r2 := rk_L (H := H) hL1 (j := i + 2) (by omega)
  have q2 := rk_L (H := H1) hL2 (j := i + 2) (by omega)
  have hi1 : i < 100000 := by omega
  have e1 : am_w ((i : Int) + 1) = ((i + 1 : Nat) : Int) := w_ik hi1 1 (by decide)
  have e2 : am_w ((i : Int) + 2) = ((i + 2 : Nat) : Int) := w_ik hi1 2 (by decide)
  rw [bk_304_1726]
  simp only [bk_304_1744, hb, e1, e2, r1, q1, r2, q2, i8, i9, c1, c2, eq_self, Option.bind_some, Bool.cond_decide, am_oI_some, am_oV_some, am_oI_ite, am_oV_ite, am_bind_ite, Int.toNat_natCast, Int.toNat_zero, Int.reduceToNat, ite_true, ite_false, not_true_eq_false, not_false_eq_true, decide_true, decide_false, decide_eq_true_eq, Bool.false_eq_true, Nat.add_zero, am_rok1_0, am_rok1_1, cond_true, cond_false, am_w_nat1, true_or, or_true, false_or, or_false, true_and, and_true, false_and, and_false, Int.reduceEq, Int.reduceNeg, Int.reduceLT, Int.reduceLE, or_self, and_self]
theorem lw_38 (g1 : x + 107 ≤ mo) (g2 : mo + 15 ≤ o) (g3 : o < lo) (ht : t < 512) (hi : i + 7 ≤ L.1) (hL : L.1 ≤ 3584) (st : ST x mo o lo c0 L t H) (y5 y6 : am_V) : ∃ H2, am_run am_ms 304 1763 [am_K 2, am_R x, am_R mo, am_R o, am_I i, y5, y6] [] H = am_run am_ms 304 1939 [am_K 2, am_R x, am_R mo, am_R o, am_I i, y5, y6] [] H2 ∧ ST x mo o lo c0 L (t + 1) H2 := by
  obtain ⟨v, H1, H2, c1, c2, st2, i8, i9, hL1, hL2⟩ := st_call g1 g2 g3 271 274 [am_I (L.2 (i + 1))] st (fun N P K T S M m A HD h n g w hs hn => cl_of_lk w hs (by omega) (lk_elder w (L.2 (i + 1))))
  refine ⟨H2, ?_, st2⟩
  have hb : Nat.beq 2 1 = false := rfl
  have r1 := rk_L (H := H) hL1 (j := i + 1) (by omega)
  have q1 := rk_L (H := H1) hL2 (j := i + 1) (by omega)
  have hi1 : i < 100000 := by omega
  have e1 : am_w ((i : Int) + 1) = ((i + 1 : Nat) : Int) := w_ik hi1 1 (by decide)
  rw [bk_304_1763]
  simp only [bk_304_1783, hb, e1, r1, q1, i8, i9, c1, c2, eq_self, Option.bind_some, Bool.cond_decide, am_oI_some, am_oV_some, am_oI_ite, am_oV_ite, am_bind_ite, Int.toNat_natCast, Int.toNat_zero, Int.reduceToNat, ite_true, ite_false, not_true_eq_false, not_false_eq_true, decide_true, decide_false, decide_eq_true_eq, Bool.false_eq_true, Nat.add_zero, am_rok1_0, am_rok1_1, cond_true, cond_false, am_w_nat1, true_or, or_true, false_or, or_false, true_and, and_true, false_and, and_false, Int.reduceEq, Int.reduceNeg, Int.reduceLT, Int.reduceLE, or_self, and_self]
theorem lw_39 (g1 : x + 107 ≤ mo) (g2 : mo + 15 ≤ o) (g3 : o < lo) (ht : t < 512) (hi : i + 7 ≤ L.1) (hL : L.1 ≤ 3584) (st : ST x mo o lo c0 L t H) (y5 y6 : am_V) : ∃ H2, am_run am_ms 304 1788 [am_K 2, am_R x, am_R mo, am_R o, am_I i, y5, y6] [] H = am_run am_ms 304 1939 [am_K 2, am_R x, am_R mo, am_R o, am_I i, y5, y6] [] H2 ∧ ST x mo o lo c0 L (t + 1) H2 := by
  obtain ⟨v, H1, H2, c1, c2, st2, i8, i9, hL1, hL2⟩ := st_call g1 g2 g3 276 277 [] st (fun N P K T S M m A HD h n g w hs hn => cl_of_lk w hs (by omega) (lk_gone (by omega) w))
  refine ⟨H2, ?_, st2⟩
  have hb : Nat.beq 2 1 = false := rfl
  rw [bk_304_1788]
  simp only [hb, i8, i9, c1, c2, eq_self, Option.bind_some, Bool.cond_decide, am_oI_some, am_oV_some, am_oI_ite, am_oV_ite, am_bind_ite, Int.toNat_natCast, Int.toNat_zero, Int.reduceToNat, ite_true, ite_false, not_true_eq_false, not_false_eq_true, decide_true, decide_false, decide_eq_true_eq, Bool.false_eq_true, Nat.add_zero, am_rok1_0, am_rok1_1, cond_true, cond_false, am_w_nat1, true_or, or_true, false_or, or_false, true_and, and_true, false_and, and_false, Int.reduceEq, Int.reduceNeg, Int.reduceLT, Int.reduceLE, or_self, and_self]
theorem lw_40 (g1 : x + 107 ≤ mo) (g2 : mo + 15 ≤ o) (g3 : o < lo) (ht : t < 512) (hi : i + 7 ≤ L.1) (hL : L.1 ≤ 3584) (st : ST x mo o lo c0 L t H) (y5 y6 : am_V) : ∃ H2, am_run am_ms 304 1801 [am_K 2, am_R x, am_R mo, am_R o, am_I i, y5, y6] [] H = am_run am_ms 304 1939 [am_K 2, am_R x, am_R mo, am_R o, am_I i, y5, y6] [] H2 ∧ ST x mo o lo c0 L (t + 1) H2 := by
  obtain ⟨v, H1, H2, c1, c2, st2, i8, i9, hL1, hL2⟩ := st_call g1 g2 g3 278 279 [am_I (L.2 (i + 1))] st (fun N P K T S M m A HD h n g w hs hn => CL_mono (cl_of_tk w hs (tk_far w (by omega) (L.2 (i + 1)))) (by omega))
  refine ⟨H2, ?_, st2⟩
  have hb : Nat.beq 2 1 = false := rfl
  have r1 := rk_L (H := H) hL1 (j := i + 1) (by omega)
  have q1 := rk_L (H := H1) hL2 (j := i + 1) (by omega)
  have hi1 : i < 100000 := by omega
  have e1 : am_w ((i : Int) + 1) = ((i + 1 : Nat) : Int) := w_ik hi1 1 (by decide)
  rw [bk_304_1801]
  simp only [bk_304_1821, hb, e1, r1, q1, i8, i9, c1, c2, eq_self, Option.bind_some, Bool.cond_decide, am_oI_some, am_oV_some, am_oI_ite, am_oV_ite, am_bind_ite, Int.toNat_natCast, Int.toNat_zero, Int.reduceToNat, ite_true, ite_false, not_true_eq_false, not_false_eq_true, decide_true, decide_false, decide_eq_true_eq, Bool.false_eq_true, Nat.add_zero, am_rok1_0, am_rok1_1, cond_true, cond_false, am_w_nat1, true_or, or_true, false_or, or_false, true_and, and_true, false_and, and_false, Int.reduceEq, Int.reduceNeg, Int.reduceLT, Int.reduceLE, or_self, and_self]
theorem lw_41 (g1 : x + 107 ≤ mo) (g2 : mo + 15 ≤ o) (g3 : o < lo) (ht : t < 512) (hi : i + 7 ≤ L.1) (hL : L.1 ≤ 3584) (st : ST x mo o lo c0 L t H) (y5 y6 : am_V) : ∃ H2, am_run am_ms 304 1826 [am_K 2, am_R x, am_R mo, am_R o, am_I i, y5, y6] [] H = am_run am_ms 304 1939 [am_K 2, am_R x, am_R mo, am_R o, am_I i, y5, y6] [] H2 ∧ ST x mo o lo c0 L (t + 1) H2 := by
  obtain ⟨v, H1, H2, c1, c2, st2, i8, i9, hL1, hL2⟩ := st_call g1 g2 g3 280 282 [am_I (L.2 (i + 1)), am_I (L.2 (i + 2))] st (fun N P K T S M m A HD h n g w hs hn => cl_of_lk w hs (by omega) (lk_shares w (L.2 (i + 1)) (L.2 (i + 2))))
  refine ⟨H2, ?_, st2⟩
  have hb : Nat.beq 2 1 = false := rfl
  have r1 := rk_L (H := H) hL1 (j := i + 1) (by omega)
  have q1 := rk_L (H := H1) hL2 (j := i + 1) (by omega)
  have r2 := rk_L (H := H) hL1 (j := i + 2) (by omega)
  have q2 := rk_L (H := H1) hL2 (j := i + 2) (by omega)
  have hi1 : i < 100000 := by omega
  have e1 : am_w ((i : Int) + 1) = ((i + 1 : Nat) : Int) := w_ik hi1 1 (by decide)
  have e2 : am_w ((i : Int) + 2) = ((i + 2 : Nat) : Int) := w_ik hi1 2 (by decide)
  rw [bk_304_1826]
  simp only [bk_304_1844, hb, e1, e2, r1, q1, r2, q2, i8, i9, c1, c2, eq_self, Option.bind_some, Bool.cond_decide, am_oI_some, am_oV_some, am_oI_ite, am_oV_ite, am_bind_ite, Int.toNat_natCast, Int.toNat_zero, Int.reduceToNat, ite_true, ite_false, not_true_eq_false, not_false_eq_true, decide_true, decide_false, decide_eq_true_eq, Bool.false_eq_true, Nat.add_zero, am_rok1_0, am_rok1_1, cond_true, cond_false, am_w_nat1, true_or, or_true, false_or, or_false, true_and, and_true, false_and, and_false, Int.reduceEq, Int.reduceNeg, Int.reduceLT, Int.reduceLE, or_self, and_self]
theorem lw_42 (g1 : x + 107 ≤ mo) (g2 : mo + 15 ≤ o) (g3 : o < lo) (ht : t < 512) (hi : i + 7 ≤ L.1) (hL : L.1 ≤ 3584) (st : ST x mo o lo c0 L t H) (y5 y6 : am_V) : ∃ H2, am_run am_ms 304 1863 [am_K 2, am_R x, am_R mo, am_R o, am_I i, y5, y6] [] H = am_run am_ms 304 1939 [am_K 2, am_R x, am_R mo, am_R o, am_I i, y5, y6] [] H2 ∧ ST x mo o lo c0 L (t + 1) H2 := by
  obtain ⟨v, H1, H2, c1, c2, st2, i8, i9, hL1, hL2⟩ := st_call g1 g2 g3 290 297 [am_I (L.2 (i + 1))] st (fun N P K T S M m A HD h n g w hs hn => cl_of_lk w hs (by omega) (lk_most (by omega) w (L.2 (i + 1))))
  refine ⟨H2, ?_, st2⟩
  have hb : Nat.beq 2 1 = false := rfl
  have r1 := rk_L (H := H) hL1 (j := i + 1) (by omega)
  have q1 := rk_L (H := H1) hL2 (j := i + 1) (by omega)
  have hi1 : i < 100000 := by omega
  have e1 : am_w ((i : Int) + 1) = ((i + 1 : Nat) : Int) := w_ik hi1 1 (by decide)
  rw [bk_304_1863]
  simp only [bk_304_1883, hb, e1, r1, q1, i8, i9, c1, c2, eq_self, Option.bind_some, Bool.cond_decide, am_oI_some, am_oV_some, am_oI_ite, am_oV_ite, am_bind_ite, Int.toNat_natCast, Int.toNat_zero, Int.reduceToNat, ite_true, ite_false, not_true_eq_false, not_false_eq_true, decide_true, decide_false, decide_eq_true_eq, Bool.false_eq_true, Nat.add_zero, am_rok1_0, am_rok1_1, cond_true, cond_false, am_w_nat1, true_or, or_true, false_or, or_false, true_and, and_true, false_and, and_false, Int.reduceEq, Int.reduceNeg, Int.reduceLT, Int.reduceLE, or_self, and_self]
theorem lw_43 (g1 : x + 107 ≤ mo) (g2 : mo + 15 ≤ o) (g3 : o < lo) (ht : t < 512) (hi : i + 7 ≤ L.1) (hL : L.1 ≤ 3584) (st : ST x mo o lo c0 L t H) (y5 y6 : am_V) : ∃ H2, am_run am_ms 304 1888 [am_K 2, am_R x, am_R mo, am_R o, am_I i, y5, y6] [] H = am_run am_ms 304 1939 [am_K 2, am_R x, am_R mo, am_R o, am_I i, y5, y6] [] H2 ∧ ST x mo o lo c0 L (t + 1) H2 := by
  obtain ⟨v, H1, H2, c1, c2, st2, i8, i9, hL1, hL2⟩ := st_call g1 g2 g3 298 299 [] st (fun N P K T S M m A HD h n g w hs hn => CL_mono (cl_image w hs) (by omega))
  refine ⟨H2, ?_, st2⟩
  have hb : Nat.beq 2 1 = false := rfl
  rw [bk_304_1888]
  simp only [hb, i8, i9, c1, c2, eq_self, Option.bind_some, Bool.cond_decide, am_oI_some, am_oV_some, am_oI_ite, am_oV_ite, am_bind_ite, Int.toNat_natCast, Int.toNat_zero, Int.reduceToNat, ite_true, ite_false, not_true_eq_false, not_false_eq_true, decide_true, decide_false, decide_eq_true_eq, Bool.false_eq_true, Nat.add_zero, am_rok1_0, am_rok1_1, cond_true, cond_false, am_w_nat1, true_or, or_true, false_or, or_false, true_and, and_true, false_and, and_false, Int.reduceEq, Int.reduceNeg, Int.reduceLT, Int.reduceLE, or_self, and_self]
theorem lw_44 (g1 : x + 107 ≤ mo) (g2 : mo + 15 ≤ o) (g3 : o < lo) (ht : t < 512) (hi : i + 7 ≤ L.1) (hL : L.1 ≤ 3584) (st : ST x mo o lo c0 L t H) (y5 y6 : am_V) : ∃ H2, am_run am_ms 304 1901 [am_K 2, am_R x, am_R mo, am_R o, am_I i, y5, y6] [] H = am_run am_ms 304 1939 [am_K 2, am_R x, am_R mo, am_R o, am_I i, y5, y6] [] H2 ∧ ST x mo o lo c0 L (t + 1) H2 := by
  obtain ⟨v, H1, H2, c1, c2, st2, i8, i9, hL1, hL2⟩ := st_call g1 g2 g3 300 301 [] st (fun N P K T S M m A HD h n g w hs hn => CL_mono (cl_back w hs) (by omega))
  refine ⟨H2, ?_, st2⟩
  have hb : Nat.beq 2 1 = false := rfl
  rw [bk_304_1901]
  simp only [hb, i8, i9, c1, c2, eq_self, Option.bind_some, Bool.cond_decide, am_oI_some, am_oV_some, am_oI_ite, am_oV_ite, am_bind_ite, Int.toNat_natCast, Int.toNat_zero, Int.reduceToNat, ite_true, ite_false, not_true_eq_false, not_false_eq_true, decide_true, decide_false, decide_eq_true_eq, Bool.false_eq_true, Nat.add_zero, am_rok1_0, am_rok1_1, cond_true, cond_false, am_w_nat1, true_or, or_true, false_or, or_false, true_and, and_true, false_and, and_false, Int.reduceEq, Int.reduceNeg, Int.reduceLT, Int.reduceLE, or_self, and_self]
theorem lw_45 (g1 : x + 107 ≤ mo) (g2 : mo + 15 ≤ o) (g3 : o < lo) (ht : t < 512) (hi : i + 7 ≤ L.1) (hL : L.1 ≤ 3584) (st : ST x mo o lo c0 L t H) (y5 y6 : am_V) : ∃ H2, am_run am_ms 304 1914 [am_K 2, am_R x, am_R mo, am_R o, am_I i, y5, y6] [] H = am_run am_ms 304 1939 [am_K 2, am_R x, am_R mo, am_R o, am_I i, y5, y6] [] H2 ∧ ST x mo o lo c0 L (t + 1) H2 := by
  obtain ⟨v, H1, H2, c1, c2, st2, i8, i9, hL1, hL2⟩ := st_call g1 g2 g3 302 303 [am_I (L.2 (i + 1))] st (fun N P K T S M m A HD h n g w hs hn => cl_of_lk w hs (by omega) (lk_count w (L.2 (i + 1))))
  refine ⟨H2, ?_, st2⟩
  have hb : Nat.beq 2 1 = false := rfl
  have r1 := rk_L (H := H) hL1 (j := i + 1) (by omega)
  have q1 := rk_L (H := H1) hL2 (j := i + 1) (by omega)
  have hi1 : i < 100000 := by omega
  have e1 : am_w ((i : Int) + 1) = ((i + 1 : Nat) : Int) := w_ik hi1 1 (by decide)
  rw [bk_304_1914]
  simp only [bk_304_1934, hb, e1, r1, q1, i8, i9, c1, c2, eq_self, Option.bind_some, Bool.cond_decide, am_oI_some, am_oV_some, am_oI_ite, am_oV_ite, am_bind_ite, Int.toNat_natCast, Int.toNat_zero, Int.reduceToNat, ite_true, ite_false, not_true_eq_false, not_false_eq_true, decide_true, decide_false, decide_eq_true_eq, Bool.false_eq_true, Nat.add_zero, am_rok1_0, am_rok1_1, cond_true, cond_false, am_w_nat1, true_or, or_true, false_or, or_false, true_and, and_true, false_and, and_false, Int.reduceEq, Int.reduceNeg, Int.reduceLT, Int.reduceLE, or_self, and_self]
end LW0
