/-! ===== text: a drive is told ===== -/
section TXW
variable {x mo lo n m Z : Nat} {A : Nat → Nat} {N P K T S : Nat → Nat → Int} {HD : Nat → Nat → Nat → Int} {M Ad : Nat → Nat → Int} {h g : am_H}
theorem min_r {a b : Int} : am_min a b ≤ b ∧ (am_min a b = a ∨ am_min a b = b) := by
  unfold am_min
  split <;> omega
theorem cl_text0 (w : WR n m N K S HD M) (hs : HS lo m A HD h) : CL 106 136 [am_I 0] x mo lo (n + 120000) m A N P K T S M h g := by
  obtain ⟨tf, ct, mt⟩ := WT_TF w.1
  have mt0 : MTp (dup (dup (dup M 0 0 0) 0 3 0) 0 4 (-1)) (S 0 2) (S 1) := MTp_f (MTp_f (MTp_f mt (by omega) _) (by omega) _) (by omega) _
  have k3 : dup (dup (dup M 0 0 0) 0 3 0) 0 4 (-1) 0 3 = 0 := by rw [dup_t, va_up_ne _ _ (by omega), dup_t, va_up_self]
  have k4 : dup (dup (dup M 0 0 0) 0 3 0) 0 4 (-1) 0 4 = -1 := by rw [dup_t, va_up_self]
  have mx0 : MX M (dup (dup (dup M 0 0 0) 0 3 0) 0 4 (-1)) := MX_trans (MX_trans (MX_f M (j := 0) (by omega) _) (MX_f _ (j := 3) (by omega) _)) (MX_f _ (j := 4) (by omega) _)
  have d1 := m_isIn 0 0 1 (mv mo (dup M 0 0 0) g)
  rw [if_pos (by omega)] at d1
  obtain ⟨v, S', M', r1, r2, r3, ⟨⟨r4, r5⟩, r6, r8⟩, r9⟩ := rd_all (x := x) (mo := mo) (m := m) (A := A) (N := N) (P := P) (K := K) (T := T) (h := h) (g := g) tf ct mt0 k3 k4
  have fm : am_cI 60 [am_R mo, am_I 0] (mv mo (dup M 0 0 0) g) = some (v, mv mo M' g) := by
    rw [am_cI]; simp only [en_60, bk_60_0, bk_60_18, bk_60_39, bk_60_43, mv_p0_0, dup_dup, d1, mv_p0_3, mv_p0_4, mv_c0, r2, mv_f0_4, r3, Int.one_ne_zero, Option.bind_some, Bool.cond_decide, am_oI_some, am_oV_some, am_oI_ite, am_oV_ite, am_bind_ite, Int.toNat_natCast, Int.toNat_zero, Int.reduceToNat, ite_true, ite_false, not_true_eq_false, not_false_eq_true, decide_true, decide_false, decide_eq_true_eq, Bool.false_eq_true, Nat.add_zero, am_rok1_0, am_rok1_1, cond_true, cond_false, am_w_nat1, true_or, or_true, false_or, or_false, true_and, and_true, false_and, and_false, Int.reduceEq, Int.reduceNeg, Int.reduceLT, Int.reduceLE, or_self, and_self]
  have wr1 : WR n m N K S' HD M' := WR_tp w r4 (MX_trans mx0 r5) (TF_WT tf r6 r8)
  by_cases ev : v = -1
  · obtain ⟨⟨t4, t13⟩, ⟨t3, t24, t11⟩, ru, ws⟩ := r9 ev
    rw [ev] at r1 fm
    have u0 := ru 0 (by omega)
    have u1 := ru 1 (by omega)
    have u2 := ru 2 (by omega)
    have u3 := ru 3 (by omega)
    have u4 := ru 4 (by omega)
    have u5 := ru 5 (by omega)
    have u6 := ru 6 (by omega)
    have l0 : rlo 0 = 3 ∧ rhi 0 = 8 := ⟨rfl, rfl⟩
    have l1 : rlo 1 = 2 ∧ rhi 1 = 16 := ⟨rfl, rfl⟩
    have l2 : rlo 2 = 1 ∧ rhi 2 = 8 := ⟨rfl, rfl⟩
    have l3 : rlo 3 = 1 ∧ rhi 3 = 8 := ⟨rfl, rfl⟩
    have l4 : rlo 4 = 1 ∧ rhi 4 = 3 := ⟨rfl, rfl⟩
    have l5 : rlo 5 = 1 ∧ rhi 5 = 2 := ⟨rfl, rfl⟩
    have l6 : rlo 6 = 0 ∧ rhi 6 = 3 := ⟨rfl, rfl⟩
    obtain ⟨Z, hZ⟩ : ∃ Z : Nat, S' 2 0 = Z := ⟨(S' 2 0).toNat, by omega⟩
    have hmin := min_r (a := S' 2 2) (b := S' 2 3)
    have E0 := bgn_0 N (S' 2)
    have q0 : ∀ j, j ≠ 2 → bgn N (S' 2) 0 j = S' 2 j := fun j hj => by rw [E0, va_up_ne _ _ hj]
    have q02 : bgn N (S' 2) 0 2 = am_min (S' 2 2) (S' 2 3) := by rw [E0, va_up_self]
    have ivE : IV (bgn N (S' 2)) Z 3 := iv_bgn N (by
      refine ⟨by rw [q0 0 (by omega)]; exact hZ, by omega, by rw [q0 1 (by omega)]; omega, by rw [q02, q0 3 (by omega)]; omega, by rw [q0 4 (by omega)]; omega, by rw [q0 5 (by omega)]; omega, by rw [q0 6 (by omega)]; omega, by rw [q0 6 (by omega)]; omega⟩)
    have rlE := rl_new (E := bgn N (S' 2)) (fun j hj => bgn_1 N (S' 2) hj) (fun z hz => bgn_2 N (S' 2) hz) (fun z hz => bgn_3 N (S' 2) hz) (bgn_16 N (S' 2))
    have bdE : BD (bgn N (S' 2)) 0 := bd_new (fun j hj => bgn_1 N (S' 2) hj) (fun z hz => bgn_4 N (S' 2) hz) 0
    have ndE : ND (bgn N (S' 2)) := fun p q hp _ h1 _ _ => absurd h1 (by rw [new_no (fun z hz => bgn_3 N (S' 2) hz) hp]; decide)
    have ruE : ∀ j, j < 7 → ruM M' j = bgn N (S' 2) 0 j := fun j hj => by
      unfold ruM
      by_cases e : j = 2
      · rw [e, va_up_self, q02, ← u2.1, ← u3.1]
      · rw [va_up_ne _ _ e, q0 j e]
        exact (if_pos hj).trans (ru j hj).1.symm
    have f36 : tdM M' 3 6 = bgn N (S' 2) 0 6 := by rw [tdM_3]; exact ruE 6 (by omega)
    have tm1 := td_m1 (mo := mo) (M := M') (g := g)
    have tm2 := td_m2 (mo := mo) (M := tdM M') (g := g) (R := pack (frA (bgn N (S' 2)) (nwA (bgn N (S' 2))))) (fun j hj => by
      rw [← clr_pack (T0 := bgn N (S' 2)) (Ad := nwA (bgn N (S' 2))) (fun z hz => bgn_2 N (S' 2) hz) (fun z hz => bgn_3 N (S' 2) hz) (fun z hz => bgn_4 N (S' 2) hz) (fun z hz => bgn_6 N (S' 2) hz) (if_pos ⟨rfl, rfl⟩).symm j, nw_row, f36])
    have us23 : tdM M' 0 23 = bgn N (S' 2) 0 2 := by
      unfold tdM usM
      rw [dup_t, va_up_ne _ _ (by omega), dup_t, va_up_ne _ _ (by omega), dup_t, va_up_self, drow_t]
      exact ruE 2 (by omega)
    have us24 : tdM M' 0 24 = bgn N (S' 2) 0 3 := by
      unfold tdM usM
      rw [dup_t, va_up_ne _ _ (by omega), dup_t, va_up_self, drow_t]
      exact ruE 3 (by omega)
    have us25 : tdM M' 0 25 = bgn N (S' 2) 0 4 := by
      unfold tdM usM
      rw [dup_t, va_up_self, drow_t]
      exact ruE 4 (by omega)
    have tdf : ∀ j, j ≠ 2 → j ≠ 14 → j ≠ 23 → j ≠ 24 → j ≠ 25 → tdM M' 0 j = M' 0 j := fun j h1 h2 h3 h4 h5 => by
      unfold tdM usM
      rw [dup_t, va_up_ne _ _ h5, dup_t, va_up_ne _ _ h4, dup_t, va_up_ne _ _ h3, drow_o _ _ (by omega), dup_t, va_up_ne _ _ h2, dup_t, va_up_ne _ _ h1]
    have td2 : tdM M' 0 2 = 0 := by
      unfold tdM usM
      rw [dup_t, va_up_ne _ _ (by omega), dup_t, va_up_ne _ _ (by omega), dup_t, va_up_ne _ _ (by omega), drow_o _ _ (by omega), dup_t, va_up_ne _ _ (by omega), dup_t, va_up_self]
    have td14 : tdM M' 0 14 = 1 := by
      unfold tdM usM
      rw [dup_t, va_up_ne _ _ (by omega), dup_t, va_up_ne _ _ (by omega), dup_t, va_up_ne _ _ (by omega), drow_o _ _ (by omega), dup_t, va_up_self]
    have A0 : frA (bgn N (S' 2)) (nwA (bgn N (S' 2))) 0 = bgn N (S' 2) 0 := frA_t _ _ (by omega)
    have mrE : MR (tdM M') (frA (bgn N (S' 2)) (nwA (bgn N (S' 2)))) := by
      unfold MR
      rw [A0, tdM_3]
      exact ⟨ruE 0 (by omega), ruE 1 (by omega), us23, us24, us25, ruE 5 (by omega)⟩
    have z1 : ∀ r, r ≠ 0 → dup (dup (dup (dup S' 0 2 0) 0 14 0) 0 15 0) 0 1 0 r = S' r := fun r hr => by rw [dup_o _ _ _ hr, dup_o _ _ _ hr, dup_o _ _ _ hr, dup_o _ _ _ hr]
    have z0 : ∀ j, j ≠ 1 → j ≠ 2 → j ≠ 14 → j ≠ 15 → dup (dup (dup (dup S' 0 2 0) 0 14 0) 0 15 0) 0 1 0 0 j = S' 0 j := fun j h1 h2 h3 h4 => by rw [dup_t, va_up_ne _ _ h1, dup_t, va_up_ne _ _ h4, dup_t, va_up_ne _ _ h3, dup_t, va_up_ne _ _ h2]
    have z2 : dup (dup (dup (dup S' 0 2 0) 0 14 0) 0 15 0) 0 1 0 0 2 = 0 := by rw [dup_t, va_up_ne _ _ (by omega), dup_t, va_up_ne _ _ (by omega), dup_t, va_up_ne _ _ (by omega), dup_t, va_up_self]
    have z14 : dup (dup (dup (dup S' 0 2 0) 0 14 0) 0 15 0) 0 1 0 0 14 = 0 := by rw [dup_t, va_up_ne _ _ (by omega), dup_t, va_up_ne _ _ (by omega), dup_t, va_up_self]
    have z15 : dup (dup (dup (dup S' 0 2 0) 0 14 0) 0 15 0) 0 1 0 0 15 = 0 := by rw [dup_t, va_up_ne _ _ (by omega), dup_t, va_up_self]
    have z11 : dup (dup (dup (dup S' 0 2 0) 0 14 0) 0 15 0) 0 1 0 0 1 = 0 := by rw [dup_t, va_up_self]
    have fg := h_forget (x := x) (N := N) (P := P) (K := K) (T := T) (S := dup S' 0 2 0) (m := m) (A := A) (h := h)
    have zb := zn_begin (x := x) (N := N) (P := P) (K := K) (T := T) (S := dup (dup (dup (dup S' 0 2 0) 0 14 0) 0 15 0) 0 1 0) (m := m) (A := A) (h := h)
    rw [z1 2 (by omega)] at zb
    have pre : am_cI 103 [am_R x] (zv x N P K T S m A h) = am_oI (am_run am_ms 103 49 [am_R x, am_I 0] [] (zv x (bgn N (S' 2)) P K T (dup (dup (dup (dup S' 0 2 0) 0 14 0) 0 15 0) 0 1 0) m A h)) := by
      rw [am_cI]; simp only [en_103, bk_103_0, bk_103_13, bk_103_41, zv_f0_1, zv_c3, r1, zv_f0_0, zv_p1_1, zv_f0_9, zv_c87, fg, zv_p0_7, zv_f0_4, zv_f3_0, zN_c, zb, Option.bind_some, Bool.cond_decide, am_oI_some, am_oV_some, am_oI_ite, am_oV_ite, am_bind_ite, Int.toNat_natCast, Int.toNat_zero, Int.reduceToNat, ite_true, ite_false, not_true_eq_false, not_false_eq_true, decide_true, decide_false, decide_eq_true_eq, Bool.false_eq_true, Nat.add_zero, am_rok1_0, am_rok1_1, cond_true, cond_false, am_w_nat1, true_or, or_true, false_or, or_false, true_and, and_true, false_and, and_false, Int.reduceEq, Int.reduceNeg, Int.reduceLT, Int.reduceLE, or_self, and_self]
    generalize dup (dup (dup (dup S' 0 2 0) 0 14 0) 0 15 0) 0 1 0 = S1 at z1 z0 z2 z14 z15 z11 pre ⊢
    have y3 := z0 3 (by omega) (by omega) (by omega) (by omega)
    obtain ⟨P2, N2, Ad2, M2, y3', c1, c2, me, iv2, rl2, bd2, nd2, e02, mr2⟩ := td_loop (x := x) (mo := mo) (m := m) (A := A) (K := K) (T := T) (S := S1) (h := h) (g := g) (Z := Z) (S1 0 3).toNat 0 0 (bgn N (S' 2)) P (frA (bgn N (S' 2)) (nwA (bgn N (S' 2)))) (tdM M') (am_K 1) (by omega) (by omega) (by rw [tdf 11 (by omega) (by omega) (by omega) (by omega) (by omega), y3]; exact t11) (by rw [y3, z1 3 (by omega), z1 4 (by omega), tdM_o _ (by omega) (by omega)]; exact ws) ivE rlE bdE ndE (by omega) mrE
    have c1' : am_run am_ms 103 49 [am_R x, am_I 0] [] (zv x (bgn N (S' 2)) P K T S1 m A h) = am_run am_ms 103 49 [am_R x, am_I (S1 0 3)] [] (zv x N2 P2 K T S1 m A h) := c1
    have c2' : am_run am_ms 136 244 [am_R mo, am_I 0, am_I 0, am_K 1] [] (mv mo (drow (tdM M') 8 (pack (frA (bgn N (S' 2)) (nwA (bgn N (S' 2)))))) g) = am_run am_ms 136 244 [am_R mo, am_I 0, am_I (S1 0 3), y3'] [] (mv mo (drow M2 8 (pack Ad2)) g) := c2
    have n00 : N2 0 0 = Z := iv2.pw.1
    have f11 : drow M2 8 (pack Ad2) 0 11 = S1 0 3 := by rw [drow_o _ _ (by omega), me.2 11 (by omega) (by omega), tdf 11 (by omega) (by omega) (by omega) (by omega) (by omega), y3]; exact t11
    have m3r : ∀ r, r ≠ 0 → r ≠ 3 → r ≠ 8 → r ≠ 10 → r ≠ 13 → dup (dup (drow M2 8 (pack Ad2)) 0 21 0) 0 22 0 r = M' r := fun r h0 h3 h8 h10 h13 => by rw [dup_o _ _ _ h0, dup_o _ _ _ h0, drow_o _ _ h8, me.1 r h0 h10 h13, tdM_o _ h0 h3]
    have m33 : dup (dup (drow M2 8 (pack Ad2)) 0 21 0) 0 22 0 3 = ruM M' := by rw [dup_o _ _ _ (by omega), dup_o _ _ _ (by omega), drow_o _ _ (by omega), me.1 3 (by omega) (by omega) (by omega), tdM_3]
    have m38 : dup (dup (drow M2 8 (pack Ad2)) 0 21 0) 0 22 0 8 = pack Ad2 := by rw [dup_o _ _ _ (by omega), dup_o _ _ _ (by omega), drow_t]
    have m3f : ∀ j, j ≠ 21 → j ≠ 22 → j ≠ 27 → j ≠ 28 → dup (dup (drow M2 8 (pack Ad2)) 0 21 0) 0 22 0 0 j = tdM M' 0 j := fun j h1 h2 h3 h4 => by rw [dup_t, va_up_ne _ _ h2, dup_t, va_up_ne _ _ h1, drow_o _ _ (by omega), me.2 j h3 h4]
    have m321 : dup (dup (drow M2 8 (pack Ad2)) 0 21 0) 0 22 0 0 21 = 0 := by rw [dup_t, va_up_ne _ _ (by omega), dup_t, va_up_self]
    have m322 : dup (dup (drow M2 8 (pack Ad2)) 0 21 0) 0 22 0 0 22 = 0 := by rw [dup_t, va_up_self]
    have rz := mv_r3 (m := mo) (M := dup (dup (drow M2 8 (pack Ad2)) 0 21 0) 0 22 0) (h := g) (j := 0) (by omega) (by omega)
    rw [m33, show (0 : Int).toNat = 0 from rfl, ruE 0 (by omega), q0 0 (by omega), hZ] at rz
    refine ⟨Z, N2, P2, K, T, S1, dup (dup (drow M2 8 (pack Ad2)) 0 21 0) 0 22 0, m, A, h, HD, ?_, ?_, ?_, hs, FR_refl lo m h⟩
    · have rn := zN_r0 (x := x) (N := N2) (P := P2) (K := K) (T := T) (S := S1) (m := m) (A := A) (h := h) (j := 0) (by omega) (by omega)
      rw [show (0 : Int).toNat = 0 from rfl, n00] at rn
      have c : am_cI 103 [am_R x] (zv x N P K T S m A h) = some ((Z : Int), zv x N2 P2 K T S1 m A h) := by
        rw [pre, c1', bk_103_49]
        simp only [zv_f0_1, zv_f3_3, Int.le_refl, bk_103_96, zv_f0_4, zN_f0, rn, Option.bind_some, Bool.cond_decide, am_oI_some, am_oV_some, am_oI_ite, am_oV_ite, am_bind_ite, Int.toNat_natCast, Int.toNat_zero, Int.reduceToNat, ite_true, ite_false, not_true_eq_false, not_false_eq_true, decide_true, decide_false, decide_eq_true_eq, Bool.false_eq_true, Nat.add_zero, am_rok1_0, am_rok1_1, cond_true, cond_false, am_w_nat1, true_or, or_true, false_or, or_false, true_and, and_true, false_and, and_false, Int.reduceEq, Int.reduceNeg, Int.reduceLT, Int.reduceLE, or_self, and_self]
      rw [am_cI]; simp only [en_106, bk_106_0, bk_106_9, bk_106_21, bk_106_22, zv_c0, c, Option.bind_some, Bool.cond_decide, am_oI_some, am_oV_some, am_oI_ite, am_oV_ite, am_bind_ite, Int.toNat_natCast, Int.toNat_zero, Int.reduceToNat, ite_true, ite_false, not_true_eq_false, not_false_eq_true, decide_true, decide_false, decide_eq_true_eq, Bool.false_eq_true, Nat.add_zero, am_rok1_0, am_rok1_1, cond_true, cond_false, am_w_nat1, true_or, or_true, false_or, or_false, true_and, and_true, false_and, and_false, Int.reduceEq, Int.reduceNeg, Int.reduceLT, Int.reduceLE, or_self, and_self]
    · rw [am_cI, en_136, bk_136_0]
      simp only [bk_136_28, mv_p0_0, d1, mv_c0, fm, tm1, tm2, c2', Int.one_ne_zero, Int.reduceEq, Option.bind_some, Bool.cond_decide, am_oI_some, am_oV_some, am_oI_ite, am_oV_ite, am_bind_ite, Int.toNat_natCast, Int.toNat_zero, Int.reduceToNat, ite_true, ite_false, not_true_eq_false, not_false_eq_true, decide_true, decide_false, decide_eq_true_eq, Bool.false_eq_true, Nat.add_zero, am_rok1_0, am_rok1_1, cond_true, cond_false, am_w_nat1, true_or, or_true, false_or, or_false, true_and, and_true, false_and, and_false, Int.reduceEq, Int.reduceNeg, Int.reduceLT, Int.reduceLE, or_self, and_self]
      rw [bk_136_244]
      simp only [mv_f0_11, f11, Int.le_refl, bk_136_285, mv_p0_21, mv_p0_22, mv_f0_6, rz, Option.bind_some, Bool.cond_decide, am_oI_some, am_oV_some, am_oI_ite, am_oV_ite, am_bind_ite, Int.toNat_natCast, Int.toNat_zero, Int.reduceToNat, ite_true, ite_false, not_true_eq_false, not_false_eq_true, decide_true, decide_false, decide_eq_true_eq, Bool.false_eq_true, Nat.add_zero, am_rok1_0, am_rok1_1, cond_true, cond_false, am_w_nat1, true_or, or_true, false_or, or_false, true_and, and_true, false_and, and_false, Int.reduceEq, Int.reduceNeg, Int.reduceLT, Int.reduceLE, or_self, and_self]
    · clear c1 c1' c2 c2' pre rz tm1 tm2 fm r1 r2 d1 fg zb
      have hfx : ∀ j, j ≠ 2 → j ≠ 14 → j ≠ 21 → j ≠ 22 → j ≠ 23 → j ≠ 24 → j ≠ 25 → j ≠ 27 → j ≠ 28 → dup (dup (drow M2 8 (pack Ad2)) 0 21 0) 0 22 0 0 j = M' 0 j := fun j a b c d e f i k l => by rw [m3f j c d k l, tdf j a b e f i]
      have f2 := (m3f 2 (by omega) (by omega) (by omega) (by omega)).trans td2
      have f14 := (m3f 14 (by omega) (by omega) (by omega) (by omega)).trans td14
      have f23 := (m3f 23 (by omega) (by omega) (by omega) (by omega)).trans us23
      have f24 := (m3f 24 (by omega) (by omega) (by omega) (by omega)).trans us24
      have f25 := (m3f 25 (by omega) (by omega) (by omega) (by omega)).trans us25
      generalize dup (dup (drow M2 8 (pack Ad2)) 0 21 0) 0 22 0 = M3 at m3r m33 m38 m3f m321 m322 hfx f2 f14 f23 f24 f25 ⊢
      obtain ⟨a, b, c, d, e⟩ := wr1
      refine ⟨?_, ?_, ?_, ?_, Or.inr ⟨Z, ?_⟩⟩
      · unfold WT
        rw [z2, f2]
        exact ⟨⟨by omega, by omega, rfl⟩, fun i hi => absurd hi (by omega)⟩
      · obtain ⟨⟨b1, b2, b3⟩, b4⟩ := b
        have y0 := z0 0 (by omega) (by omega) (by omega) (by omega)
        refine ⟨⟨by omega, by omega, by rw [hfx 12 (by omega) (by omega) (by omega) (by omega) (by omega) (by omega) (by omega) (by omega) (by omega), y0]; exact b3⟩, fun t ht => ?_⟩
        rw [y0] at ht
        have hb4 := b4 t ht
        rw [z0 (17 + t) (by omega) (by omega) (by omega) (by omega), m3r 6 (by omega) (by omega) (by omega) (by omega) (by omega), m3r 5 (by omega) (by omega) (by omega) (by omega) (by omega), z1 (10 + 3 * t) (by omega), z1 (11 + 3 * t) (by omega), z1 (12 + 3 * t) (by omega)]
        exact hb4
      · intro j hj
        rw [m3r 7 (by omega) (by omega) (by omega) (by omega) (by omega), z1 9 (by omega)]
        exact c j hj
      · unfold WH at d ⊢
        rw [z14, z15, z11, m321, m322, hfx 20 (by omega) (by omega) (by omega) (by omega) (by omega) (by omega) (by omega) (by omega) (by omega)]
        exact ⟨⟨by omega, by omega⟩, ⟨by omega, by omega, rfl⟩, d.2.2.1, Or.inr ⟨rfl, by omega⟩, Or.inl rfl, rfl⟩
      · have eN : N2 0 = bgn N (S' 2) 0 := e02
        refine ⟨f14, ⟨fun j hj => ?_, ?_, ?_, ?_, ?_⟩, ⟨Ad2, iv2, rl2, fun j _ => by rw [m38], fun j _ => rfl, bd2.mono (by omega), nd2⟩, fun q => absurd q (by omega), fun i hi => absurd hi (by omega)⟩
        · rw [m33, eN]; exact ruE j (by omega)
        · rw [f23, eN]
        · rw [f24, eN]
        · rw [f25, eN]
        · rw [eN, q02, q0 3 (by omega)]; exact hmin.1
  · refine ⟨-1, N, P, K, T, S', M', m, A, h, HD, ?_, ?_, WR_mono wr1 (by omega), hs, FR_refl lo m h⟩
    · have c : am_cI 103 [am_R x] (zv x N P K T S m A h) = some (-1, zv x N P K T S' m A h) := by
        rw [am_cI]; simp only [en_103, bk_103_0, zv_f0_1, zv_c3, r1, ev, Option.bind_some, Bool.cond_decide, am_oI_some, am_oV_some, am_oI_ite, am_oV_ite, am_bind_ite, Int.toNat_natCast, Int.toNat_zero, Int.reduceToNat, ite_true, ite_false, not_true_eq_false, not_false_eq_true, decide_true, decide_false, decide_eq_true_eq, Bool.false_eq_true, Nat.add_zero, am_rok1_0, am_rok1_1, cond_true, cond_false, am_w_nat1, true_or, or_true, false_or, or_false, true_and, and_true, false_and, and_false, Int.reduceEq, Int.reduceNeg, Int.reduceLT, Int.reduceLE, or_self, and_self]
      rw [am_cI]; simp only [en_106, bk_106_0, bk_106_9, bk_106_21, bk_106_22, zv_c0, c, Option.bind_some, Bool.cond_decide, am_oI_some, am_oV_some, am_oI_ite, am_oV_ite, am_bind_ite, Int.toNat_natCast, Int.toNat_zero, Int.reduceToNat, ite_true, ite_false, not_true_eq_false, not_false_eq_true, decide_true, decide_false, decide_eq_true_eq, Bool.false_eq_true, Nat.add_zero, am_rok1_0, am_rok1_1, cond_true, cond_false, am_w_nat1, true_or, or_true, false_or, or_false, true_and, and_true, false_and, and_false, Int.reduceEq, Int.reduceNeg, Int.reduceLT, Int.reduceLE, or_self, and_self]
    · rw [am_cI]; simp only [en_136, bk_136_0, bk_136_28, bk_136_37, mv_p0_0, d1, mv_c0, fm, ev, Int.one_ne_zero, Int.reduceEq, Option.bind_some, Bool.cond_decide, am_oI_some, am_oV_some, am_oI_ite, am_oV_ite, am_bind_ite, Int.toNat_natCast, Int.toNat_zero, Int.reduceToNat, ite_true, ite_false, not_true_eq_false, not_false_eq_true, decide_true, decide_false, decide_eq_true_eq, Bool.false_eq_true, Nat.add_zero, am_rok1_0, am_rok1_1, cond_true, cond_false, am_w_nat1, true_or, or_true, false_or, or_false, true_and, and_true, false_and, and_false, Int.reduceEq, Int.reduceNeg, Int.reduceLT, Int.reduceLE, or_self, and_self]
theorem cl_text (w : WR n m N K S HD M) (hs : HS lo m A HD h) (b : Int) : CL 106 136 [am_I b] x mo lo (n + 120000) m A N P K T S M h g := by
  by_cases e0 : b = 0
  · subst e0; exact cl_text0 w hs
  · by_cases e1 : b = 1
    · subst e1
      obtain ⟨v, N', P', K', T', S', M', m', A', h', HD', c1, c2, w', hs', fr⟩ := cl_text1 (x := x) (mo := mo) (lo := lo) (P := P) (T := T) (g := g) w hs
      exact ⟨v, N', P', K', T', S', M', m', A', h', HD', c1, c2, WR_mono w' (by omega), hs', fr⟩
    · have d1 := m_isIn b 0 1 (mv mo (dup M 0 0 0) g)
      rw [if_neg (by omega)] at d1
      refine ⟨-1, N, P, K, T, S, dup M 0 0 0, m, A, h, HD, ?_, ?_, WR_mono (WR_tp w (SF_refl S) (MX_f M (by omega) 0) (WT_0 w.1)) (by omega), hs, FR_refl lo m h⟩
      · rw [am_cI]; simp only [en_106, bk_106_0, bk_106_9, bk_106_21, bk_106_22, e0, e1, Option.bind_some, Bool.cond_decide, am_oI_some, am_oV_some, am_oI_ite, am_oV_ite, am_bind_ite, Int.toNat_natCast, Int.toNat_zero, Int.reduceToNat, ite_true, ite_false, not_true_eq_false, not_false_eq_true, decide_true, decide_false, decide_eq_true_eq, Bool.false_eq_true, Nat.add_zero, am_rok1_0, am_rok1_1, cond_true, cond_false, am_w_nat1, true_or, or_true, false_or, or_false, true_and, and_true, false_and, and_false, Int.reduceEq, Int.reduceNeg, Int.reduceLT, Int.reduceLE, or_self, and_self]
      · rw [am_cI]; simp only [en_136, bk_136_0, bk_136_37, mv_p0_0, d1, Option.bind_some, Bool.cond_decide, am_oI_some, am_oV_some, am_oI_ite, am_oV_ite, am_bind_ite, Int.toNat_natCast, Int.toNat_zero, Int.reduceToNat, ite_true, ite_false, not_true_eq_false, not_false_eq_true, decide_true, decide_false, decide_eq_true_eq, Bool.false_eq_true, Nat.add_zero, am_rok1_0, am_rok1_1, cond_true, cond_false, am_w_nat1, true_or, or_true, false_or, or_false, true_and, and_true, false_and, and_false, Int.reduceEq, Int.reduceNeg, Int.reduceLT, Int.reduceLE, or_self, and_self]
end TXW
