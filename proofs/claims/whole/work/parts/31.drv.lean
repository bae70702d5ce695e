theorem c_hasZone (d : Nat) (D : Nat → Nat → Int) (h : am_H) (z : Int) : am_cI 64 [am_R d, am_I z] (dv d D h) = some (if 0 ≤ z ∧ z < D 0 0 then 1 else 0, dv d D h) := by
  unfold am_cI
  simp (disch := omega) only [en_64, bk_64_0]
  simp (disch := omega) only [dv_f0, dv_f1, dv_f2, dv_f3, dv_f4, dv_f5, dv_f6, dv_f7, dv_f8, dv_f9, dv_f10, dv_f11, dv_f12, dv_f13, dv_g0, dv_g1, dv_g2, dv_i0, dv_i1, dv_p0, dv_p1, dv_isc, dv_iscL, dv_r0, dv_r1, dv_r2, dv_r3, dv_r4, dv_r5, dv_r6, dv_r7, dv_r8, dv_r9, dv_r10, dv_r11, dv_r12, dv_r13, dv_r14, dv_r15, Option.bind_some, Bool.cond_decide, am_oI_some, am_oV_some, am_rok_0, am_rok_1, Int.toNat_natCast, Int.toNat_zero, Int.reduceToNat]
  sorry
theorem c_countOf (d : Nat) (D : Nat → Nat → Int) (h : am_H) (x : Int) (Z : Nat) (hZ : D 0 0 = Z) (hZ8 : Z ≤ 8) : am_cI 74 [am_R d, am_I x] (dv d D h) = some ((sp_cnt (D 2) x Z : Int), dv d D h) := by
  have step : ∀ z, z < Z → am_run am_ms 74 4 [am_R d, am_I x, am_I (sp_cnt (D 2) x z), am_I z] [] (dv d D h) = am_run am_ms 74 4 [am_R d, am_I x, am_I (sp_cnt (D 2) x (z + 1)), am_I ((z + 1 : Nat) : Int)] [] (dv d D h) := by
    intro z hz
    have hb := sp_cnt_le (D 2) x z
    simp (disch := omega) only [bk_74_4]
    simp (disch := omega) only [dv_f0, dv_f1, dv_f2, dv_f3, dv_f4, dv_f5, dv_f6, dv_f7, dv_f8, dv_f9, dv_f10, dv_f11, dv_f12, dv_f13, dv_g0, dv_g1, dv_g2, dv_i0, dv_i1, dv_p0, dv_p1, dv_isc, dv_iscL, dv_r0, dv_r1, dv_r2, dv_r3, dv_r4, dv_r5, dv_r6, dv_r7, dv_r8, dv_r9, dv_r10, dv_r11, dv_r12, dv_r13, dv_r14, dv_r15, Option.bind_some, Bool.cond_decide, am_oI_some, am_oV_some, am_rok_0, am_rok_1, Int.toNat_natCast, Int.toNat_zero, Int.reduceToNat, hZ]
    sorry
  sorry
