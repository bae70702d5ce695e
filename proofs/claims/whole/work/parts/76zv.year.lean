/-! ===== years ===== -/
section YEAR
variable {x mo lo n m Z : Nat} {A : Nat → Nat} {N P K T S M : Nat → Nat → Int} {HD : Nat → Nat → Nat → Int} {h g : am_H}
theorem y_below2 {b : Int} (hb : 0 < b) (v : Int) : am_cI 201 [am_R (x + 89), am_I b] (zv x N P K T (dup S 0 16 v) m A h) = some (drw (dnx v) b, zv x N P K T (dup S 0 16 (dnx v)) m A h) := by
  have c := y_below (x := x) (N := N) (P := P) (K := K) (T := T) (S := dup S 0 16 v) (m := m) (A := A) (h := h) hb
  rw [dup_dup, dup_t, va_up_self] at c
  exact c
theorem m_draw2 {b : Int} (hb : 0 < b) (v : Int) : am_cI 204 [am_R mo, am_I b] (mv mo (dup M 0 29 v) g) = some (drw (dnx v) b, mv mo (dup M 0 29 (dnx v)) g) := by
  have c := m_draw (mo := mo) (M := dup M 0 29 v) (g := g) hb
  rw [dup_dup, dup_t, va_up_self] at c
  exact c
theorem MK_x (M : Nat → Nat → Int) (v : Int) : MK M (dup M 0 29 v) := MK_f M (by omega) v
theorem year_loop (hlo : x + 107 ≤ lo) {q : Nat} (hq : q ≤ 40) (sd : Int) : ∀ (r j n m : Nat) (A : Nat → Nat) (N P S M : Nat → Nat → Int) (HD : Nat → Nat → Nat → Int) (h : am_H), r + j = q → WR n m N K S HD M → HS lo m A HD h → 0 < N 0 0 → M 0 29 = S 0 16 → n + 3000 * r < 2147483647 → ∃ (v : Int) (N' P' S' M' : Nat → Nat → Int) (m' : Nat) (A' : Nat → Nat) (h' : am_H) (HD' : Nat → Nat → Nat → Int), am_run am_ms 203 31 [am_R x, am_I q, am_L sd, am_K 1, am_I j] [] (zv x N P K T S m A h) = some (some (am_I v), zv x N' P' K T S' m' A' h') ∧ am_run am_ms 206 34 [am_R mo, am_I q, am_L sd, am_K 1, am_I j] [] (mv mo M g) = some (some (am_I v), mv mo M' g) ∧ WR (n + 3000 * r) m' N' K S' HD' M' ∧ HS lo m' A' HD' h' ∧ FR lo m m' h h' := by
  intro r
  induction r with
  | zero =>
    intro j n m A N P S M HD h hj w hs hN hsd hn
    rcases w.2.2.2.2 with w0 | ⟨Z, wd⟩
    · exact absurd w0.2.1.1 (by omega)
    · obtain ⟨w14, ru, ⟨Ad, iv, rl, pk8, _, bd, nd⟩, _, _⟩ := wd
      have r4 := mr1_4 (m := mo) (M := M) (A := Ad) (h := g) (c := 8) (by omega)
      rw [← mv_pk (by omega) pk8, rl.2.1.1] at r4
      refine ⟨N 1 4, N, P, S, M, m, A, h, HD, ?_, ?_, WR_mono w (by omega), hs, FR_refl lo m h⟩
      · rw [bk_203_31]; simp (disch := omega) only [bk_203_77, zv_c0, zv_f0_0, zv_f0_1, zv_f0_2, zv_f0_3, zv_f0_4, zv_f0_5, zv_f0_6, zv_f0_7, zv_f0_8, zv_f0_9, zv_f0_10, zv_f0_11, zv_c1, zv_f1_0, zv_f1_1, zv_c3, zv_f3_0, zv_f3_1, zv_f3_2, zv_f3_3, zv_f3_4, zv_f3_5, zv_f3_6, zv_f3_7, zv_f3_8, zv_f3_9, zv_c7, zv_f7_0, zv_f7_1, zv_f7_2, zv_f7_3, zv_c67, zv_f67_0, zv_f67_1, zv_f67_2, zv_f67_3, zv_f67_4, zv_f67_5, zv_f67_6, zv_f67_7, zv_c86, zv_f86_0, zv_c87, zv_f87_0, zv_f87_1, zv_f87_2, zv_c89, zv_f89_0, zv_c91, zv_f91_0, zv_f91_1, zv_f91_2, zv_f91_3, zv_c95, zv_f95_0, zv_f95_1, zv_f95_2, zv_f95_3, zv_c99, zv_f99_0, zv_f99_1, zv_f99_2, zv_f99_3, zv_c103, zv_f103_0, zv_f103_1, zv_f103_2, zv_f103_3, zv_r1, zv_r2, zv_r3, zv_r4, zv_r5, zv_r6, zv_r7, zv_r8, zv_r9, zv_r10, zv_r11, zv_r12, zv_r13, zv_r14, zv_r15, zv_r16, zv_r17, zv_r18, zv_r19, zv_r20, zv_r21, zv_l1, zv_l2, zv_l3, zv_l4, zv_l5, zv_l6, zv_l7, zv_l8, zv_l9, zv_l10, zv_l11, zv_l12, zv_l13, zv_l14, zv_l15, zv_l16, zv_l17, zv_l18, zv_l19, zv_l20, zv_l21, zv_p0_3, zv_p0_7, zv_p1_1, zv_w1, zv_p3_3, zv_p3_7, zv_p3_8, zv_p3_9, zv_w2, zv_w3, zv_w4, zv_p7_3, zv_w5, zv_w6, zv_w7, zv_w8, zv_p67_3, zv_p67_4, zv_p67_5, zv_p67_6, zv_p67_7, zv_p86_0, zv_p87_1, zv_p87_2, zv_p89_0, zv_w9, zv_p91_3, zv_w10, zv_w11, zv_w12, zv_p95_3, zv_w13, zv_w14, zv_w15, zv_p99_3, zv_w16, zv_w17, zv_w18, zv_p103_3, zv_w19, zv_w20, zv_w21, zN_c, zN_cL, zN_f0, zN_f1, zN_f2, zN_f3, zN_f4, zN_f5, zN_f6, zN_f7, zN_f8, zN_f9, zN_f10, zN_f11, zN_f12, zN_f13, zN_i1, zN_r0, zN_r1, zN_r2, zN_r3, zN_r4, zN_r5, zN_r6, zN_r7, zN_r8, zN_r9, zN_r10, zN_r11, zN_r12, zN_w0, zP_c, zK_c, zT_c, zT_cL, zT_f0, zT_f1, zT_f2, zT_f3, zT_f4, zT_f5, zT_f6, zT_f7, zT_f8, zT_f9, zT_f10, zT_f11, zT_f12, zT_f13, zT_i1, zT_r0, zT_r1, zT_r2, zT_r3, zT_r4, zT_r5, zT_r6, zT_r7, zT_r8, zT_r9, zT_r10, zT_r11, zT_r12, zT_w0, dup_t, dup_o, va_up_self, va_up_ne, drow_t, drow_o, Option.bind_some, Bool.cond_decide, am_oI_some, am_oV_some, am_oI_ite, am_oV_ite, am_bind_ite, Int.toNat_natCast, Int.toNat_zero, Int.reduceToNat, ite_true, ite_false, not_true_eq_false, not_false_eq_true, decide_true, decide_false, decide_eq_true_eq, Bool.false_eq_true, Nat.add_zero, am_rok1_0, am_rok1_1, cond_true, cond_false, am_w_nat1, true_or, or_true, false_or, or_false, true_and, and_true, false_and, and_false, Int.reduceEq, Int.reduceNeg, Int.reduceLT, Int.reduceLE, or_self, and_self, if_pos, if_neg]
      · rw [bk_206_34]; simp (disch := omega) only [bk_206_50, mv_f0_15, r4, Option.bind_some, Bool.cond_decide, am_oI_some, am_oV_some, am_oI_ite, am_oV_ite, am_bind_ite, Int.toNat_natCast, Int.toNat_zero, Int.reduceToNat, ite_true, ite_false, not_true_eq_false, not_false_eq_true, decide_true, decide_false, decide_eq_true_eq, Bool.false_eq_true, Nat.add_zero, am_rok1_0, am_rok1_1, cond_true, cond_false, am_w_nat1, true_or, or_true, false_or, or_false, true_and, and_true, false_and, and_false, Int.reduceEq, Int.reduceNeg, Int.reduceLT, Int.reduceLE, or_self, and_self, if_pos, if_neg]
  | succ r ih =>
    intro j n m A N P S M HD h hj w hs hN hsd hn
    rw [k30] at hn ⊢
    have hn3 : n + 3000 < 2147483647 := Nat.lt_of_le_of_lt (Nat.add_le_add_left (Nat.le_add_left 3000 (3000 * r)) n) hn
    have d := w.2.2.2.1
    have h15 : 0 ≤ S 0 15 ∧ S 0 15 ≤ 40 := ⟨d.2.1.1, d.2.1.2.1⟩
    rcases w.2.2.2.2 with w0 | ⟨Z, wd⟩
    · exact absurd w0.2.1.1 (by omega)
    · obtain ⟨m1, A1, h1, c1, hs1, fr, hsl, hm1⟩ := h_prepare (x := x) (N := N) (P := P) (K := K) (T := T) hlo hs d.1 h15 (hm_of d)
      obtain ⟨w14, ru, ⟨Ad, iv, rl, pk8, _, bd, nd⟩, _, _⟩ := wd
      have hZN : N 0 0 = Z := iv.pw.1
      have c2 := y_below (x := x) (N := N) (P := P) (K := K) (T := T) (S := S) (m := m1) (A := A1) (h := h1) (b := 8) (by omega)
      have e2 := m_draw (mo := mo) (M := M) (g := g) (b := 8) (by omega)
      rw [hsd] at e2
      have hk := drw_r (dnx (S 0 16)) (b := 8) (by omega) (by omega)
      generalize dnx (S 0 16) = s1 at c2 e2 hk
      generalize drw s1 8 = kd at c2 e2 hk
      have fin : ∀ (what a b b' : Int) (S2 M2 P2 : Nat → Nat → Int), (0 ≤ what ∧ what ≤ 8) → (what = 0 → 0 ≤ b ∧ b ≤ 999) → (what = 1 → b = -1) → (what = 0 → b' = b) → SK S S2 → MK M M2 → M2 0 29 = S2 0 16 → am_cI 202 [am_R x, am_I kd] (zv x N P K T (dup S 0 16 s1) m1 A1 h1) = some (ac_v N Z what a b, zv x (ac_D N Z what a b) P2 K T S2 m1 A1 h1) → (∀ why M', am_cI 170 [am_R mo, am_I what, am_I a, am_I b'] (mv mo M2 g) = some (why, mv mo M' g) → am_cV 205 [am_R mo] (mv mo M g) = some (mv mo M' g)) → ∃ (v : Int) (N' P' S' M' : Nat → Nat → Int) (m' : Nat) (A' : Nat → Nat) (h' : am_H) (HD' : Nat → Nat → Nat → Int), am_run am_ms 203 31 [am_R x, am_I q, am_L sd, am_K 1, am_I j] [] (zv x N P K T S m A h) = some (some (am_I v), zv x N' P' K T S' m' A' h') ∧ am_run am_ms 206 34 [am_R mo, am_I q, am_L sd, am_K 1, am_I j] [] (mv mo M g) = some (some (am_I v), mv mo M' g) ∧ WR (n + (3000 * r + 3000)) m' N' K S' HD' M' ∧ HS lo m' A' HD' h' ∧ FR lo m m' h h' := by
        intro what a b b' S2 M2 P2 hw hb0 hb1 hbb sk mk hsd2 ca hm
        have w2 := WR_SK (WR_MK w mk) sk
        have d2 := w2.2.2.2.1
        have h152 : 0 ≤ S2 0 15 ∧ S2 0 15 ≤ 40 := ⟨d2.2.1.1, d2.2.1.2.1⟩
        have eh : hslot S2 (S2 0 15) = hslot S (S 0 15) := by unfold hslot; rw [sk.2 14 (by omega), sk.2 15 (by omega)]
        rcases w2.2.2.2.2 with w0 | ⟨Z2, wd2⟩
        · exact absurd w0.2.1.1 (by omega)
        · have eZ : Z2 = Z := by
            obtain ⟨_, iv2, _⟩ := wd2.2.2.1
            have := iv2.pw.1
            omega
          rw [eZ] at wd2
          obtain ⟨why, S', M', t, e29, w', hcase⟩ := nw_act (mo := mo) (g := g) w2 wd2 hn3 (m' := m1) ⟨fr.2.2, hs1.1, by rw [eh]; exact hsl⟩ (what := what) (a := a) (b := b) (b' := b') hw hb0 hb1 hbb
          have hp := hm why M' t
          rw [eh] at w'
          have hN' : 0 < ac_D N Z what a b 0 0 := by rw [ac_0 iv _ _ _ (by omega)]; exact hN
          generalize ac_D N Z what a b = E at ca w' hN'
          generalize ac_v N Z what a b = v at ca hcase
          have hsd3 : M' 0 29 = S2 0 16 := e29.trans hsd2
          rcases hcase with ⟨hv, ey, eS⟩ | ⟨hv, ey, eS⟩
          · have c3 := h_commit (x := x) (N := E) (P := P2) (K := K) (T := T) (S := S2) (m := m1) (A := A1) (h := h1) d2.1 h152
            rw [eS] at w'
            obtain ⟨u, N3, P3, S3, M3, m3, A3, h3, HD3, k1, k2, w3, hs3, fr3⟩ := ih (j + 1) (n + 3000) m1 A1 E P2 (hcm S2) M' _ h1 (by omega) w' hs1 hN' (by rw [hcm_0 _ (by omega) (by omega)]; exact hsd3) (by omega)
            refine ⟨u, N3, P3, S3, M3, m3, A3, h3, HD3, ?_, ?_, WR_mono w3 (by omega), hs3, FR_trans fr fr3⟩
            · rw [bk_203_31]; simp (disch := omega) only [bk_203_61, bk_203_71, zv_c0, zv_f0_4, zv_f0_9, zv_f0_10, zv_c87, zv_c89, c1, c2, ca, c3, k1, Option.bind_some, Bool.cond_decide, am_oI_some, am_oV_some, am_oI_ite, am_oV_ite, am_bind_ite, Int.toNat_natCast, Int.toNat_zero, Int.reduceToNat, ite_true, ite_false, not_true_eq_false, not_false_eq_true, decide_true, decide_false, decide_eq_true_eq, Bool.false_eq_true, Nat.add_zero, am_rok1_0, am_rok1_1, cond_true, cond_false, am_w_nat1, true_or, or_true, false_or, or_false, true_and, and_true, false_and, and_false, Int.reduceEq, Int.reduceNeg, Int.reduceLT, Int.reduceLE, or_self, and_self, if_pos, if_neg]
            · rw [bk_206_34]; simp (disch := omega) only [mv_c0, hp, k2, Option.bind_some, Bool.cond_decide, am_oI_some, am_oV_some, am_oI_ite, am_oV_ite, am_bind_ite, Int.toNat_natCast, Int.toNat_zero, Int.reduceToNat, ite_true, ite_false, not_true_eq_false, not_false_eq_true, decide_true, decide_false, decide_eq_true_eq, Bool.false_eq_true, Nat.add_zero, am_rok1_0, am_rok1_1, cond_true, cond_false, am_w_nat1, true_or, or_true, false_or, or_false, true_and, and_true, false_and, and_false, Int.reduceEq, Int.reduceNeg, Int.reduceLT, Int.reduceLE, or_self, and_self, if_pos, if_neg]
          · rw [eS] at w'
            obtain ⟨u, N3, P3, S3, M3, m3, A3, h3, HD3, k1, k2, w3, hs3, fr3⟩ := ih (j + 1) (n + 3000) m1 A1 E P2 S2 M' _ h1 (by omega) w' hs1 hN' hsd3 (by omega)
            refine ⟨u, N3, P3, S3, M3, m3, A3, h3, HD3, ?_, ?_, WR_mono w3 (by omega), hs3, FR_trans fr fr3⟩
            · rw [bk_203_31]; simp (disch := omega) only [bk_203_61, bk_203_71, zv_c0, zv_f0_4, zv_f0_9, zv_f0_10, zv_c87, zv_c89, c1, c2, ca, k1, Option.bind_some, Bool.cond_decide, am_oI_some, am_oV_some, am_oI_ite, am_oV_ite, am_bind_ite, Int.toNat_natCast, Int.toNat_zero, Int.reduceToNat, ite_true, ite_false, not_true_eq_false, not_false_eq_true, decide_true, decide_false, decide_eq_true_eq, Bool.false_eq_true, Nat.add_zero, am_rok1_0, am_rok1_1, cond_true, cond_false, am_w_nat1, true_or, or_true, false_or, or_false, true_and, and_true, false_and, and_false, Int.reduceEq, Int.reduceNeg, Int.reduceLT, Int.reduceLE, or_self, and_self, if_pos, if_neg]
            · rw [bk_206_34]; simp (disch := omega) only [mv_c0, hp, k2, Option.bind_some, Bool.cond_decide, am_oI_some, am_oV_some, am_oI_ite, am_oV_ite, am_bind_ite, Int.toNat_natCast, Int.toNat_zero, Int.reduceToNat, ite_true, ite_false, not_true_eq_false, not_false_eq_true, decide_true, decide_false, decide_eq_true_eq, Bool.false_eq_true, Nat.add_zero, am_rok1_0, am_rok1_1, cond_true, cond_false, am_w_nat1, true_or, or_true, false_or, or_false, true_and, and_true, false_and, and_false, Int.reduceEq, Int.reduceNeg, Int.reduceLT, Int.reduceLE, or_self, and_self, if_pos, if_neg]
      have sk1 : ∀ v, SK S (dup S 0 16 v) := fun v => SK_f S (by omega) v
      have sd1 : ∀ v, dup M 0 29 v 0 29 = dup S 0 16 v 0 16 := fun v => by rw [dup_t, va_up_self, dup_t, va_up_self]
      by_cases k5 : kd = 5
      · have c3 := y_below2 (x := x) (N := N) (P := P) (K := K) (T := T) (S := S) (m := m1) (A := A1) (h := h1) (b := 32) (by omega) s1
        have e3 := m_draw2 (mo := mo) (M := M) (g := g) (b := 32) (by omega) s1
        generalize drw (dnx s1) 32 = key at c3 e3
        generalize dnx s1 = s2 at c3 e3
        obtain ⟨P2, c4⟩ := zn_write (x := x) (N := N) (P := P) (K := K) (T := T) (S := dup S 0 16 s2) (m := m1) (A := A1) (h := h1) iv.1 key (-1) (fun _ => w_ok_all iv _)
        have c5 : am_cI 102 [am_R (x + 13), am_I key, am_I (-1), am_R (x + 31)] (zv x N P K T (dup S 0 16 s2) m1 A1 h1) = some (ac_v N Z 1 key (-1), zv x (ac_D N Z 1 key (-1)) P2 K T (dup S 0 16 s2) m1 A1 h1) := c4
        have et : am_tsw 1 81 5 7 #[27, 49, 57] kd = 28 := by rw [k5]; rfl
        refine fin 1 key (-1) 0 (dup S 0 16 s2) (dup M 0 29 s2) P2 (by omega) (fun q => by omega) (fun _ => rfl) (fun q => by omega) (sk1 s2) (MK_x M s2) (sd1 s2) ?_ (fun why M' t => ?_)
        · clear fin
          rw [am_cI]; simp (disch := omega) only [en_202, bk_202_0, bk_202_1, bk_202_28, zv_c0, zv_f0_4, zv_f0_5, zv_f0_10, zv_c89, zN_c, et, c3, c5, Option.bind_some, Bool.cond_decide, am_oI_some, am_oV_some, am_oI_ite, am_oV_ite, am_bind_ite, Int.toNat_natCast, Int.toNat_zero, Int.reduceToNat, ite_true, ite_false, not_true_eq_false, not_false_eq_true, decide_true, decide_false, decide_eq_true_eq, Bool.false_eq_true, Nat.add_zero, am_rok1_0, am_rok1_1, cond_true, cond_false, am_w_nat1, true_or, or_true, false_or, or_false, true_and, and_true, false_and, and_false, Int.reduceEq, Int.reduceNeg, Int.reduceLT, Int.reduceLE, or_self, and_self, if_pos, if_neg]
        · clear fin
          rw [am_cV]; simp (disch := omega) only [en_205, bk_205_0, bk_205_36, bk_205_92, mv_c0, e2, e3, t, Option.bind_some, Bool.cond_decide, am_oI_some, am_oV_some, am_oI_ite, am_oV_ite, am_bind_ite, Int.toNat_natCast, Int.toNat_zero, Int.reduceToNat, ite_true, ite_false, not_true_eq_false, not_false_eq_true, decide_true, decide_false, decide_eq_true_eq, Bool.false_eq_true, Nat.add_zero, am_rok1_0, am_rok1_1, cond_true, cond_false, am_w_nat1, true_or, or_true, false_or, or_false, true_and, and_true, false_and, and_false, Int.reduceEq, Int.reduceNeg, Int.reduceLT, Int.reduceLE, or_self, and_self, if_pos, if_neg]
      by_cases k6 : kd = 6
      · have c4 := d_cleanByHand (d := x + 13) (D := N) (h := zv x N P K T (dup S 0 16 s1) m1 A1 h1) iv.1
        rw [zv_dN, zv_dN] at c4
        have c5 : am_cI 176 [am_R (x + 13)] (zv x N P K T (dup S 0 16 s1) m1 A1 h1) = some (ac_v N Z 2 0 0, zv x (ac_D N Z 2 0 0) P K T (dup S 0 16 s1) m1 A1 h1) := c4
        have et : am_tsw 1 81 5 7 #[27, 49, 57] kd = 50 := by rw [k6]; rfl
        refine fin 2 0 0 0 (dup S 0 16 s1) (dup M 0 29 s1) P (by omega) (fun q => by omega) (fun q => by omega) (fun q => rfl) (sk1 s1) (MK_x M s1) (sd1 s1) ?_ (fun why M' t => ?_)
        · clear fin
          rw [am_cI]; simp (disch := omega) only [en_202, bk_202_0, bk_202_1, bk_202_50, zv_c0, zv_f0_4, zN_c, et, c5, Option.bind_some, Bool.cond_decide, am_oI_some, am_oV_some, am_oI_ite, am_oV_ite, am_bind_ite, Int.toNat_natCast, Int.toNat_zero, Int.reduceToNat, ite_true, ite_false, not_true_eq_false, not_false_eq_true, decide_true, decide_false, decide_eq_true_eq, Bool.false_eq_true, Nat.add_zero, am_rok1_0, am_rok1_1, cond_true, cond_false, am_w_nat1, true_or, or_true, false_or, or_false, true_and, and_true, false_and, and_false, Int.reduceEq, Int.reduceNeg, Int.reduceLT, Int.reduceLE, or_self, and_self, if_pos, if_neg]
        · clear fin
          rw [am_cV]; simp (disch := omega) only [en_205, bk_205_0, bk_205_36, bk_205_57, bk_205_92, mv_c0, e2, t, Option.bind_some, Bool.cond_decide, am_oI_some, am_oV_some, am_oI_ite, am_oV_ite, am_bind_ite, Int.toNat_natCast, Int.toNat_zero, Int.reduceToNat, ite_true, ite_false, not_true_eq_false, not_false_eq_true, decide_true, decide_false, decide_eq_true_eq, Bool.false_eq_true, Nat.add_zero, am_rok1_0, am_rok1_1, cond_true, cond_false, am_w_nat1, true_or, or_true, false_or, or_false, true_and, and_true, false_and, and_false, Int.reduceEq, Int.reduceNeg, Int.reduceLT, Int.reduceLE, or_self, and_self, if_pos, if_neg]
      by_cases k7 : kd = 7
      · have c3 := y_below2 (x := x) (N := N) (P := P) (K := K) (T := T) (S := S) (m := m1) (A := A1) (h := h1) (b := N 0 0) hN s1
        have e3 := m_draw2 (mo := mo) (M := M) (g := g) (b := N 0 0) hN s1
        have r3 := mv_r3 (m := mo) (M := dup M 0 29 s1) (h := g) (j := 0) (by omega) (by omega)
        rw [Int.toNat_zero, dup_o _ _ _ (show (3 : Nat) ≠ 0 by omega), ru.1 0 (by omega)] at r3
        generalize drw (dnx s1) (N 0 0) = key at c3 e3
        generalize dnx s1 = s2 at c3 e3
        have c4 := d_finishByHand (d := x + 13) (D := N) (h := zv x N P K T (dup S 0 16 s2) m1 A1 h1) iv.1 key
        rw [zv_dN, zv_dN] at c4
        have c5 : am_cI 191 [am_R (x + 13), am_I key] (zv x N P K T (dup S 0 16 s2) m1 A1 h1) = some (ac_v N Z 6 key 0, zv x (ac_D N Z 6 key 0) P K T (dup S 0 16 s2) m1 A1 h1) := c4
        have et : am_tsw 1 81 5 7 #[27, 49, 57] kd = 58 := by rw [k7]; rfl
        refine fin 6 key 0 0 (dup S 0 16 s2) (dup M 0 29 s2) P (by omega) (fun q => by omega) (fun q => by omega) (fun q => rfl) (sk1 s2) (MK_x M s2) (sd1 s2) ?_ (fun why M' t => ?_)
        · clear fin
          rw [am_cI]; simp (disch := omega) only [en_202, bk_202_0, bk_202_1, bk_202_58, zv_c0, zv_f0_4, zv_f0_10, zv_c89, zN_c, zN_f0, zN_r0, et, c3, c5, Option.bind_some, Bool.cond_decide, am_oI_some, am_oV_some, am_oI_ite, am_oV_ite, am_bind_ite, Int.toNat_natCast, Int.toNat_zero, Int.reduceToNat, ite_true, ite_false, not_true_eq_false, not_false_eq_true, decide_true, decide_false, decide_eq_true_eq, Bool.false_eq_true, Nat.add_zero, am_rok1_0, am_rok1_1, cond_true, cond_false, am_w_nat1, true_or, or_true, false_or, or_false, true_and, and_true, false_and, and_false, Int.reduceEq, Int.reduceNeg, Int.reduceLT, Int.reduceLE, or_self, and_self, if_pos, if_neg]
        · clear fin
          rw [am_cV]; simp (disch := omega) only [en_205, bk_205_0, bk_205_36, bk_205_57, bk_205_74, bk_205_92, mv_c0, mv_f0_6, r3, e2, e3, t, Option.bind_some, Bool.cond_decide, am_oI_some, am_oV_some, am_oI_ite, am_oV_ite, am_bind_ite, Int.toNat_natCast, Int.toNat_zero, Int.reduceToNat, ite_true, ite_false, not_true_eq_false, not_false_eq_true, decide_true, decide_false, decide_eq_true_eq, Bool.false_eq_true, Nat.add_zero, am_rok1_0, am_rok1_1, cond_true, cond_false, am_w_nat1, true_or, or_true, false_or, or_false, true_and, and_true, false_and, and_false, Int.reduceEq, Int.reduceNeg, Int.reduceLT, Int.reduceLE, or_self, and_self, if_pos, if_neg]
      have c3 := y_below2 (x := x) (N := N) (P := P) (K := K) (T := T) (S := S) (m := m1) (A := A1) (h := h1) (b := 32) (by omega) s1
      have e3 := m_draw2 (mo := mo) (M := M) (g := g) (b := 32) (by omega) s1
      generalize drw (dnx s1) 32 = key at c3 e3
      generalize dnx s1 = s2 at c3 e3
      have c6 := y_below2 (x := x) (N := N) (P := P) (K := K) (T := T) (S := S) (m := m1) (A := A1) (h := h1) (b := 1000) (by omega) s2
      have e6 := m_draw2 (mo := mo) (M := M) (g := g) (b := 1000) (by omega) s2
      have hval := drw_r (dnx s2) (b := 1000) (by omega) (by omega)
      generalize drw (dnx s2) 1000 = val at c6 e6 hval
      generalize dnx s2 = s3 at c6 e6
      obtain ⟨P2, c4⟩ := zn_write (x := x) (N := N) (P := P) (K := K) (T := T) (S := dup S 0 16 s3) (m := m1) (A := A1) (h := h1) iv.1 key val (fun _ => w_ok_all iv _)
      have c5 : am_cI 102 [am_R (x + 13), am_I key, am_I val, am_R (x + 31)] (zv x N P K T (dup S 0 16 s3) m1 A1 h1) = some (ac_v N Z 0 key val, zv x (ac_D N Z 0 key val) P2 K T (dup S 0 16 s3) m1 A1 h1) := c4
      have et : am_tsw 1 81 5 7 #[27, 49, 57] kd = 82 := by unfold am_tsw; rw [if_pos (by omega)]; rfl
      refine fin 0 key val val (dup S 0 16 s3) (dup M 0 29 s3) P2 (by omega) (fun q => by omega) (fun q => by omega) (fun q => rfl) (sk1 s3) (MK_x M s3) (sd1 s3) ?_ (fun why M' t => ?_)
      · clear fin
        rw [am_cI]; simp (disch := omega) only [en_202, bk_202_0, bk_202_1, bk_202_82, bk_202_111, zv_c0, zv_f0_4, zv_f0_5, zv_f0_10, zv_c89, zN_c, et, c3, c6, c5, Option.bind_some, Bool.cond_decide, am_oI_some, am_oV_some, am_oI_ite, am_oV_ite, am_bind_ite, Int.toNat_natCast, Int.toNat_zero, Int.reduceToNat, ite_true, ite_false, not_true_eq_false, not_false_eq_true, decide_true, decide_false, decide_eq_true_eq, Bool.false_eq_true, Nat.add_zero, am_rok1_0, am_rok1_1, cond_true, cond_false, am_w_nat1, true_or, or_true, false_or, or_false, true_and, and_true, false_and, and_false, Int.reduceEq, Int.reduceNeg, Int.reduceLT, Int.reduceLE, or_self, and_self, if_pos, if_neg]
      · clear fin
        rw [am_cV]; simp (disch := omega) only [en_205, bk_205_0, bk_205_22, bk_205_92, mv_c0, e2, e3, e6, t, Option.bind_some, Bool.cond_decide, am_oI_some, am_oV_some, am_oI_ite, am_oV_ite, am_bind_ite, Int.toNat_natCast, Int.toNat_zero, Int.reduceToNat, ite_true, ite_false, not_true_eq_false, not_false_eq_true, decide_true, decide_false, decide_eq_true_eq, Bool.false_eq_true, Nat.add_zero, am_rok1_0, am_rok1_1, cond_true, cond_false, am_w_nat1, true_or, or_true, false_or, or_false, true_and, and_true, false_and, and_false, Int.reduceEq, Int.reduceNeg, Int.reduceLT, Int.reduceLE, or_self, and_self, if_pos, if_neg]
theorem cl_years (hlo : x + 107 ≤ lo) (w : WR n m N K S HD M) (hs : HS lo m A HD h) (hn : n + 120000 < 2147483647) (a sd : Int) : CL 203 206 [am_I a, am_L sd] x mo lo (n + 120000) m A N P K T S M h g := by
  have c0 := c_isDrive (x := x) (N := N) (P := P) (K := K) (T := T) (S := S) (m := m) (A := A) h
  have mk0 := MK_f M (j := 0) (by omega) 0
  have d1 := m_isIn a 1 40 (mv mo (dup M 0 0 0) g)
  rcases w.2.2.2.2 with w0 | ⟨Z, wd⟩
  · have f14 : dup M 0 0 0 0 14 = 0 := by rw [dup_t, va_up_ne _ _ (by omega)]; exact w0.1
    rw [if_neg (by have := w0.2.1.1; omega)] at c0
    refine ⟨-1, N, P, K, T, S, dup M 0 0 0, m, A, h, HD, ?_, ?_, WR_mono (WR_MK w mk0) (by omega), hs, FR_refl lo m h⟩
    · rw [am_cI, en_203, bk_203_0]; simp (disch := omega) only [bk_203_18, zv_c0, c0, Option.bind_some, Bool.cond_decide, am_oI_some, am_oV_some, am_oI_ite, am_oV_ite, am_bind_ite, Int.toNat_natCast, Int.toNat_zero, Int.reduceToNat, ite_true, ite_false, not_true_eq_false, not_false_eq_true, decide_true, decide_false, decide_eq_true_eq, Bool.false_eq_true, Nat.add_zero, am_rok1_0, am_rok1_1, cond_true, cond_false, am_w_nat1, true_or, or_true, false_or, or_false, true_and, and_true, false_and, and_false, Int.reduceEq, Int.reduceNeg, Int.reduceLT, Int.reduceLE, or_self, and_self, if_pos, if_neg]
    · rw [am_cI, en_206, bk_206_0]; simp (disch := omega) only [bk_206_24, mv_p0_0, mv_c0, mv_f0_14, f14, Option.bind_some, Bool.cond_decide, am_oI_some, am_oV_some, am_oI_ite, am_oV_ite, am_bind_ite, Int.toNat_natCast, Int.toNat_zero, Int.reduceToNat, ite_true, ite_false, not_true_eq_false, not_false_eq_true, decide_true, decide_false, decide_eq_true_eq, Bool.false_eq_true, Nat.add_zero, am_rok1_0, am_rok1_1, cond_true, cond_false, am_w_nat1, true_or, or_true, false_or, or_false, true_and, and_true, false_and, and_false, Int.reduceEq, Int.reduceNeg, Int.reduceLT, Int.reduceLE, or_self, and_self, if_pos, if_neg]
  · obtain ⟨Ad, iv, rl, mr, pk, f14, f30, bd, nd, ru, p8⟩ := ctx2 mo wd
    have hN : 0 < N 0 0 := by have := iv.pw.1; have := iv.1.2.1; omega
    rw [if_pos hN] at c0
    by_cases e : 1 ≤ a ∧ a ≤ 40
    · rw [if_pos e] at d1
      obtain ⟨q, rfl⟩ : ∃ q : Nat, a = q := ⟨a.toNat, by omega⟩
      obtain ⟨u, N3, P3, S3, M3, m3, A3, h3, HD3, k1, k2, w3, hs3, fr3⟩ := year_loop (x := x) (mo := mo) (g := g) (K := K) (T := T) hlo (q := q) (by omega) sd q 0 n m A N P (dup S 0 16 sd) (dup (dup M 0 0 0) 0 29 sd) HD h (by omega) (WR_SK (WR_MK w (MK_trans mk0 (MK_x _ sd))) (SK_f S (by omega) sd)) hs hN (by rw [dup_t, va_up_self, dup_t, va_up_self]) (by omega)
      have k1' : am_run am_ms 203 31 [am_R x, am_I q, am_L sd, am_K 1, am_I 0] [] (zv x N P K T (dup S 0 16 sd) m A h) = some (some (am_I u), zv x N3 P3 K T S3 m3 A3 h3) := k1
      have k2' : am_run am_ms 206 34 [am_R mo, am_I q, am_L sd, am_K 1, am_I 0] [] (mv mo (dup (dup M 0 0 0) 0 29 sd) g) = some (some (am_I u), mv mo M3 g) := k2
      refine ⟨u, N3, P3, K, T, S3, M3, m3, A3, h3, HD3, ?_, ?_, WR_mono w3 (by omega), hs3, fr3⟩
      · rw [am_cI, en_203, bk_203_0]; simp (disch := omega) only [bk_203_20, zv_c0, zv_f0_10, zv_p89_0, c0, k1', Option.bind_some, Bool.cond_decide, am_oI_some, am_oV_some, am_oI_ite, am_oV_ite, am_bind_ite, Int.toNat_natCast, Int.toNat_zero, Int.reduceToNat, ite_true, ite_false, not_true_eq_false, not_false_eq_true, decide_true, decide_false, decide_eq_true_eq, Bool.false_eq_true, Nat.add_zero, am_rok1_0, am_rok1_1, cond_true, cond_false, am_w_nat1, true_or, or_true, false_or, or_false, true_and, and_true, false_and, and_false, Int.reduceEq, Int.reduceNeg, Int.reduceLT, Int.reduceLE, or_self, and_self, if_pos, if_neg]
      · rw [am_cI, en_206, bk_206_0]; simp (disch := omega) only [bk_206_26, mv_p0_0, mv_p0_29, mv_c0, mv_f0_14, f14, d1, k2', Option.bind_some, Bool.cond_decide, am_oI_some, am_oV_some, am_oI_ite, am_oV_ite, am_bind_ite, Int.toNat_natCast, Int.toNat_zero, Int.reduceToNat, ite_true, ite_false, not_true_eq_false, not_false_eq_true, decide_true, decide_false, decide_eq_true_eq, Bool.false_eq_true, Nat.add_zero, am_rok1_0, am_rok1_1, cond_true, cond_false, am_w_nat1, true_or, or_true, false_or, or_false, true_and, and_true, false_and, and_false, Int.reduceEq, Int.reduceNeg, Int.reduceLT, Int.reduceLE, or_self, and_self, if_pos, if_neg]
    · rw [if_neg e] at d1
      refine ⟨-1, N, P, K, T, S, dup M 0 0 0, m, A, h, HD, ?_, ?_, WR_mono (WR_MK w mk0) (by omega), hs, FR_refl lo m h⟩
      · by_cases e1 : a < 1
        · rw [am_cI, en_203, bk_203_0]; simp (disch := omega) only [bk_203_18, zv_c0, c0, Option.bind_some, Bool.cond_decide, am_oI_some, am_oV_some, am_oI_ite, am_oV_ite, am_bind_ite, Int.toNat_natCast, Int.toNat_zero, Int.reduceToNat, ite_true, ite_false, not_true_eq_false, not_false_eq_true, decide_true, decide_false, decide_eq_true_eq, Bool.false_eq_true, Nat.add_zero, am_rok1_0, am_rok1_1, cond_true, cond_false, am_w_nat1, true_or, or_true, false_or, or_false, true_and, and_true, false_and, and_false, Int.reduceEq, Int.reduceNeg, Int.reduceLT, Int.reduceLE, or_self, and_self, if_pos, if_neg]
        · rw [am_cI, en_203, bk_203_0]; simp (disch := omega) only [bk_203_18, zv_c0, c0, Option.bind_some, Bool.cond_decide, am_oI_some, am_oV_some, am_oI_ite, am_oV_ite, am_bind_ite, Int.toNat_natCast, Int.toNat_zero, Int.reduceToNat, ite_true, ite_false, not_true_eq_false, not_false_eq_true, decide_true, decide_false, decide_eq_true_eq, Bool.false_eq_true, Nat.add_zero, am_rok1_0, am_rok1_1, cond_true, cond_false, am_w_nat1, true_or, or_true, false_or, or_false, true_and, and_true, false_and, and_false, Int.reduceEq, Int.reduceNeg, Int.reduceLT, Int.reduceLE, or_self, and_self, if_pos, if_neg]
      · rw [am_cI, en_206, bk_206_0]; simp (disch := omega) only [bk_206_24, mv_p0_0, mv_c0, mv_f0_14, f14, d1, Option.bind_some, Bool.cond_decide, am_oI_some, am_oV_some, am_oI_ite, am_oV_ite, am_bind_ite, Int.toNat_natCast, Int.toNat_zero, Int.reduceToNat, ite_true, ite_false, not_true_eq_false, not_false_eq_true, decide_true, decide_false, decide_eq_true_eq, Bool.false_eq_true, Nat.add_zero, am_rok1_0, am_rok1_1, cond_true, cond_false, am_w_nat1, true_or, or_true, false_or, or_false, true_and, and_true, false_and, and_false, Int.reduceEq, Int.reduceNeg, Int.reduceLT, Int.reduceLE, or_self, and_self, if_pos, if_neg]
end YEAR
