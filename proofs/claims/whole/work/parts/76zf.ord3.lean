/-! ===== order ===== -/
section ORDL
variable {x mo n m Z : Nat} {A : Nat → Nat} {N P K T S : Nat → Nat → Int} {HD : Nat → Nat → Nat → Int} {M Ad : Nat → Nat → Int} {h g : am_H}
theorem zah_uniq {p : Int} {a b : Nat} (ha : a < Z) (hb : b < Z) (ta : cd_toC N a = true) (tb : cd_toC N b = true) (e : cnt (zah N p a) Z = cnt (zah N p b) Z) : a = b := by
  have key : ∀ a b, a < Z → zah N p b a = true → cnt (zah N p a) Z < cnt (zah N p b) Z := fun a b h1 h2 => cnt_lt (q := a) (fun z _ hh => zah_i (zah_t hh).1 (by
    have q1 := (zah_t hh).2
    have q2 := (zah_t h2).2
    omega)) h1 (by
    cases e3 : zah N p a a with
    | false => rfl
    | true => have := (zah_t e3).2; omega) h2
  by_cases q0 : a = b
  · exact q0
  · by_cases q1 : cd_score N b p < cd_score N a p ∨ (cd_score N a p = cd_score N b p ∧ a < b)
    · have := key a b ha (zah_i ta q1); omega
    · have := key b a hb (zah_i tb (by omega)); omega
theorem or_loop (iv : IV N Z 3) (rl : RL N Ad true (fun _ => 0) 0 8) (mr : MR M Ad) (pk : ∀ g, mv mo M g = mv mo (drow M 8 (pack Ad)) g) {p : Int} (hp : 0 ≤ p ∧ p ≤ 3) {k : Nat} : ∀ (r t : Nat) (X : Int), t + r = k → OS N Z p t X → ∃ B' : Int, am_run am_ms 237 47 [am_R mo, am_I p, am_I k, am_I X, am_I (ml_tk Ad Z p X Z), am_I t] [] (mv mo M g) = some (some (am_I B'), mv mo M g) ∧ ((B' = -1 ∧ ∀ q, q < Z → cd_toC N q = true → cnt (zah N p q) Z < k) ∨ ∃ a : Nat, a < Z ∧ B' = a ∧ cd_toC N a = true ∧ cnt (zah N p a) Z = k) := by
  have hZ8 := iv.pw.2.1
  have hcap : 0 < Ad 0 1 := by rw [rl.1.1]; have := iv.1.2.2.2; omega
  intro r
  induction r with
  | zero =>
    intro t X ht os
    have e : t = k := by omega
    have ob := os_b hZ8 os (tk_eq iv rl hp X)
    rw [e] at ob
    refine ⟨ml_tk Ad Z p X Z, ?_, ?_⟩
    · rw [bk_237_47]
      simp (disch := omega) only [bk_237_84, Option.bind_some, Bool.cond_decide, am_oI_some, am_oV_some, am_oI_ite, am_oV_ite, am_bind_ite, Int.toNat_natCast, Int.toNat_zero, Int.reduceToNat, ite_true, ite_false, not_true_eq_false, not_false_eq_true, decide_true, decide_false, decide_eq_true_eq, Bool.false_eq_true, Nat.add_zero, am_rok1_0, am_rok1_1, cond_true, cond_false, am_w_nat1, true_or, or_true, false_or, or_false, true_and, and_true, false_and, and_false, Int.reduceEq, Int.reduceNeg, Int.reduceLT, Int.reduceLE, or_self, and_self, if_pos, if_neg]
    · rcases ob with q | ⟨a, a1, a2, a3, a4, _⟩
      · exact Or.inl q
      · exact Or.inr ⟨a, a1, a2, a3, a4⟩
  | succ r ih =>
    intro t X ht os
    have htk : ¬ (k : Int) ≤ (t : Int) := by omega
    rcases os_b hZ8 os (tk_eq iv rl hp X) with ⟨b1, b2⟩ | ⟨a, a1, a2, a3, a4, a5⟩
    · refine ⟨-1, ?_, Or.inl ⟨rfl, fun q hq e => by have := b2 q hq e; omega⟩⟩
      rw [b1, bk_237_47]
      simp only [bk_237_84, htk, Option.bind_some, Bool.cond_decide, am_oI_some, am_oV_some, am_oI_ite, am_oV_ite, am_bind_ite, Int.toNat_natCast, Int.toNat_zero, Int.reduceToNat, ite_true, ite_false, not_true_eq_false, not_false_eq_true, decide_true, decide_false, decide_eq_true_eq, Bool.false_eq_true, Nat.add_zero, am_rok1_0, am_rok1_1, cond_true, cond_false, am_w_nat1, true_or, or_true, false_or, or_false, true_and, and_true, false_and, and_false, Int.reduceEq, Int.reduceNeg, Int.reduceLT, Int.reduceLE, or_self, and_self]
    · have hle := cnt_le (zah N p a) Z
      obtain ⟨B', k1, k2⟩ := ih (t + 1) (am_or X (am_shl 1 (a : Int))) (by omega) a5
      refine ⟨B', ?_, k2⟩
      have c1 := m_takes (m := mo) (h := g) (c := 8) (by omega) mr (rl_AW iv rl) hcap p (am_or X (am_shl 1 (a : Int)))
      rw [← pk] at c1
      have ha1 : ¬ (a : Int) = -1 := by omega
      rw [a2, bk_237_47]
      simp (disch := omega) only [bk_237_68, htk, ha1, mv_f0_15, mv_c0, c1, Option.bind_some, Bool.cond_decide, am_oI_some, am_oV_some, am_oI_ite, am_oV_ite, am_bind_ite, Int.toNat_natCast, Int.toNat_zero, Int.reduceToNat, ite_true, ite_false, not_true_eq_false, not_false_eq_true, decide_true, decide_false, decide_eq_true_eq, Bool.false_eq_true, Nat.add_zero, am_rok1_0, am_rok1_1, cond_true, cond_false, am_w_nat1, true_or, or_true, false_or, or_false, true_and, and_true, false_and, and_false, Int.reduceEq, Int.reduceNeg, Int.reduceLT, Int.reduceLE, or_self, and_self]
      exact k1
theorem lk_order (w : WR n m N K S HD M) (p i : Int) : LK 236 237 [am_I p, am_I i] x mo n m A N P K T S HD M := by
  intro h g
  have hmk := MK_f M (j := 0) (by omega) 0
  have c0 := c_isDrive (x := x) (N := N) (P := P) (K := K) (T := T) (S := S) (m := m) (A := A) h
  have c1 := c_isPolicy p (zv x N P K T S m A h)
  have d1 := m_isIn p 0 3 (mv mo (dup M 0 0 0) g)
  rcases w.2.2.2.2 with w0 | ⟨Z, wd⟩
  · have f14 : dup M 0 0 0 0 14 = 0 := by rw [dup_t, va_up_ne _ _ (by omega)]; exact w0.1
    rw [if_neg (by have := w0.2.1.1; omega)] at c0
    refine ⟨-1, dup M 0 0 0, ?_, ?_, hmk⟩
    · rw [am_cI]; simp (disch := omega) only [en_236, bk_236_0, bk_236_26, bk_236_27, c0, zv_c0, zv_f0_0, zv_f0_1, zv_f0_2, zv_f0_3, zv_f0_4, zv_f0_5, zv_f0_6, zv_f0_7, zv_f0_8, zv_f0_9, zv_f0_10, zv_f0_11, zv_c1, zv_f1_0, zv_f1_1, zv_c3, zv_f3_0, zv_f3_1, zv_f3_2, zv_f3_3, zv_f3_4, zv_f3_5, zv_f3_6, zv_f3_7, zv_f3_8, zv_f3_9, zv_c7, zv_f7_0, zv_f7_1, zv_f7_2, zv_f7_3, zv_c67, zv_f67_0, zv_f67_1, zv_f67_2, zv_f67_3, zv_f67_4, zv_f67_5, zv_f67_6, zv_f67_7, zv_c86, zv_f86_0, zv_c87, zv_f87_0, zv_f87_1, zv_f87_2, zv_c89, zv_f89_0, zv_c91, zv_f91_0, zv_f91_1, zv_f91_2, zv_f91_3, zv_c95, zv_f95_0, zv_f95_1, zv_f95_2, zv_f95_3, zv_c99, zv_f99_0, zv_f99_1, zv_f99_2, zv_f99_3, zv_c103, zv_f103_0, zv_f103_1, zv_f103_2, zv_f103_3, zv_r1, zv_r2, zv_r3, zv_r4, zv_r5, zv_r6, zv_r7, zv_r8, zv_r9, zv_r10, zv_r11, zv_r12, zv_r13, zv_r14, zv_r15, zv_r16, zv_r17, zv_r18, zv_r19, zv_r20, zv_r21, zv_l1, zv_l2, zv_l3, zv_l4, zv_l5, zv_l6, zv_l7, zv_l8, zv_l9, zv_l10, zv_l11, zv_l12, zv_l13, zv_l14, zv_l15, zv_l16, zv_l17, zv_l18, zv_l19, zv_l20, zv_l21, zv_p0_3, zv_p0_7, zv_p1_1, zv_w1, zv_p3_3, zv_p3_7, zv_p3_8, zv_p3_9, zv_w2, zv_w3, zv_w4, zv_p7_3, zv_w5, zv_w6, zv_w7, zv_w8, zv_p67_3, zv_p67_4, zv_p67_5, zv_p67_6, zv_p67_7, zv_p86_0, zv_p87_1, zv_p87_2, zv_p89_0, zv_w9, zv_p91_3, zv_w10, zv_w11, zv_w12, zv_p95_3, zv_w13, zv_w14, zv_w15, zv_p99_3, zv_w16, zv_w17, zv_w18, zv_p103_3, zv_w19, zv_w20, zv_w21, zN_c, zN_cL, zN_f0, zN_f1, zN_f2, zN_f3, zN_f4, zN_f5, zN_f6, zN_f7, zN_f8, zN_f9, zN_f10, zN_f11, zN_f12, zN_f13, zN_i1, zN_r0, zN_r1, zN_r2, zN_r3, zN_r4, zN_r5, zN_r6, zN_r7, zN_r8, zN_r9, zN_r10, zN_r11, zN_r12, zN_w0, zP_c, zK_c, zT_c, zT_cL, zT_f0, zT_f1, zT_f2, zT_f3, zT_f4, zT_f5, zT_f6, zT_f7, zT_f8, zT_f9, zT_f10, zT_f11, zT_f12, zT_f13, zT_i1, zT_r0, zT_r1, zT_r2, zT_r3, zT_r4, zT_r5, zT_r6, zT_r7, zT_r8, zT_r9, zT_r10, zT_r11, zT_r12, zT_w0, dup_t, dup_o, va_up_self, va_up_ne, drow_t, drow_o, Option.bind_some, Bool.cond_decide, am_oI_some, am_oV_some, am_oI_ite, am_oV_ite, am_bind_ite, Int.toNat_natCast, Int.toNat_zero, Int.reduceToNat, ite_true, ite_false, not_true_eq_false, not_false_eq_true, decide_true, decide_false, decide_eq_true_eq, Bool.false_eq_true, Nat.add_zero, am_rok1_0, am_rok1_1, cond_true, cond_false, am_w_nat1, true_or, or_true, false_or, or_false, true_and, and_true, false_and, and_false, Int.reduceEq, Int.reduceNeg, Int.reduceLT, Int.reduceLE, or_self, and_self, if_pos, if_neg]
    · rw [am_cI, en_237, bk_237_0]
      simp (disch := omega) only [bk_237_28, mv_p0_0, mv_f0_14, f14, Option.bind_some, Bool.cond_decide, am_oI_some, am_oV_some, am_oI_ite, am_oV_ite, am_bind_ite, Int.toNat_natCast, Int.toNat_zero, Int.reduceToNat, ite_true, ite_false, not_true_eq_false, not_false_eq_true, decide_true, decide_false, decide_eq_true_eq, Bool.false_eq_true, Nat.add_zero, am_rok1_0, am_rok1_1, cond_true, cond_false, am_w_nat1, true_or, or_true, false_or, or_false, true_and, and_true, false_and, and_false, Int.reduceEq, Int.reduceNeg, Int.reduceLT, Int.reduceLE, or_self, and_self, if_pos, if_neg]
  · obtain ⟨Ad, iv, rl, mr, pk, f14, f30, bd, nd, ru⟩ := ctx mo wd
    rw [if_pos (by have := iv.pw.1; have := iv.1.2.1; omega)] at c0
    have hZ8 := iv.pw.2.1
    have hcap : 0 < Ad 0 1 := by rw [rl.1.1]; have := iv.1.2.2.2; omega
    by_cases hp : 0 ≤ p ∧ p ≤ 3
    · rw [if_pos hp] at c1 d1
      by_cases hi : 0 ≤ i
      · obtain ⟨k, rfl⟩ : ∃ k : Nat, i = k := ⟨i.toNat, by omega⟩
        have c4 := m_takes (m := mo) (h := g) (c := 8) (by omega) mr (rl_AW iv rl) hcap p 0
        rw [← pk] at c4
        obtain ⟨B, key, es⟩ := or_loop (mo := mo) (g := g) iv rl mr pk hp (k := k) k 0 0 (by omega) (os_0 hZ8 p)
        have key' : am_run am_ms 237 47 [am_R mo, am_I p, am_I k, am_I 0, am_I (ml_tk Ad Z p 0 Z), am_I 0] [] (mv mo (dup M 0 0 0) g) = some (some (am_I B), mv mo (dup M 0 0 0) g) := key
        have c2 : am_cI 235 [am_R (x + 13), am_I p, am_I k] (zv x N P K T S m A h) = some (B, (zv x N P K T S m A h)) := by
          rcases es with ⟨b1, b2⟩ | ⟨a, a1, a2, a3, a4⟩
          · have c2 := s_zbr_no (d := x + 13) (h := (zv x N P K T S m A h)) (p := p) (i := (k : Int)) iv.1.1.1 (fun q hq => by
              unfold zbf
              cases e : cd_toC N q with
              | false => rfl
              | true =>
                have := b2 q hq e
                exact decide_eq_false (by omega))
            rw [zv_dN] at c2
            rw [b1]
            exact c2
          · rcases first_or (zbf N Z p (k : Int)) Z with hno | ⟨j, j1, j2, j3⟩
            · have h1 := hno a a1
              unfold zbf at h1
              rw [a3, a4, Bool.true_and] at h1
              exact absurd rfl (of_decide_eq_false h1)
            · have c2 := s_zbr_at (d := x + 13) (h := (zv x N P K T S m A h)) iv.1.1.1 j1 j2 j3
              rw [zv_dN] at c2
              unfold zbf at j2
              rw [Bool.and_eq_true] at j2
              have h2 := of_decide_eq_true j2.2
              have e := zah_uniq (p := p) j1 a1 j2.1 a3 (by omega)
              rw [a2, ← e]
              exact c2
        refine ⟨B, dup M 0 0 0, ?_, ?_, hmk⟩
        · rw [am_cI]; simp (disch := omega) only [en_236, bk_236_0, bk_236_26, bk_236_27, c0, c1, c2, zv_c0, zv_f0_0, zv_f0_1, zv_f0_2, zv_f0_3, zv_f0_4, zv_f0_5, zv_f0_6, zv_f0_7, zv_f0_8, zv_f0_9, zv_f0_10, zv_f0_11, zv_c1, zv_f1_0, zv_f1_1, zv_c3, zv_f3_0, zv_f3_1, zv_f3_2, zv_f3_3, zv_f3_4, zv_f3_5, zv_f3_6, zv_f3_7, zv_f3_8, zv_f3_9, zv_c7, zv_f7_0, zv_f7_1, zv_f7_2, zv_f7_3, zv_c67, zv_f67_0, zv_f67_1, zv_f67_2, zv_f67_3, zv_f67_4, zv_f67_5, zv_f67_6, zv_f67_7, zv_c86, zv_f86_0, zv_c87, zv_f87_0, zv_f87_1, zv_f87_2, zv_c89, zv_f89_0, zv_c91, zv_f91_0, zv_f91_1, zv_f91_2, zv_f91_3, zv_c95, zv_f95_0, zv_f95_1, zv_f95_2, zv_f95_3, zv_c99, zv_f99_0, zv_f99_1, zv_f99_2, zv_f99_3, zv_c103, zv_f103_0, zv_f103_1, zv_f103_2, zv_f103_3, zv_r1, zv_r2, zv_r3, zv_r4, zv_r5, zv_r6, zv_r7, zv_r8, zv_r9, zv_r10, zv_r11, zv_r12, zv_r13, zv_r14, zv_r15, zv_r16, zv_r17, zv_r18, zv_r19, zv_r20, zv_r21, zv_l1, zv_l2, zv_l3, zv_l4, zv_l5, zv_l6, zv_l7, zv_l8, zv_l9, zv_l10, zv_l11, zv_l12, zv_l13, zv_l14, zv_l15, zv_l16, zv_l17, zv_l18, zv_l19, zv_l20, zv_l21, zv_p0_3, zv_p0_7, zv_p1_1, zv_w1, zv_p3_3, zv_p3_7, zv_p3_8, zv_p3_9, zv_w2, zv_w3, zv_w4, zv_p7_3, zv_w5, zv_w6, zv_w7, zv_w8, zv_p67_3, zv_p67_4, zv_p67_5, zv_p67_6, zv_p67_7, zv_p86_0, zv_p87_1, zv_p87_2, zv_p89_0, zv_w9, zv_p91_3, zv_w10, zv_w11, zv_w12, zv_p95_3, zv_w13, zv_w14, zv_w15, zv_p99_3, zv_w16, zv_w17, zv_w18, zv_p103_3, zv_w19, zv_w20, zv_w21, zN_c, zN_cL, zN_f0, zN_f1, zN_f2, zN_f3, zN_f4, zN_f5, zN_f6, zN_f7, zN_f8, zN_f9, zN_f10, zN_f11, zN_f12, zN_f13, zN_i1, zN_r0, zN_r1, zN_r2, zN_r3, zN_r4, zN_r5, zN_r6, zN_r7, zN_r8, zN_r9, zN_r10, zN_r11, zN_r12, zN_w0, zP_c, zK_c, zT_c, zT_cL, zT_f0, zT_f1, zT_f2, zT_f3, zT_f4, zT_f5, zT_f6, zT_f7, zT_f8, zT_f9, zT_f10, zT_f11, zT_f12, zT_f13, zT_i1, zT_r0, zT_r1, zT_r2, zT_r3, zT_r4, zT_r5, zT_r6, zT_r7, zT_r8, zT_r9, zT_r10, zT_r11, zT_r12, zT_w0, dup_t, dup_o, va_up_self, va_up_ne, drow_t, drow_o, Option.bind_some, Bool.cond_decide, am_oI_some, am_oV_some, am_oI_ite, am_oV_ite, am_bind_ite, Int.toNat_natCast, Int.toNat_zero, Int.reduceToNat, ite_true, ite_false, not_true_eq_false, not_false_eq_true, decide_true, decide_false, decide_eq_true_eq, Bool.false_eq_true, Nat.add_zero, am_rok1_0, am_rok1_1, cond_true, cond_false, am_w_nat1, true_or, or_true, false_or, or_false, true_and, and_true, false_and, and_false, Int.reduceEq, Int.reduceNeg, Int.reduceLT, Int.reduceLE, or_self, and_self, if_pos, if_neg]
        · rw [am_cI, en_237, bk_237_0]
          simp (disch := omega) only [bk_237_30, mv_p0_0, mv_f0_14, mv_f0_15, mv_c0, f14, d1, c4, Option.bind_some, Bool.cond_decide, am_oI_some, am_oV_some, am_oI_ite, am_oV_ite, am_bind_ite, Int.toNat_natCast, Int.toNat_zero, Int.reduceToNat, ite_true, ite_false, not_true_eq_false, not_false_eq_true, decide_true, decide_false, decide_eq_true_eq, Bool.false_eq_true, Nat.add_zero, am_rok1_0, am_rok1_1, cond_true, cond_false, am_w_nat1, true_or, or_true, false_or, or_false, true_and, and_true, false_and, and_false, Int.reduceEq, Int.reduceNeg, Int.reduceLT, Int.reduceLE, or_self, and_self, if_pos, if_neg]
          rw [key']
          simp only [Option.bind_some, Bool.cond_decide, am_oI_some, am_oV_some, am_oI_ite, am_oV_ite, am_bind_ite, Int.toNat_natCast, Int.toNat_zero, Int.reduceToNat, ite_true, ite_false, not_true_eq_false, not_false_eq_true, decide_true, decide_false, decide_eq_true_eq, Bool.false_eq_true, Nat.add_zero, am_rok1_0, am_rok1_1, cond_true, cond_false, am_w_nat1, true_or, or_true, false_or, or_false, true_and, and_true, false_and, and_false, Int.reduceEq, Int.reduceNeg, Int.reduceLT, Int.reduceLE, or_self, and_self]
      · have c2 := s_zbr_no (d := x + 13) (h := (zv x N P K T S m A h)) (p := p) (i := i) iv.1.1.1 (fun q _ => by
          unfold zbf
          rw [decide_eq_false (fun t => by omega), Bool.and_false])
        rw [zv_dN] at c2
        refine ⟨-1, dup M 0 0 0, ?_, ?_, hmk⟩
        · rw [am_cI]; simp (disch := omega) only [en_236, bk_236_0, bk_236_26, bk_236_27, c0, c1, c2, zv_c0, zv_f0_0, zv_f0_1, zv_f0_2, zv_f0_3, zv_f0_4, zv_f0_5, zv_f0_6, zv_f0_7, zv_f0_8, zv_f0_9, zv_f0_10, zv_f0_11, zv_c1, zv_f1_0, zv_f1_1, zv_c3, zv_f3_0, zv_f3_1, zv_f3_2, zv_f3_3, zv_f3_4, zv_f3_5, zv_f3_6, zv_f3_7, zv_f3_8, zv_f3_9, zv_c7, zv_f7_0, zv_f7_1, zv_f7_2, zv_f7_3, zv_c67, zv_f67_0, zv_f67_1, zv_f67_2, zv_f67_3, zv_f67_4, zv_f67_5, zv_f67_6, zv_f67_7, zv_c86, zv_f86_0, zv_c87, zv_f87_0, zv_f87_1, zv_f87_2, zv_c89, zv_f89_0, zv_c91, zv_f91_0, zv_f91_1, zv_f91_2, zv_f91_3, zv_c95, zv_f95_0, zv_f95_1, zv_f95_2, zv_f95_3, zv_c99, zv_f99_0, zv_f99_1, zv_f99_2, zv_f99_3, zv_c103, zv_f103_0, zv_f103_1, zv_f103_2, zv_f103_3, zv_r1, zv_r2, zv_r3, zv_r4, zv_r5, zv_r6, zv_r7, zv_r8, zv_r9, zv_r10, zv_r11, zv_r12, zv_r13, zv_r14, zv_r15, zv_r16, zv_r17, zv_r18, zv_r19, zv_r20, zv_r21, zv_l1, zv_l2, zv_l3, zv_l4, zv_l5, zv_l6, zv_l7, zv_l8, zv_l9, zv_l10, zv_l11, zv_l12, zv_l13, zv_l14, zv_l15, zv_l16, zv_l17, zv_l18, zv_l19, zv_l20, zv_l21, zv_p0_3, zv_p0_7, zv_p1_1, zv_w1, zv_p3_3, zv_p3_7, zv_p3_8, zv_p3_9, zv_w2, zv_w3, zv_w4, zv_p7_3, zv_w5, zv_w6, zv_w7, zv_w8, zv_p67_3, zv_p67_4, zv_p67_5, zv_p67_6, zv_p67_7, zv_p86_0, zv_p87_1, zv_p87_2, zv_p89_0, zv_w9, zv_p91_3, zv_w10, zv_w11, zv_w12, zv_p95_3, zv_w13, zv_w14, zv_w15, zv_p99_3, zv_w16, zv_w17, zv_w18, zv_p103_3, zv_w19, zv_w20, zv_w21, zN_c, zN_cL, zN_f0, zN_f1, zN_f2, zN_f3, zN_f4, zN_f5, zN_f6, zN_f7, zN_f8, zN_f9, zN_f10, zN_f11, zN_f12, zN_f13, zN_i1, zN_r0, zN_r1, zN_r2, zN_r3, zN_r4, zN_r5, zN_r6, zN_r7, zN_r8, zN_r9, zN_r10, zN_r11, zN_r12, zN_w0, zP_c, zK_c, zT_c, zT_cL, zT_f0, zT_f1, zT_f2, zT_f3, zT_f4, zT_f5, zT_f6, zT_f7, zT_f8, zT_f9, zT_f10, zT_f11, zT_f12, zT_f13, zT_i1, zT_r0, zT_r1, zT_r2, zT_r3, zT_r4, zT_r5, zT_r6, zT_r7, zT_r8, zT_r9, zT_r10, zT_r11, zT_r12, zT_w0, dup_t, dup_o, va_up_self, va_up_ne, drow_t, drow_o, Option.bind_some, Bool.cond_decide, am_oI_some, am_oV_some, am_oI_ite, am_oV_ite, am_bind_ite, Int.toNat_natCast, Int.toNat_zero, Int.reduceToNat, ite_true, ite_false, not_true_eq_false, not_false_eq_true, decide_true, decide_false, decide_eq_true_eq, Bool.false_eq_true, Nat.add_zero, am_rok1_0, am_rok1_1, cond_true, cond_false, am_w_nat1, true_or, or_true, false_or, or_false, true_and, and_true, false_and, and_false, Int.reduceEq, Int.reduceNeg, Int.reduceLT, Int.reduceLE, or_self, and_self, if_pos, if_neg]
        · rw [am_cI, en_237, bk_237_0]
          simp (disch := omega) only [bk_237_28, mv_p0_0, mv_f0_14, f14, d1, Option.bind_some, Bool.cond_decide, am_oI_some, am_oV_some, am_oI_ite, am_oV_ite, am_bind_ite, Int.toNat_natCast, Int.toNat_zero, Int.reduceToNat, ite_true, ite_false, not_true_eq_false, not_false_eq_true, decide_true, decide_false, decide_eq_true_eq, Bool.false_eq_true, Nat.add_zero, am_rok1_0, am_rok1_1, cond_true, cond_false, am_w_nat1, true_or, or_true, false_or, or_false, true_and, and_true, false_and, and_false, Int.reduceEq, Int.reduceNeg, Int.reduceLT, Int.reduceLE, or_self, and_self, if_pos, if_neg]
    · rw [if_neg hp] at c1 d1
      refine ⟨-1, dup M 0 0 0, ?_, ?_, hmk⟩
      · rw [am_cI]; simp (disch := omega) only [en_236, bk_236_0, bk_236_26, bk_236_27, c0, c1, zv_c0, zv_f0_0, zv_f0_1, zv_f0_2, zv_f0_3, zv_f0_4, zv_f0_5, zv_f0_6, zv_f0_7, zv_f0_8, zv_f0_9, zv_f0_10, zv_f0_11, zv_c1, zv_f1_0, zv_f1_1, zv_c3, zv_f3_0, zv_f3_1, zv_f3_2, zv_f3_3, zv_f3_4, zv_f3_5, zv_f3_6, zv_f3_7, zv_f3_8, zv_f3_9, zv_c7, zv_f7_0, zv_f7_1, zv_f7_2, zv_f7_3, zv_c67, zv_f67_0, zv_f67_1, zv_f67_2, zv_f67_3, zv_f67_4, zv_f67_5, zv_f67_6, zv_f67_7, zv_c86, zv_f86_0, zv_c87, zv_f87_0, zv_f87_1, zv_f87_2, zv_c89, zv_f89_0, zv_c91, zv_f91_0, zv_f91_1, zv_f91_2, zv_f91_3, zv_c95, zv_f95_0, zv_f95_1, zv_f95_2, zv_f95_3, zv_c99, zv_f99_0, zv_f99_1, zv_f99_2, zv_f99_3, zv_c103, zv_f103_0, zv_f103_1, zv_f103_2, zv_f103_3, zv_r1, zv_r2, zv_r3, zv_r4, zv_r5, zv_r6, zv_r7, zv_r8, zv_r9, zv_r10, zv_r11, zv_r12, zv_r13, zv_r14, zv_r15, zv_r16, zv_r17, zv_r18, zv_r19, zv_r20, zv_r21, zv_l1, zv_l2, zv_l3, zv_l4, zv_l5, zv_l6, zv_l7, zv_l8, zv_l9, zv_l10, zv_l11, zv_l12, zv_l13, zv_l14, zv_l15, zv_l16, zv_l17, zv_l18, zv_l19, zv_l20, zv_l21, zv_p0_3, zv_p0_7, zv_p1_1, zv_w1, zv_p3_3, zv_p3_7, zv_p3_8, zv_p3_9, zv_w2, zv_w3, zv_w4, zv_p7_3, zv_w5, zv_w6, zv_w7, zv_w8, zv_p67_3, zv_p67_4, zv_p67_5, zv_p67_6, zv_p67_7, zv_p86_0, zv_p87_1, zv_p87_2, zv_p89_0, zv_w9, zv_p91_3, zv_w10, zv_w11, zv_w12, zv_p95_3, zv_w13, zv_w14, zv_w15, zv_p99_3, zv_w16, zv_w17, zv_w18, zv_p103_3, zv_w19, zv_w20, zv_w21, zN_c, zN_cL, zN_f0, zN_f1, zN_f2, zN_f3, zN_f4, zN_f5, zN_f6, zN_f7, zN_f8, zN_f9, zN_f10, zN_f11, zN_f12, zN_f13, zN_i1, zN_r0, zN_r1, zN_r2, zN_r3, zN_r4, zN_r5, zN_r6, zN_r7, zN_r8, zN_r9, zN_r10, zN_r11, zN_r12, zN_w0, zP_c, zK_c, zT_c, zT_cL, zT_f0, zT_f1, zT_f2, zT_f3, zT_f4, zT_f5, zT_f6, zT_f7, zT_f8, zT_f9, zT_f10, zT_f11, zT_f12, zT_f13, zT_i1, zT_r0, zT_r1, zT_r2, zT_r3, zT_r4, zT_r5, zT_r6, zT_r7, zT_r8, zT_r9, zT_r10, zT_r11, zT_r12, zT_w0, dup_t, dup_o, va_up_self, va_up_ne, drow_t, drow_o, Option.bind_some, Bool.cond_decide, am_oI_some, am_oV_some, am_oI_ite, am_oV_ite, am_bind_ite, Int.toNat_natCast, Int.toNat_zero, Int.reduceToNat, ite_true, ite_false, not_true_eq_false, not_false_eq_true, decide_true, decide_false, decide_eq_true_eq, Bool.false_eq_true, Nat.add_zero, am_rok1_0, am_rok1_1, cond_true, cond_false, am_w_nat1, true_or, or_true, false_or, or_false, true_and, and_true, false_and, and_false, Int.reduceEq, Int.reduceNeg, Int.reduceLT, Int.reduceLE, or_self, and_self, if_pos, if_neg]
      · rw [am_cI, en_237, bk_237_0]
        simp (disch := omega) only [bk_237_28, mv_p0_0, mv_f0_14, f14, d1, Option.bind_some, Bool.cond_decide, am_oI_some, am_oV_some, am_oI_ite, am_oV_ite, am_bind_ite, Int.toNat_natCast, Int.toNat_zero, Int.reduceToNat, ite_true, ite_false, not_true_eq_false, not_false_eq_true, decide_true, decide_false, decide_eq_true_eq, Bool.false_eq_true, Nat.add_zero, am_rok1_0, am_rok1_1, cond_true, cond_false, am_w_nat1, true_or, or_true, false_or, or_false, true_and, and_true, false_and, and_false, Int.reduceEq, Int.reduceNeg, Int.reduceLT, Int.reduceLE, or_self, and_self, if_pos, if_neg]
end ORDL
