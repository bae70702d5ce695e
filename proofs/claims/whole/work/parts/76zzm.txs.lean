/-! ===== text: a script ===== -/
def scp (S : Nat → Nat → Int) (s : Nat) : Nat → Nat → Int := dup (drow (drow (drow S (10 + 3 * s) (S 5)) (11 + 3 * s) (S 6)) (12 + 3 * s) (S 7)) 0 (17 + s) (S 0 7)
def cp5 (R : Nat → Int) (s k : Nat) : Nat → Int := fun j => if 48 * s ≤ j ∧ j < 48 * s + k then R (192 + (j - 48 * s)) else R j
theorem cp5_up (R : Nat → Int) (s k : Nat) : va_up (cp5 R s k) (48 * s + k) (R (192 + k)) = cp5 R s (k + 1) := by
  funext j
  by_cases e : j = 48 * s + k
  · rw [e, va_up_self]
    unfold cp5
    rw [if_pos (by omega)]
    congr 1
    omega
  · rw [va_up_ne _ _ e]
    unfold cp5
    by_cases q : 48 * s ≤ j ∧ j < 48 * s + k
    · rw [if_pos q, if_pos (by omega)]
    · rw [if_neg q, if_neg (by omega)]
theorem cp5_0 (R : Nat → Int) (s : Nat) : cp5 R s 0 = R := funext (fun j => if_neg (by omega))
theorem w_48 {s k : Nat} (hs : s < 4) (hk : k < 48) : am_w (am_w (48 * (s : Int)) + (k : Int)) = ((48 * s + k : Nat) : Int) := by
  rw [am_w_id (x := 48 * (s : Int)) (by omega) (by omega), am_w_id (by omega) (by omega)]
  omega
theorem w_19 {k : Nat} (hk : k < 48) : am_w (192 + (k : Int)) = ((192 + k : Nat) : Int) := by
  rw [am_w_id (by omega) (by omega)]
  omega
section TXS
variable {x mo lo n m : Nat} {A : Nat → Nat} {N P K T S : Nat → Nat → Int} {HD : Nat → Nat → Nat → Int} {M : Nat → Nat → Int} {h g : am_H}
theorem k_cp0 : am_cV 104 [am_R (x + 91), am_R (x + 7)] (zv x N P K T S m A h) = some (zv x N P K T (scp S 0) m A h) := by
  have k1 := zv_k10 (x := x) (N := N) (P := P) (K := K) (T := T) (S := S) (m := m) (A := A) (h := h)
  have k2 := zv_k11 (x := x) (N := N) (P := P) (K := K) (T := T) (S := drow S 10 (S 5)) (m := m) (A := A) (h := h)
  have k3 := zv_k12 (x := x) (N := N) (P := P) (K := K) (T := T) (S := drow (drow S 10 (S 5)) 11 (S 6)) (m := m) (A := A) (h := h)
  have e2 : drow S 10 (S 5) 6 = S 6 := drow_o _ _ (by decide)
  have e3 : drow (drow S 10 (S 5)) 11 (S 6) 7 = S 7 := by rw [drow_o _ _ (by decide), drow_o _ _ (by decide)]
  have e4 : drow (drow (drow S 10 (S 5)) 11 (S 6)) 12 (S 7) 0 7 = S 0 7 := by rw [drow_o _ _ (by decide), drow_o _ _ (by decide), drow_o _ _ (by decide)]
  rw [e2] at k2
  rw [e3] at k3
  have e5 : scp S 0 = dup (drow (drow (drow S 10 (S 5)) 11 (S 6)) 12 (S 7)) 0 17 (S 0 7) := rfl
  rw [e5, am_cV]
  simp only [en_104, bk_104_0, bk_104_25, bk_104_53, zv_f7_0, zv_f7_1, zv_f7_2, zv_f7_3, zv_f91_0, zv_f91_1, zv_f91_2, k1, k2, k3, e4, zv_p91_3, Option.bind_some, Bool.cond_decide, am_oI_some, am_oV_some, am_oI_ite, am_oV_ite, am_bind_ite, Int.toNat_natCast, Int.toNat_zero, Int.reduceToNat, ite_true, ite_false, not_true_eq_false, not_false_eq_true, decide_true, decide_false, decide_eq_true_eq, Bool.false_eq_true, Nat.add_zero, am_rok1_0, am_rok1_1, cond_true, cond_false, am_w_nat1, true_or, or_true, false_or, or_false, true_and, and_true, false_and, and_false, Int.reduceEq, Int.reduceNeg, Int.reduceLT, Int.reduceLE, or_self, and_self]
theorem k_cp1 : am_cV 104 [am_R (x + 95), am_R (x + 7)] (zv x N P K T S m A h) = some (zv x N P K T (scp S 1) m A h) := by
  have k1 := zv_k13 (x := x) (N := N) (P := P) (K := K) (T := T) (S := S) (m := m) (A := A) (h := h)
  have k2 := zv_k14 (x := x) (N := N) (P := P) (K := K) (T := T) (S := drow S 13 (S 5)) (m := m) (A := A) (h := h)
  have k3 := zv_k15 (x := x) (N := N) (P := P) (K := K) (T := T) (S := drow (drow S 13 (S 5)) 14 (S 6)) (m := m) (A := A) (h := h)
  have e2 : drow S 13 (S 5) 6 = S 6 := drow_o _ _ (by decide)
  have e3 : drow (drow S 13 (S 5)) 14 (S 6) 7 = S 7 := by rw [drow_o _ _ (by decide), drow_o _ _ (by decide)]
  have e4 : drow (drow (drow S 13 (S 5)) 14 (S 6)) 15 (S 7) 0 7 = S 0 7 := by rw [drow_o _ _ (by decide), drow_o _ _ (by decide), drow_o _ _ (by decide)]
  rw [e2] at k2
  rw [e3] at k3
  have e5 : scp S 1 = dup (drow (drow (drow S 13 (S 5)) 14 (S 6)) 15 (S 7)) 0 18 (S 0 7) := rfl
  rw [e5, am_cV]
  simp only [en_104, bk_104_0, bk_104_25, bk_104_53, zv_f7_0, zv_f7_1, zv_f7_2, zv_f7_3, zv_f95_0, zv_f95_1, zv_f95_2, k1, k2, k3, e4, zv_p95_3, Option.bind_some, Bool.cond_decide, am_oI_some, am_oV_some, am_oI_ite, am_oV_ite, am_bind_ite, Int.toNat_natCast, Int.toNat_zero, Int.reduceToNat, ite_true, ite_false, not_true_eq_false, not_false_eq_true, decide_true, decide_false, decide_eq_true_eq, Bool.false_eq_true, Nat.add_zero, am_rok1_0, am_rok1_1, cond_true, cond_false, am_w_nat1, true_or, or_true, false_or, or_false, true_and, and_true, false_and, and_false, Int.reduceEq, Int.reduceNeg, Int.reduceLT, Int.reduceLE, or_self, and_self]
theorem k_cp2 : am_cV 104 [am_R (x + 99), am_R (x + 7)] (zv x N P K T S m A h) = some (zv x N P K T (scp S 2) m A h) := by
  have k1 := zv_k16 (x := x) (N := N) (P := P) (K := K) (T := T) (S := S) (m := m) (A := A) (h := h)
  have k2 := zv_k17 (x := x) (N := N) (P := P) (K := K) (T := T) (S := drow S 16 (S 5)) (m := m) (A := A) (h := h)
  have k3 := zv_k18 (x := x) (N := N) (P := P) (K := K) (T := T) (S := drow (drow S 16 (S 5)) 17 (S 6)) (m := m) (A := A) (h := h)
  have e2 : drow S 16 (S 5) 6 = S 6 := drow_o _ _ (by decide)
  have e3 : drow (drow S 16 (S 5)) 17 (S 6) 7 = S 7 := by rw [drow_o _ _ (by decide), drow_o _ _ (by decide)]
  have e4 : drow (drow (drow S 16 (S 5)) 17 (S 6)) 18 (S 7) 0 7 = S 0 7 := by rw [drow_o _ _ (by decide), drow_o _ _ (by decide), drow_o _ _ (by decide)]
  rw [e2] at k2
  rw [e3] at k3
  have e5 : scp S 2 = dup (drow (drow (drow S 16 (S 5)) 17 (S 6)) 18 (S 7)) 0 19 (S 0 7) := rfl
  rw [e5, am_cV]
  simp only [en_104, bk_104_0, bk_104_25, bk_104_53, zv_f7_0, zv_f7_1, zv_f7_2, zv_f7_3, zv_f99_0, zv_f99_1, zv_f99_2, k1, k2, k3, e4, zv_p99_3, Option.bind_some, Bool.cond_decide, am_oI_some, am_oV_some, am_oI_ite, am_oV_ite, am_bind_ite, Int.toNat_natCast, Int.toNat_zero, Int.reduceToNat, ite_true, ite_false, not_true_eq_false, not_false_eq_true, decide_true, decide_false, decide_eq_true_eq, Bool.false_eq_true, Nat.add_zero, am_rok1_0, am_rok1_1, cond_true, cond_false, am_w_nat1, true_or, or_true, false_or, or_false, true_and, and_true, false_and, and_false, Int.reduceEq, Int.reduceNeg, Int.reduceLT, Int.reduceLE, or_self, and_self]
theorem k_cp3 : am_cV 104 [am_R (x + 103), am_R (x + 7)] (zv x N P K T S m A h) = some (zv x N P K T (scp S 3) m A h) := by
  have k1 := zv_k19 (x := x) (N := N) (P := P) (K := K) (T := T) (S := S) (m := m) (A := A) (h := h)
  have k2 := zv_k20 (x := x) (N := N) (P := P) (K := K) (T := T) (S := drow S 19 (S 5)) (m := m) (A := A) (h := h)
  have k3 := zv_k21 (x := x) (N := N) (P := P) (K := K) (T := T) (S := drow (drow S 19 (S 5)) 20 (S 6)) (m := m) (A := A) (h := h)
  have e2 : drow S 19 (S 5) 6 = S 6 := drow_o _ _ (by decide)
  have e3 : drow (drow S 19 (S 5)) 20 (S 6) 7 = S 7 := by rw [drow_o _ _ (by decide), drow_o _ _ (by decide)]
  have e4 : drow (drow (drow S 19 (S 5)) 20 (S 6)) 21 (S 7) 0 7 = S 0 7 := by rw [drow_o _ _ (by decide), drow_o _ _ (by decide), drow_o _ _ (by decide)]
  rw [e2] at k2
  rw [e3] at k3
  have e5 : scp S 3 = dup (drow (drow (drow S 19 (S 5)) 20 (S 6)) 21 (S 7)) 0 20 (S 0 7) := rfl
  rw [e5, am_cV]
  simp only [en_104, bk_104_0, bk_104_25, bk_104_53, zv_f7_0, zv_f7_1, zv_f7_2, zv_f7_3, zv_f103_0, zv_f103_1, zv_f103_2, k1, k2, k3, e4, zv_p103_3, Option.bind_some, Bool.cond_decide, am_oI_some, am_oV_some, am_oI_ite, am_oV_ite, am_bind_ite, Int.toNat_natCast, Int.toNat_zero, Int.reduceToNat, ite_true, ite_false, not_true_eq_false, not_false_eq_true, decide_true, decide_false, decide_eq_true_eq, Bool.false_eq_true, Nat.add_zero, am_rok1_0, am_rok1_1, cond_true, cond_false, am_w_nat1, true_or, or_true, false_or, or_false, true_and, and_true, false_and, and_false, Int.reduceEq, Int.reduceNeg, Int.reduceLT, Int.reduceLE, or_self, and_self]
theorem k_cp {s : Nat} (hs : s < 4) : am_cV 104 [am_R (x + 91 + 4 * s), am_R (x + 7)] (zv x N P K T S m A h) = some (zv x N P K T (scp S s) m A h) := by
  rcases (show s = 0 ∨ s = 1 ∨ s = 2 ∨ s = 3 by omega) with e | e | e | e <;> subst e
  · exact k_cp0
  · exact k_cp1
  · exact k_cp2
  · exact k_cp3
/-- a script is told -/
theorem cl_text1 (w : WR n m N K S HD M) (hs : HS lo m A HD h) : CL 106 136 [am_I 1] x mo lo n m A N P K T S M h g := by
  obtain ⟨tf, ct, mt⟩ := WT_TF w.1
  have mt0 : MTp (dup (dup (dup M 0 0 0) 0 3 0) 0 4 (-1)) (S 0 2) (S 1) := MTp_f (MTp_f (MTp_f mt (by omega) _) (by omega) _) (by omega) _
  have k3 : dup (dup (dup M 0 0 0) 0 3 0) 0 4 (-1) 0 3 = 0 := by rw [dup_t, va_up_ne _ _ (by omega), dup_t, va_up_self]
  have k4 : dup (dup (dup M 0 0 0) 0 3 0) 0 4 (-1) 0 4 = -1 := by rw [dup_t, va_up_self]
  have mx0 : MX M (dup (dup (dup M 0 0 0) 0 3 0) 0 4 (-1)) := MX_trans (MX_trans (MX_f M (j := 0) (by omega) _) (MX_f _ (j := 3) (by omega) _)) (MX_f _ (j := 4) (by omega) _)
  have d1 := m_isIn 1 0 1 (mv mo (dup M 0 0 0) g)
  rw [if_pos (by omega)] at d1
  obtain ⟨⟨s0, s4, s12⟩, ws⟩ := w.2.1
  have m12 : dup M 0 0 0 0 12 = S 0 0 := by rw [dup_t, va_up_ne _ _ (by omega)]; exact s12
  have wr0 : WR n m N K S HD (dup M 0 0 0) := WR_tp w (SF_refl S) (MX_f M (by omega) 0) (WT_0 w.1)
  by_cases e4 : S 0 0 = 4
  · have e4' : 4 ≤ S 0 0 := by omega
    refine ⟨-1, N, P, K, T, S, dup M 0 0 0, m, A, h, HD, ?_, ?_, wr0, hs, FR_refl lo m h⟩
    · have c : am_cI 105 [am_R x] (zv x N P K T S m A h) = some (-1, (zv x N P K T S m A h)) := by
        rw [am_cI]; simp only [en_105, bk_105_0, bk_105_19, zv_f0_3, e4', Option.bind_some, Bool.cond_decide, am_oI_some, am_oV_some, am_oI_ite, am_oV_ite, am_bind_ite, Int.toNat_natCast, Int.toNat_zero, Int.reduceToNat, ite_true, ite_false, not_true_eq_false, not_false_eq_true, decide_true, decide_false, decide_eq_true_eq, Bool.false_eq_true, Nat.add_zero, am_rok1_0, am_rok1_1, cond_true, cond_false, am_w_nat1, true_or, or_true, false_or, or_false, true_and, and_true, false_and, and_false, Int.reduceEq, Int.reduceNeg, Int.reduceLT, Int.reduceLE, or_self, and_self]
      rw [am_cI]; simp only [en_106, bk_106_0, bk_106_9, bk_106_21, bk_106_22, zv_c0, c, Int.one_ne_zero, Option.bind_some, Bool.cond_decide, am_oI_some, am_oV_some, am_oI_ite, am_oV_ite, am_bind_ite, Int.toNat_natCast, Int.toNat_zero, Int.reduceToNat, ite_true, ite_false, not_true_eq_false, not_false_eq_true, decide_true, decide_false, decide_eq_true_eq, Bool.false_eq_true, Nat.add_zero, am_rok1_0, am_rok1_1, cond_true, cond_false, am_w_nat1, true_or, or_true, false_or, or_false, true_and, and_true, false_and, and_false, Int.reduceEq, Int.reduceNeg, Int.reduceLT, Int.reduceLE, or_self, and_self]
    · rw [e4] at m12
      rw [am_cI]; simp only [en_136, bk_136_0, bk_136_24, bk_136_37, mv_p0_0, d1, mv_f0_12, m12, Int.one_ne_zero, Option.bind_some, Bool.cond_decide, am_oI_some, am_oV_some, am_oI_ite, am_oV_ite, am_bind_ite, Int.toNat_natCast, Int.toNat_zero, Int.reduceToNat, ite_true, ite_false, not_true_eq_false, not_false_eq_true, decide_true, decide_false, decide_eq_true_eq, Bool.false_eq_true, Nat.add_zero, am_rok1_0, am_rok1_1, cond_true, cond_false, am_w_nat1, true_or, or_true, false_or, or_false, true_and, and_true, false_and, and_false, Int.reduceEq, Int.reduceNeg, Int.reduceLT, Int.reduceLE, or_self, and_self]
  · have e4' : ¬ 4 ≤ S 0 0 := by omega
    have e4'' : ¬ dup M 0 0 0 0 12 = 4 := by rw [m12]; exact e4
    obtain ⟨v, S', M', r1, r2, r3, ⟨⟨r4, r5⟩, r6, r8⟩, r9⟩ := sr_all (x := x) (mo := mo) (m := m) (A := A) (N := N) (P := P) (K := K) (T := T) (h := h) (g := g) tf ct mt0 k3 k4
    have fm : am_cI 60 [am_R mo, am_I 1] (mv mo (dup M 0 0 0) g) = some (v, mv mo M' g) := by
      rw [am_cI]; simp only [en_60, bk_60_0, bk_60_18, bk_60_39, bk_60_43, mv_p0_0, dup_dup, d1, mv_p0_3, mv_p0_4, mv_c0, r2, mv_f0_4, r3, Int.one_ne_zero, Option.bind_some, Bool.cond_decide, am_oI_some, am_oV_some, am_oI_ite, am_oV_ite, am_bind_ite, Int.toNat_natCast, Int.toNat_zero, Int.reduceToNat, ite_true, ite_false, not_true_eq_false, not_false_eq_true, decide_true, decide_false, decide_eq_true_eq, Bool.false_eq_true, Nat.add_zero, am_rok1_0, am_rok1_1, cond_true, cond_false, am_w_nat1, true_or, or_true, false_or, or_false, true_and, and_true, false_and, and_false, Int.reduceEq, Int.reduceNeg, Int.reduceLT, Int.reduceLE, or_self, and_self]
    have wr1 : WR n m N K S' HD M' := WR_tp w r4 (MX_trans mx0 r5) (TF_WT tf r6 r8)
    by_cases ev : v = -1
    · obtain ⟨n', hn', sc, m64⟩ := r9 ev
      rw [ev] at r1 fm
      obtain ⟨s, hsE⟩ : ∃ s : Nat, S 0 0 = s := ⟨(S 0 0).toNat, by omega⟩
      have hs4 : s < 4 := by omega
      have t0 : S' 0 0 = s := by rw [r4.1 0 (by omega)]; exact hsE
      have u12 : M' 0 12 = s := by rw [r5.2.2.2 12 (by omega), dup_t, va_up_ne _ _ (by omega), dup_t, va_up_ne _ _ (by omega), m12]; exact hsE
      have rr := zs_rr (x := x) (N := N) (P := P) (K := K) (T := T) (S := dup S' 0 2 0) (m := m) (A := A) (h := h) hs4
      have rc := zs_c (x := x) (N := N) (P := P) (K := K) (T := T) (S := dup S' 0 2 0) (m := m) (A := A) (h := h) hs4
      have kc := k_cp (x := x) (N := N) (P := P) (K := K) (T := T) (S := dup S' 0 2 0) (m := m) (A := A) (h := h) hs4
      have hsq : s < 2147483647 := by omega
      have t0a : dup S' 0 2 0 0 0 = s := by rw [dup_t, va_up_ne _ _ (by omega)]; exact t0
      have t0b : scp (dup S' 0 2 0) s 0 0 = s := by unfold scp; rw [dup_t, va_up_ne _ _ (by omega), drow_o _ _ (by omega), drow_o _ _ (by omega), drow_o _ _ (by omega)]; exact t0a
      have t0c : dup (scp (dup S' 0 2 0) s) 0 0 ((s + 1 : Nat) : Int) 0 0 = ((s + 1 : Nat) : Int) := by rw [dup_t, va_up_self]
      have lp : ∀ k : Nat, k < 48 → am_run am_ms 136 51 [am_R mo, am_I 1, am_I k, am_K 1] [] (mv mo (drow (dup M' 0 2 0) 5 (cp5 (M' 5) s k)) g) = am_run am_ms 136 51 [am_R mo, am_I 1, am_I ((k + 1 : Nat) : Int), am_K 1] [] (mv mo (drow (dup M' 0 2 0) 5 (cp5 (M' 5) s (k + 1))) g) := by
        intro k hk
        have q12 : drow (dup M' 0 2 0) 5 (cp5 (M' 5) s k) 0 12 = s := by rw [drow_o _ _ (by omega), dup_t, va_up_ne _ _ (by omega)]; exact u12
        have rd5 := mv_r5 (m := mo) (M := drow (dup M' 0 2 0) 5 (cp5 (M' 5) s k)) (h := g) (j := ((192 + k : Nat) : Int)) (by omega) (by omega)
        rw [Int.toNat_natCast, drow_t, show cp5 (M' 5) s k (192 + k) = M' 5 (192 + k) from if_neg (by omega)] at rd5
        have w5 := mv_w5 (m := mo) (M := drow (dup M' 0 2 0) 5 (cp5 (M' 5) s k)) (h := g) (j := ((48 * s + k : Nat) : Int)) (M' 5 (192 + k)) (by omega) (by omega)
        rw [Int.toNat_natCast, dup_drow, cp5_up] at w5
        have hk48 : ¬ (48 : Int) ≤ (k : Int) := by omega
        have hkq : k < 2147483647 := by omega
        rw [bk_136_51]
        simp only [hk48, mv_f0_8, mv_f0_12, q12, bk_136_77, w_48 hs4 hk, w_19 hk, rd5, w5, am_w_nat1 hkq, Option.bind_some, Bool.cond_decide, am_oI_some, am_oV_some, am_oI_ite, am_oV_ite, am_bind_ite, Int.toNat_natCast, Int.toNat_zero, Int.reduceToNat, ite_true, ite_false, not_true_eq_false, not_false_eq_true, decide_true, decide_false, decide_eq_true_eq, Bool.false_eq_true, Nat.add_zero, am_rok1_0, am_rok1_1, cond_true, cond_false, am_w_nat1, true_or, or_true, false_or, or_false, true_and, and_true, false_and, and_false, Int.reduceEq, Int.reduceNeg, Int.reduceLT, Int.reduceLE, or_self, and_self]
      have key := loop_to (fun k : Nat => am_run am_ms 136 51 [am_R mo, am_I 1, am_I k, am_K 1] [] (mv mo (drow (dup M' 0 2 0) 5 (cp5 (M' 5) s k)) g)) 48 lp
      have key' : am_run am_ms 136 51 [am_R mo, am_I 1, am_I 0, am_K 1] [] (mv mo (drow (dup M' 0 2 0) 5 (cp5 (M' 5) s 0)) g) = am_run am_ms 136 51 [am_R mo, am_I 1, am_I 48, am_K 1] [] (mv mo (drow (dup M' 0 2 0) 5 (cp5 (M' 5) s 48)) g) := key
      have ed : drow (dup M' 0 2 0) 5 (cp5 (M' 5) s 0) = dup M' 0 2 0 := by
        rw [cp5_0, show M' 5 = dup M' 0 2 0 5 from (dup_o _ _ _ (by omega)).symm, drow_self]
      rw [ed] at key'
      have a6 : drow (dup M' 0 2 0) 5 (cp5 (M' 5) s 48) 6 4 = ((n' : Nat) : Int) := by rw [drow_o _ _ (by omega), dup_o _ _ _ (by omega)]; exact m64
      have a12 : drow (dup M' 0 2 0) 5 (cp5 (M' 5) s 48) 0 12 = s := by rw [drow_o _ _ (by omega), dup_t, va_up_ne _ _ (by omega)]; exact u12
      have r6' := mv_r6 (m := mo) (M := drow (dup M' 0 2 0) 5 (cp5 (M' 5) s 48)) (h := g) (j := 4) (by omega) (by omega)
      have r6a : am_rd (mv mo (drow (dup M' 0 2 0) 5 (cp5 (M' 5) s 48)) g) (mo + 9 - 3) 0 4 = some ((n' : Nat) : Int) := by
        rw [show mo + 9 - 3 = mo + 6 by omega, r6', show (4 : Int).toNat = 4 from rfl, a6]
      rw [show mo + 9 - 3 = mo + 6 by omega] at r6a
      have w6 := mv_w6 (m := mo) (M := drow (dup M' 0 2 0) 5 (cp5 (M' 5) s 48)) (h := g) (j := (s : Int)) ((n' : Nat) : Int) (by omega) (by omega)
      rw [Int.toNat_natCast] at w6
      have b12 : dup (drow (dup M' 0 2 0) 5 (cp5 (M' 5) s 48)) 6 s ((n' : Nat) : Int) 0 12 = s := by rw [dup_o _ _ _ (by omega)]; exact a12
      have c12 : dup (dup (drow (dup M' 0 2 0) 5 (cp5 (M' 5) s 48)) 6 s ((n' : Nat) : Int)) 0 12 ((s + 1 : Nat) : Int) 0 12 = ((s + 1 : Nat) : Int) := by rw [dup_t, va_up_self]
      refine ⟨s, N, P, K, T, dup (scp (dup S' 0 2 0) s) 0 0 ((s + 1 : Nat) : Int), dup (dup (drow (dup M' 0 2 0) 5 (cp5 (M' 5) s 48)) 6 s ((n' : Nat) : Int)) 0 12 ((s + 1 : Nat) : Int), m, A, h, HD, ?_, ?_, ?_, hs, FR_refl lo m h⟩
      · have hw1 : am_w (((s + 1 : Nat) : Int) - 1) = s := by rw [am_w_id (by omega) (by omega)]; omega
        have c : am_cI 105 [am_R x] (zv x N P K T S m A h) = some ((s : Int), zv x N P K T (dup (scp (dup S' 0 2 0) s) 0 0 ((s + 1 : Nat) : Int)) m A h) := by
          rw [am_cI]; simp only [en_105, bk_105_0, bk_105_21, bk_105_49, zv_f0_3, e4', zv_f0_1, zv_c3, r1, zv_f0_0, zv_p1_1, zv_f0_2, t0a, rr, zv_f3_4, rc, kc, t0b, am_w_nat1 hsq, zv_p0_3, t0c, hw1, Option.bind_some, Bool.cond_decide, am_oI_some, am_oV_some, am_oI_ite, am_oV_ite, am_bind_ite, Int.toNat_natCast, Int.toNat_zero, Int.reduceToNat, ite_true, ite_false, not_true_eq_false, not_false_eq_true, decide_true, decide_false, decide_eq_true_eq, Bool.false_eq_true, Nat.add_zero, am_rok1_0, am_rok1_1, cond_true, cond_false, am_w_nat1, true_or, or_true, false_or, or_false, true_and, and_true, false_and, and_false, Int.reduceEq, Int.reduceNeg, Int.reduceLT, Int.reduceLE, or_self, and_self]
        rw [am_cI]; simp only [en_106, bk_106_0, bk_106_9, bk_106_21, bk_106_22, zv_c0, c, Int.one_ne_zero, Option.bind_some, Bool.cond_decide, am_oI_some, am_oV_some, am_oI_ite, am_oV_ite, am_bind_ite, Int.toNat_natCast, Int.toNat_zero, Int.reduceToNat, ite_true, ite_false, not_true_eq_false, not_false_eq_true, decide_true, decide_false, decide_eq_true_eq, Bool.false_eq_true, Nat.add_zero, am_rok1_0, am_rok1_1, cond_true, cond_false, am_w_nat1, true_or, or_true, false_or, or_false, true_and, and_true, false_and, and_false, Int.reduceEq, Int.reduceNeg, Int.reduceLT, Int.reduceLE, or_self, and_self]
      · have hw1 : am_w (((s + 1 : Nat) : Int) - 1) = s := by rw [am_w_id (by omega) (by omega)]; omega
        rw [am_cI, en_136, bk_136_0]
        simp only [bk_136_24, bk_136_28, bk_136_39, mv_p0_0, d1, mv_f0_12, e4'', mv_c0, fm, mv_p0_2, key', Int.one_ne_zero, Option.bind_some, Bool.cond_decide, am_oI_some, am_oV_some, am_oI_ite, am_oV_ite, am_bind_ite, Int.toNat_natCast, Int.toNat_zero, Int.reduceToNat, ite_true, ite_false, not_true_eq_false, not_false_eq_true, decide_true, decide_false, decide_eq_true_eq, Bool.false_eq_true, Nat.add_zero, am_rok1_0, am_rok1_1, cond_true, cond_false, am_w_nat1, true_or, or_true, false_or, or_false, true_and, and_true, false_and, and_false, Int.reduceEq, Int.reduceNeg, Int.reduceLT, Int.reduceLE, or_self, and_self]
        rw [bk_136_51]
        simp only [bk_136_87, bk_136_109, mv_f0_9, mv_f0_12, a12, r6a, w6, b12, am_w_nat1 hsq, mv_p0_12, c12, hw1, Int.le_refl, Option.bind_some, Bool.cond_decide, am_oI_some, am_oV_some, am_oI_ite, am_oV_ite, am_bind_ite, Int.toNat_natCast, Int.toNat_zero, Int.reduceToNat, ite_true, ite_false, not_true_eq_false, not_false_eq_true, decide_true, decide_false, decide_eq_true_eq, Bool.false_eq_true, Nat.add_zero, am_rok1_0, am_rok1_1, cond_true, cond_false, am_w_nat1, true_or, or_true, false_or, or_false, true_and, and_true, false_and, and_false, Int.reduceEq, Int.reduceNeg, Int.reduceLT, Int.reduceLE, or_self, and_self]
      · clear rr rc kc lp key key' r6' r6a w6 fm r1 r2
        obtain ⟨a, b, c, d, e⟩ := wr1
        have pS : ∀ j, j ≠ 0 → j ≠ 2 → j ≠ 17 + s → dup (scp (dup S' 0 2 0) s) 0 0 ((s + 1 : Nat) : Int) 0 j = S' 0 j := fun j h0 h2 h17 => by
          unfold scp
          rw [dup_t, va_up_ne _ _ h0, dup_t, va_up_ne _ _ h17, drow_o _ _ (by omega), drow_o _ _ (by omega), drow_o _ _ (by omega), dup_t, va_up_ne _ _ h2]
        have p2 : dup (scp (dup S' 0 2 0) s) 0 0 ((s + 1 : Nat) : Int) 0 2 = 0 := by
          unfold scp
          rw [dup_t, va_up_ne _ _ (by omega), dup_t, va_up_ne _ _ (by omega), drow_o _ _ (by omega), drow_o _ _ (by omega), drow_o _ _ (by omega), dup_t, va_up_self]
        have p17 : dup (scp (dup S' 0 2 0) s) 0 0 ((s + 1 : Nat) : Int) 0 (17 + s) = n' := by
          unfold scp
          rw [dup_t, va_up_ne _ _ (by omega), dup_t, va_up_self, dup_t, va_up_ne _ _ (by omega)]
          exact sc.1.1
        have pR : ∀ r, r ≠ 0 → r ≠ 10 + 3 * s → r ≠ 11 + 3 * s → r ≠ 12 + 3 * s → dup (scp (dup S' 0 2 0) s) 0 0 ((s + 1 : Nat) : Int) r = S' r := fun r h0 h1 h2 h3 => by
          unfold scp
          rw [dup_o _ _ _ h0, dup_o _ _ _ h0, drow_o _ _ h3, drow_o _ _ h2, drow_o _ _ h1, dup_o _ _ _ h0]
        have pA : dup (scp (dup S' 0 2 0) s) 0 0 ((s + 1 : Nat) : Int) (10 + 3 * s) = S' 5 := by
          unfold scp
          rw [dup_o _ _ _ (by omega), dup_o _ _ _ (by omega), drow_o _ _ (by omega), drow_o _ _ (by omega), drow_t, dup_o _ _ _ (by omega)]
        have pB : dup (scp (dup S' 0 2 0) s) 0 0 ((s + 1 : Nat) : Int) (11 + 3 * s) = S' 6 := by
          unfold scp
          rw [dup_o _ _ _ (by omega), dup_o _ _ _ (by omega), drow_o _ _ (by omega), drow_t, dup_o _ _ _ (by omega)]
        have pC : dup (scp (dup S' 0 2 0) s) 0 0 ((s + 1 : Nat) : Int) (12 + 3 * s) = S' 7 := by
          unfold scp
          rw [dup_o _ _ _ (by omega), dup_o _ _ _ (by omega), drow_t, dup_o _ _ _ (by omega)]
        have qF : ∀ j, j ≠ 2 → j ≠ 12 → dup (dup (drow (dup M' 0 2 0) 5 (cp5 (M' 5) s 48)) 6 s ((n' : Nat) : Int)) 0 12 ((s + 1 : Nat) : Int) 0 j = M' 0 j := fun j h2 h12 => by
          rw [dup_t, va_up_ne _ _ h12, dup_o _ _ _ (by omega), drow_o _ _ (by omega), dup_t, va_up_ne _ _ h2]
        have q2 : dup (dup (drow (dup M' 0 2 0) 5 (cp5 (M' 5) s 48)) 6 s ((n' : Nat) : Int)) 0 12 ((s + 1 : Nat) : Int) 0 2 = 0 := by rw [dup_t, va_up_ne _ _ (by omega), dup_o _ _ _ (by omega), drow_o _ _ (by omega), dup_t, va_up_self]
        have qR : ∀ r, r ≠ 0 → r ≠ 5 → r ≠ 6 → dup (dup (drow (dup M' 0 2 0) 5 (cp5 (M' 5) s 48)) 6 s ((n' : Nat) : Int)) 0 12 ((s + 1 : Nat) : Int) r = M' r := fun r h0 h5 h6 => by
          rw [dup_o _ _ _ h0, dup_o _ _ _ h6, drow_o _ _ h5, dup_o _ _ _ h0]
        have q5 : dup (dup (drow (dup M' 0 2 0) 5 (cp5 (M' 5) s 48)) 6 s ((n' : Nat) : Int)) 0 12 ((s + 1 : Nat) : Int) 5 = cp5 (M' 5) s 48 := by rw [dup_o _ _ _ (by omega), dup_o _ _ _ (by omega), drow_t]
        have q6 : dup (dup (drow (dup M' 0 2 0) 5 (cp5 (M' 5) s 48)) 6 s ((n' : Nat) : Int)) 0 12 ((s + 1 : Nat) : Int) 6 = va_up (M' 6) s ((n' : Nat) : Int) := by rw [dup_o _ _ _ (by omega), dup_t, drow_o _ _ (by omega), dup_o _ _ _ (by omega)]
        generalize dup (dup (drow (dup M' 0 2 0) 5 (cp5 (M' 5) s 48)) 6 s ((n' : Nat) : Int)) 0 12 ((s + 1 : Nat) : Int) = M2 at c12 qF q2 qR q5 q6 ⊢
        generalize dup (scp (dup S' 0 2 0) s) 0 0 ((s + 1 : Nat) : Int) = S2 at t0c pS p2 p17 pR pA pB pC ⊢
        obtain ⟨⟨_, sc16⟩, sci⟩ := sc
        refine ⟨?_, ?_, ?_, ?_, ?_⟩
        · unfold WT
          rw [p2, q2]
          exact ⟨⟨by omega, by omega, rfl⟩, fun i hi => absurd hi (by omega)⟩
        · obtain ⟨⟨b1, b2, b3⟩, b4⟩ := b
          refine ⟨⟨by rw [t0c]; omega, by rw [t0c]; omega, by rw [t0c, c12]⟩, fun t ht => ?_⟩
          rw [t0c] at ht
          by_cases et : t = s
          · subst et
            rw [p17, q6, va_up_self, pA, pB, pC, q5]
            refine ⟨⟨by omega, by omega, rfl⟩, fun i hi => ?_⟩
            have hi' : i < n' := by omega
            obtain ⟨⟨y1, y2, y3⟩, y4⟩ := sci i hi'
            unfold cp5
            rw [if_pos (by omega), if_pos (by omega), if_pos (by omega), show 192 + (48 * t + 3 * i - 48 * t) = 192 + 3 * i by omega, show 192 + (48 * t + 3 * i + 1 - 48 * t) = 192 + 3 * i + 1 by omega, show 192 + (48 * t + 3 * i + 2 - 48 * t) = 192 + 3 * i + 2 by omega]
            exact ⟨⟨y1, y2, y3⟩, y4⟩
          · have hb4 := b4 t (by omega)
            rw [pS (17 + t) (by omega) (by omega) (by omega), q6, va_up_ne _ _ et, pR (10 + 3 * t) (by omega) (by omega) (by omega) (by omega), pR (11 + 3 * t) (by omega) (by omega) (by omega) (by omega), pR (12 + 3 * t) (by omega) (by omega) (by omega) (by omega), q5]
            refine ⟨hb4.1, fun i hi => ?_⟩
            have h16 := hb4.1.2.1
            have hi16 : i < 16 := by omega
            unfold cp5
            rw [if_neg (by omega), if_neg (by omega), if_neg (by omega)]
            exact hb4.2 i hi
        · intro j hj
          rw [qR 7 (by omega) (by omega) (by omega), pR 9 (by omega) (by omega) (by omega) (by omega)]
          exact c j hj
        · unfold WH at d ⊢
          rw [pS 14 (by omega) (by omega) (by omega), pS 15 (by omega) (by omega) (by omega), pS 1 (by omega) (by omega) (by omega), qF 20 (by omega) (by omega), qF 21 (by omega) (by omega), qF 22 (by omega) (by omega)]
          exact d
        · rcases e with e | ⟨Z, e⟩
          · left
            unfold W0 at e ⊢
            rw [qF 14 (by omega) (by omega), qR 8 (by omega) (by omega) (by omega), pS 1 (by omega) (by omega) (by omega), pS 15 (by omega) (by omega) (by omega)]
            exact e
          · right
            refine ⟨Z, ?_⟩
            have em : ∀ i, mslot M2 i = mslot M' i := by intro i; unfold mslot; rw [qF 20 (by omega) (by omega)]
            have eh : ∀ i : Int, hslot S2 i = hslot S' i := by intro i; unfold hslot; rw [pS 14 (by omega) (by omega) (by omega)]
            unfold WD RU at e ⊢
            rw [qF 14 (by omega) (by omega), qF 23 (by omega) (by omega), qF 24 (by omega) (by omega), qF 25 (by omega) (by omega), qR 3 (by omega) (by omega) (by omega), qR 8 (by omega) (by omega) (by omega), qR 11 (by omega) (by omega) (by omega), qR 12 (by omega) (by omega) (by omega), pS 1 (by omega) (by omega) (by omega), pS 15 (by omega) (by omega) (by omega)]
            refine ⟨e.1, e.2.1, e.2.2.1, e.2.2.2.1, fun i hi => ?_⟩
            rw [em, eh]
            exact e.2.2.2.2 i hi
    · refine ⟨-1, N, P, K, T, S', M', m, A, h, HD, ?_, ?_, wr1, hs, FR_refl lo m h⟩
      · have c : am_cI 105 [am_R x] (zv x N P K T S m A h) = some (-1, zv x N P K T S' m A h) := by
          rw [am_cI]; simp only [en_105, bk_105_0, bk_105_19, zv_f0_3, e4', zv_f0_1, zv_c3, r1, ev, Option.bind_some, Bool.cond_decide, am_oI_some, am_oV_some, am_oI_ite, am_oV_ite, am_bind_ite, Int.toNat_natCast, Int.toNat_zero, Int.reduceToNat, ite_true, ite_false, not_true_eq_false, not_false_eq_true, decide_true, decide_false, decide_eq_true_eq, Bool.false_eq_true, Nat.add_zero, am_rok1_0, am_rok1_1, cond_true, cond_false, am_w_nat1, true_or, or_true, false_or, or_false, true_and, and_true, false_and, and_false, Int.reduceEq, Int.reduceNeg, Int.reduceLT, Int.reduceLE, or_self, and_self]
        rw [am_cI]; simp only [en_106, bk_106_0, bk_106_9, bk_106_21, bk_106_22, zv_c0, c, Int.one_ne_zero, Option.bind_some, Bool.cond_decide, am_oI_some, am_oV_some, am_oI_ite, am_oV_ite, am_bind_ite, Int.toNat_natCast, Int.toNat_zero, Int.reduceToNat, ite_true, ite_false, not_true_eq_false, not_false_eq_true, decide_true, decide_false, decide_eq_true_eq, Bool.false_eq_true, Nat.add_zero, am_rok1_0, am_rok1_1, cond_true, cond_false, am_w_nat1, true_or, or_true, false_or, or_false, true_and, and_true, false_and, and_false, Int.reduceEq, Int.reduceNeg, Int.reduceLT, Int.reduceLE, or_self, and_self]
      · rw [am_cI]; simp only [en_136, bk_136_0, bk_136_24, bk_136_28, bk_136_37, mv_p0_0, d1, mv_f0_12, e4'', mv_c0, fm, ev, Int.one_ne_zero, Option.bind_some, Bool.cond_decide, am_oI_some, am_oV_some, am_oI_ite, am_oV_ite, am_bind_ite, Int.toNat_natCast, Int.toNat_zero, Int.reduceToNat, ite_true, ite_false, not_true_eq_false, not_false_eq_true, decide_true, decide_false, decide_eq_true_eq, Bool.false_eq_true, Nat.add_zero, am_rok1_0, am_rok1_1, cond_true, cond_false, am_w_nat1, true_or, or_true, false_or, or_false, true_and, and_true, false_and, and_false, Int.reduceEq, Int.reduceNeg, Int.reduceLT, Int.reduceLE, or_self, and_self]
end TXS
