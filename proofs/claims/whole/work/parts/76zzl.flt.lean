/-! ===== reading a script, fault ===== -/
theorem w_192 {n : Nat} (h : n < 1000) : am_w (3 * am_w (64 + (n : Int))) = ((192 + 3 * n : Nat) : Int) := by
  rw [am_w_id (x := 64 + (n : Int)) (by omega) (by omega), am_w_id (by omega) (by omega)]
  omega
section FLT
variable {x mo lo n' m : Nat} {A : Nat → Nat} {N P K T S S' : Nat → Nat → Int} {HD : Nat → Nat → Nat → Int} {M M' : Nat → Nat → Int} {h g : am_H} {L : Int} {f : Nat → Int} {a n : Nat}
theorem SCr_c (s : SCr S M n) (e7 : S' 0 7 = S 0 7) (r5 : S' 5 = S 5) (r6 : S' 6 = S 6) (r7 : S' 7 = S 7) (q5 : M' 5 = M 5) : SCr S' M' n := by
  unfold SCr at s ⊢
  rw [e7, r5, r6, r7, q5]
  exact s
theorem sr_m1 (tf : TF L f) (mt : MTp M L f) (h4 : M 0 4 = -1) (ha : (a : Int) ≤ L) (h3 : M 0 3 = a) (c : Int) : am_run am_ms 59 4 [am_R mo, am_I c, am_I 0] [] (mv mo M g) = some (none, mv mo (dup (dup (dup M 6 4 c) 0 3 (skp L f a)) 0 4 (if chr L f (skp L f a) = 0 then -1 else (skp L f a : Int))) g) := by
  have mt' : MTp (dup M 6 4 c) L f := MTp_r mt (by omega) _ _
  have l := l_m (mo := mo) (g := g) tf mt' ha (by rw [dup_o _ _ _ (by omega)]; exact h3)
  have q := chm_end (L := L) (f := f) (a := skp L f a) tf
  have w6 := mv_w6 (m := mo) (M := M) (h := g) (j := 4) c (by omega) (by omega)
  have w6' : am_wr (mv mo M g) (mo + 6) 0 4 c = some (mv mo (dup M 6 4 c) g) := w6
  rw [bk_59_4]
  have k4 : dup (dup M 6 4 c) 0 3 (skp L f a : Int) 0 4 = -1 := by rw [dup_t, va_up_ne _ _ (by omega), dup_o _ _ _ (by omega)]; exact h4
  by_cases e : chr L f (skp L f a) = 0
  · rw [if_pos e, dup_at _ k4]
    rw [q.mpr e] at l
    simp only [bk_59_77, bk_59_96, mv_f0_9, w6', mv_c0, l, Option.bind_some, Bool.cond_decide, am_oI_some, am_oV_some, am_oI_ite, am_oV_ite, am_bind_ite, Int.toNat_natCast, Int.toNat_zero, Int.reduceToNat, ite_true, ite_false, not_true_eq_false, not_false_eq_true, decide_true, decide_false, decide_eq_true_eq, Bool.false_eq_true, Nat.add_zero, am_rok1_0, am_rok1_1, cond_true, cond_false, am_w_nat1, true_or, or_true, false_or, or_false, true_and, and_true, false_and, and_false, Int.reduceEq, Int.reduceNeg, Int.reduceLT, Int.reduceLE, or_self, and_self]
  · rw [if_neg e]
    have e' : ¬ chm L f (skp L f a) = -1 := fun z => e (q.mp z)
    have fl := m_fails (mo := mo) (g := g) k4 (b := (skp L f a : Int)) (by rw [dup_t, va_up_self])
    simp only [bk_59_77, bk_59_96, mv_f0_9, w6', mv_c0, l, e', fl, Option.bind_some, Bool.cond_decide, am_oI_some, am_oV_some, am_oI_ite, am_oV_ite, am_bind_ite, Int.toNat_natCast, Int.toNat_zero, Int.reduceToNat, ite_true, ite_false, not_true_eq_false, not_false_eq_true, decide_true, decide_false, decide_eq_true_eq, Bool.false_eq_true, Nat.add_zero, am_rok1_0, am_rok1_1, cond_true, cond_false, am_w_nat1, true_or, or_true, false_or, or_false, true_and, and_true, false_and, and_false, Int.reduceEq, Int.reduceNeg, Int.reduceLT, Int.reduceLE, or_self, and_self]
theorem sr_step {k : Nat} (tf : TF L f) (n a : Nat) (S M : Nat → Nat → Int) (hk : n + k = 15) (ps : PS S M L f a) (sc : SCr S M n)
    (ih : 0 < k → ∀ (n a : Nat) (S M : Nat → Nat → Int), n + (k - 1) = 15 → PS S M L f a → SCr S M n → ∃ v S' M', am_run am_ms 38 20 [am_R (x + 3), am_I n] [] (zv x N P K T S m A h) = some (some (am_I v), zv x N P K T S' m A h) ∧ am_run am_ms 59 4 [am_R mo, am_I n, am_I 1] [] (mv mo M g) = some (none, mv mo M' g) ∧ M' 0 4 = v ∧ ((SF S S' ∧ MX M M') ∧ CT S' L f ∧ MTp M' L f) ∧ (v = -1 → ∃ n', 1 ≤ n' ∧ SCr S' M' n' ∧ M' 6 4 = ((n' : Nat) : Int))) :
    ∃ v S' M', am_run am_ms 38 20 [am_R (x + 3), am_I n] [] (zv x N P K T S m A h) = some (some (am_I v), zv x N P K T S' m A h) ∧ am_run am_ms 59 4 [am_R mo, am_I n, am_I 1] [] (mv mo M g) = some (none, mv mo M' g) ∧ M' 0 4 = v ∧ ((SF S S' ∧ MX M M') ∧ CT S' L f ∧ MTp M' L f) ∧ (v = -1 → ∃ n', 1 ≤ n' ∧ SCr S' M' n' ∧ M' 6 4 = ((n' : Nat) : Int)) := by
  have h240 := tf.1
  have hn1000 : n < 1000 := by omega
  have hnq : n < 2147483647 := by omega
  have hn16 : ¬ (16 : Int) ≤ (n : Int) := by omega
  obtain ⟨S1, M1, r1, r2, ⟨⟨sf, mx⟩, ct1, mt1⟩, rest⟩ := rs_all (x := x) (mo := mo) (m := m) (A := A) (N := N) (P := P) (K := K) (T := T) (h := h) (g := g) tf ps sc (by omega)
  rcases rest with ⟨q1, q2⟩ | ⟨⟨a1, ps1⟩, sc1⟩
  · have q3 : ¬ S1 0 6 = -1 := by omega
    have q4 : ¬ M1 0 4 = -1 := by omega
    refine ⟨S1 0 6, S1, M1, ?_, ?_, q2, ⟨⟨sf, mx⟩, ct1, mt1⟩, fun e => absurd e q3⟩
    · rw [bk_38_20]; simp only [hn16, zv_c3, r1, zv_f3_9, q3, Option.bind_some, Bool.cond_decide, am_oI_some, am_oV_some, am_oI_ite, am_oV_ite, am_bind_ite, Int.toNat_natCast, Int.toNat_zero, Int.reduceToNat, ite_true, ite_false, not_true_eq_false, not_false_eq_true, decide_true, decide_false, decide_eq_true_eq, Bool.false_eq_true, Nat.add_zero, am_rok1_0, am_rok1_1, cond_true, cond_false, am_w_nat1, true_or, or_true, false_or, or_false, true_and, and_true, false_and, and_false, Int.reduceEq, Int.reduceNeg, Int.reduceLT, Int.reduceLE, or_self, and_self]
    · rw [bk_59_4]; simp only [mv_c0, w_192 hn1000, r2, mv_f0_4, q4, Int.one_ne_zero, Option.bind_some, Bool.cond_decide, am_oI_some, am_oV_some, am_oI_ite, am_oV_ite, am_bind_ite, Int.toNat_natCast, Int.toNat_zero, Int.reduceToNat, ite_true, ite_false, not_true_eq_false, not_false_eq_true, decide_true, decide_false, decide_eq_true_eq, Bool.false_eq_true, Nat.add_zero, am_rok1_0, am_rok1_1, cond_true, cond_false, am_w_nat1, true_or, or_true, false_or, or_false, true_and, and_true, false_and, and_false, Int.reduceEq, Int.reduceNeg, Int.reduceLT, Int.reduceLE, or_self, and_self]
  · obtain ⟨_, ⟨w6, w4⟩, ha1, h51, h31⟩ := ps1
    have te := t_end (x := x) (N := N) (P := P) (K := K) (T := T) (m := m) (A := A) (h := h) tf ct1 ha1 h51
    have l := l_m (mo := mo) (g := g) tf mt1 ha1 h31
    have hb := skp_r (f := f) ha1
    have ss := skp_skp tf a1
    have q1 := chm_eq (L := L) (f := f) (a := skp L f a1) (c := 59) (by omega)
    have hin := chr_in (L := L) (f := f) (a := skp L f a1)
    generalize skp L f a1 = b at te l hb ss q1 hin
    have ct2 : CT (dup S1 0 5 (b : Int)) L f := CT_f ct1 (by omega) _
    have mt2 : MTp (dup M1 0 3 (b : Int)) L f := MTp_f mt1 (by omega) _
    have s5 : dup S1 0 5 (b : Int) 0 5 = b := by rw [dup_t, va_up_self]
    have tt := t_takes (x := x) (N := N) (P := P) (K := K) (T := T) (m := m) (A := A) (h := h) tf ct2 hb.2 s5
    rw [ss, dup_dup] at tt
    have k4 : dup M1 0 3 (b : Int) 0 4 = -1 := by rw [dup_t, va_up_ne _ _ (by omega)]; exact w4
    have k3 : dup M1 0 3 (b : Int) 0 3 = b := by rw [dup_t, va_up_self]
    have rz := sr_m1 (mo := mo) (g := g) tf mt2 k4 hb.2 k3 ((n + 1 : Nat) : Int)
    rw [ss] at rz
    have sf2 : SF S (dup S1 0 5 (b : Int)) := SF_trans sf (SF_f _ (by omega) _)
    by_cases e0 : chr L f b = 0
    · rw [if_pos e0] at te rz
      have e59 : ¬ chm L f b = 59 := fun z => by have := q1.mp z; omega
      refine ⟨-1, dup S1 0 5 (b : Int), dup (dup (dup (dup M1 0 3 (b : Int)) 6 4 ((n + 1 : Nat) : Int)) 0 3 (b : Int)) 0 4 (-1), ?_, ?_, by rw [dup_t, va_up_self], ⟨⟨sf2, MX_trans mx (MX_trans (MX_trans (MX_trans (MX_f _ (j := 3) (by omega) _) (MX_6 _ (by omega) _)) (MX_f _ (j := 3) (by omega) _)) (MX_f _ (j := 4) (by omega) _))⟩, ct2, MTp_f (MTp_f (MTp_r mt2 (by omega) _ _) (by omega) _) (by omega) _⟩, fun _ => ⟨n + 1, by omega, SCr_c sc1 (by rw [dup_t, va_up_ne _ _ (by omega)]) (dup_o _ _ _ (by omega)) (dup_o _ _ _ (by omega)) (dup_o _ _ _ (by omega)) (by rw [dup_o _ _ _ (by omega), dup_o _ _ _ (by omega), dup_o _ _ _ (by omega), dup_o _ _ _ (by omega)]), by rw [dup_o _ _ _ (by omega), dup_o _ _ _ (by omega), dup_t, va_up_self]⟩⟩
      · rw [bk_38_20]; simp only [hn16, zv_c3, r1, zv_f3_9, w6, bk_38_43, te, Int.one_ne_zero, Option.bind_some, Bool.cond_decide, am_oI_some, am_oV_some, am_oI_ite, am_oV_ite, am_bind_ite, Int.toNat_natCast, Int.toNat_zero, Int.reduceToNat, ite_true, ite_false, not_true_eq_false, not_false_eq_true, decide_true, decide_false, decide_eq_true_eq, Bool.false_eq_true, Nat.add_zero, am_rok1_0, am_rok1_1, cond_true, cond_false, am_w_nat1, true_or, or_true, false_or, or_false, true_and, and_true, false_and, and_false, Int.reduceEq, Int.reduceNeg, Int.reduceLT, Int.reduceLE, or_self, and_self]
      · rw [bk_59_4]; simp only [mv_c0, w_192 hn1000, r2, mv_f0_4, w4, bk_59_27, bk_59_43, bk_59_44, bk_59_60, l, e59, am_w_nat1 hnq, rz, Int.one_ne_zero, Option.bind_some, Bool.cond_decide, am_oI_some, am_oV_some, am_oI_ite, am_oV_ite, am_bind_ite, Int.toNat_natCast, Int.toNat_zero, Int.reduceToNat, ite_true, ite_false, not_true_eq_false, not_false_eq_true, decide_true, decide_false, decide_eq_true_eq, Bool.false_eq_true, Nat.add_zero, am_rok1_0, am_rok1_1, cond_true, cond_false, am_w_nat1, true_or, or_true, false_or, or_false, true_and, and_true, false_and, and_false, Int.reduceEq, Int.reduceNeg, Int.reduceLT, Int.reduceLE, or_self, and_self]
    · rw [if_neg e0] at te rz
      by_cases e59 : chr L f b = 59
      · rw [if_pos e59, if_pos e59] at tt
        have hbL := (hin e0).1
        rw [q1.mpr e59] at l
        have hbq : b < 2147483647 := by omega
        by_cases e15 : n = 15
        · have e15' : ((n : Int) = 15) = True := eq_true (by omega)
          have e16' : (((n + 1 : Nat) : Int) = 16) = True := eq_true (by omega)
          have fl := m_fails (mo := mo) (g := g) k4 k3
          refine ⟨b, dup S1 0 5 (b : Int), dup (dup M1 0 3 (b : Int)) 0 4 (b : Int), ?_, ?_, by rw [dup_t, va_up_self], ⟨⟨sf2, MX_trans mx (MX_trans (MX_f _ (j := 3) (by omega) _) (MX_f _ (j := 4) (by omega) _))⟩, ct2, MTp_f mt2 (by omega) _⟩, fun z => absurd z (by omega)⟩
          · rw [bk_38_20]; simp only [hn16, zv_c3, r1, zv_f3_9, w6, bk_38_43, bk_38_52, bk_38_67, te, e15', zv_f3_8, s5, Option.bind_some, Bool.cond_decide, am_oI_some, am_oV_some, am_oI_ite, am_oV_ite, am_bind_ite, Int.toNat_natCast, Int.toNat_zero, Int.reduceToNat, ite_true, ite_false, not_true_eq_false, not_false_eq_true, decide_true, decide_false, decide_eq_true_eq, Bool.false_eq_true, Nat.add_zero, am_rok1_0, am_rok1_1, cond_true, cond_false, am_w_nat1, true_or, or_true, false_or, or_false, true_and, and_true, false_and, and_false, Int.reduceEq, Int.reduceNeg, Int.reduceLT, Int.reduceLE, or_self, and_self]
          · rw [bk_59_4]; simp only [mv_c0, w_192 hn1000, r2, mv_f0_4, w4, bk_59_27, bk_59_44, l, am_w_nat1 hnq, e16', fl, Int.one_ne_zero, Option.bind_some, Bool.cond_decide, am_oI_some, am_oV_some, am_oI_ite, am_oV_ite, am_bind_ite, Int.toNat_natCast, Int.toNat_zero, Int.reduceToNat, ite_true, ite_false, not_true_eq_false, not_false_eq_true, decide_true, decide_false, decide_eq_true_eq, Bool.false_eq_true, Nat.add_zero, am_rok1_0, am_rok1_1, cond_true, cond_false, am_w_nat1, true_or, or_true, false_or, or_false, true_and, and_true, false_and, and_false, Int.reduceEq, Int.reduceNeg, Int.reduceLT, Int.reduceLE, or_self, and_self]
        · have e15' : ¬ (n : Int) = 15 := by omega
          have e16' : ¬ ((n + 1 : Nat) : Int) = 16 := by omega
          have ps2 : PS (dup S1 0 5 ((b + 1 : Nat) : Int)) (dup M1 0 3 ((b + 1 : Nat) : Int)) L f (b + 1) := ⟨⟨CT_f ct1 (by omega) _, MTp_f mt1 (by omega) _⟩, ⟨by rw [dup_t, va_up_ne _ _ (by omega)]; exact w6, by rw [dup_t, va_up_ne _ _ (by omega)]; exact w4⟩, by omega, by rw [dup_t, va_up_self], by rw [dup_t, va_up_self]⟩
          have sc2 : SCr (dup S1 0 5 ((b + 1 : Nat) : Int)) (dup M1 0 3 ((b + 1 : Nat) : Int)) (n + 1) := SCr_c sc1 (by rw [dup_t, va_up_ne _ _ (by omega)]) (dup_o _ _ _ (by omega)) (dup_o _ _ _ (by omega)) (dup_o _ _ _ (by omega)) (dup_o _ _ _ (by omega))
          obtain ⟨v, S', M', u1, u2, u3, ⟨⟨u4, u5⟩, u6⟩, u7⟩ := ih (by omega) (n + 1) (b + 1) (dup S1 0 5 ((b + 1 : Nat) : Int)) (dup M1 0 3 ((b + 1 : Nat) : Int)) (by omega) ps2 sc2
          refine ⟨v, S', M', ?_, ?_, u3, ⟨⟨SF_trans sf (SF_trans (SF_f _ (by omega) _) u4), MX_trans mx (MX_trans (MX_f _ (j := 3) (by omega) _) u5)⟩, u6⟩, u7⟩
          · rw [bk_38_20]; simp only [hn16, zv_c3, r1, zv_f3_9, w6, bk_38_43, bk_38_52, bk_38_72, te, e15', tt, am_w_nat1 hnq, u1, Int.one_ne_zero, Option.bind_some, Bool.cond_decide, am_oI_some, am_oV_some, am_oI_ite, am_oV_ite, am_bind_ite, Int.toNat_natCast, Int.toNat_zero, Int.reduceToNat, ite_true, ite_false, not_true_eq_false, not_false_eq_true, decide_true, decide_false, decide_eq_true_eq, Bool.false_eq_true, Nat.add_zero, am_rok1_0, am_rok1_1, cond_true, cond_false, am_w_nat1, true_or, or_true, false_or, or_false, true_and, and_true, false_and, and_false, Int.reduceEq, Int.reduceNeg, Int.reduceLT, Int.reduceLE, or_self, and_self]
          · rw [bk_59_4]; simp only [mv_c0, w_192 hn1000, r2, mv_f0_4, w4, bk_59_27, bk_59_44, bk_59_60, l, am_w_nat1 hnq, e16', mv_f0_3, k3, am_w_nat1 hbq, mv_p0_3, dup_dup, u2, Int.one_ne_zero, Option.bind_some, Bool.cond_decide, am_oI_some, am_oV_some, am_oI_ite, am_oV_ite, am_bind_ite, Int.toNat_natCast, Int.toNat_zero, Int.reduceToNat, ite_true, ite_false, not_true_eq_false, not_false_eq_true, decide_true, decide_false, decide_eq_true_eq, Bool.false_eq_true, Nat.add_zero, am_rok1_0, am_rok1_1, cond_true, cond_false, am_w_nat1, true_or, or_true, false_or, or_false, true_and, and_true, false_and, and_false, Int.reduceEq, Int.reduceNeg, Int.reduceLT, Int.reduceLE, or_self, and_self]
      · rw [if_neg e59, if_neg e59] at tt
        have e59' : ¬ chm L f b = 59 := fun z => e59 (q1.mp z)
        refine ⟨b, dup S1 0 5 (b : Int), dup (dup (dup (dup M1 0 3 (b : Int)) 6 4 ((n + 1 : Nat) : Int)) 0 3 (b : Int)) 0 4 (b : Int), ?_, ?_, by rw [dup_t, va_up_self], ⟨⟨sf2, MX_trans mx (MX_trans (MX_trans (MX_trans (MX_f _ (j := 3) (by omega) _) (MX_6 _ (by omega) _)) (MX_f _ (j := 3) (by omega) _)) (MX_f _ (j := 4) (by omega) _))⟩, ct2, MTp_f (MTp_f (MTp_r mt2 (by omega) _ _) (by omega) _) (by omega) _⟩, fun z => absurd z (by omega)⟩
        · rw [bk_38_20]
          by_cases e15 : (n : Int) = 15
          · have e15' : ((n : Int) = 15) = True := eq_true e15
            simp only [hn16, zv_c3, r1, zv_f3_9, w6, bk_38_43, bk_38_52, bk_38_67, te, e15', zv_f3_8, s5, Option.bind_some, Bool.cond_decide, am_oI_some, am_oV_some, am_oI_ite, am_oV_ite, am_bind_ite, Int.toNat_natCast, Int.toNat_zero, Int.reduceToNat, ite_true, ite_false, not_true_eq_false, not_false_eq_true, decide_true, decide_false, decide_eq_true_eq, Bool.false_eq_true, Nat.add_zero, am_rok1_0, am_rok1_1, cond_true, cond_false, am_w_nat1, true_or, or_true, false_or, or_false, true_and, and_true, false_and, and_false, Int.reduceEq, Int.reduceNeg, Int.reduceLT, Int.reduceLE, or_self, and_self]
          · simp only [hn16, zv_c3, r1, zv_f3_9, w6, bk_38_43, bk_38_52, bk_38_67, te, e15, tt, zv_f3_8, s5, Option.bind_some, Bool.cond_decide, am_oI_some, am_oV_some, am_oI_ite, am_oV_ite, am_bind_ite, Int.toNat_natCast, Int.toNat_zero, Int.reduceToNat, ite_true, ite_false, not_true_eq_false, not_false_eq_true, decide_true, decide_false, decide_eq_true_eq, Bool.false_eq_true, Nat.add_zero, am_rok1_0, am_rok1_1, cond_true, cond_false, am_w_nat1, true_or, or_true, false_or, or_false, true_and, and_true, false_and, and_false, Int.reduceEq, Int.reduceNeg, Int.reduceLT, Int.reduceLE, or_self, and_self]
        · rw [bk_59_4]; simp only [mv_c0, w_192 hn1000, r2, mv_f0_4, w4, bk_59_27, bk_59_43, bk_59_44, bk_59_60, l, e59', am_w_nat1 hnq, rz, Int.one_ne_zero, Option.bind_some, Bool.cond_decide, am_oI_some, am_oV_some, am_oI_ite, am_oV_ite, am_bind_ite, Int.toNat_natCast, Int.toNat_zero, Int.reduceToNat, ite_true, ite_false, not_true_eq_false, not_false_eq_true, decide_true, decide_false, decide_eq_true_eq, Bool.false_eq_true, Nat.add_zero, am_rok1_0, am_rok1_1, cond_true, cond_false, am_w_nat1, true_or, or_true, false_or, or_false, true_and, and_true, false_and, and_false, Int.reduceEq, Int.reduceNeg, Int.reduceLT, Int.reduceLE, or_self, and_self]
theorem sr_loop (tf : TF L f) : ∀ (k n a : Nat) (S M : Nat → Nat → Int), n + k = 15 → PS S M L f a → SCr S M n → ∃ v S' M', am_run am_ms 38 20 [am_R (x + 3), am_I n] [] (zv x N P K T S m A h) = some (some (am_I v), zv x N P K T S' m A h) ∧ am_run am_ms 59 4 [am_R mo, am_I n, am_I 1] [] (mv mo M g) = some (none, mv mo M' g) ∧ M' 0 4 = v ∧ ((SF S S' ∧ MX M M') ∧ CT S' L f ∧ MTp M' L f) ∧ (v = -1 → ∃ n', 1 ≤ n' ∧ SCr S' M' n' ∧ M' 6 4 = ((n' : Nat) : Int)) := by
  have h240 := tf.1
  intro k
  induction k with
  | zero =>
    intro n a S M hk ps sc
    exact sr_step (k := 0) tf n a S M hk ps sc (fun e => absurd e (by omega))
  | succ k ih =>
    intro n a S M hk ps sc
    exact sr_step (k := k + 1) tf n a S M hk ps sc (fun _ n a S M q => ih n a S M (by omega))
/-- a script is read alike -/
theorem sr_all (tf : TF L f) (ct : CT S L f) (mt : MTp M L f) (h3 : M 0 3 = 0) (h4 : M 0 4 = -1) : ∃ v S' M', am_cI 38 [am_R (x + 3)] (zv x N P K T S m A h) = some (v, zv x N P K T S' m A h) ∧ am_cV 59 [am_R mo] (mv mo M g) = some (mv mo M' g) ∧ M' 0 4 = v ∧ ((SF S S' ∧ MX M M') ∧ CT S' L f ∧ MTp M' L f) ∧ (v = -1 → ∃ n', 1 ≤ n' ∧ SCr S' M' n' ∧ M' 6 4 = ((n' : Nat) : Int)) := by
  have h240 := tf.1
  have ct1 : CT (dup (dup (dup S 0 5 0) 0 6 (-1)) 0 7 0) L f := CT_f (CT_f (CT_f ct (by omega) _) (by omega) _) (by omega) _
  obtain ⟨v, S', M', r1, r2, r3, ⟨⟨r4, r5⟩, r6⟩, r7⟩ := sr_loop (x := x) (mo := mo) (m := m) (A := A) (N := N) (P := P) (K := K) (T := T) (h := h) (g := g) tf 15 0 0 (dup (dup (dup S 0 5 0) 0 6 (-1)) 0 7 0) M (by omega) ⟨⟨ct1, mt⟩, ⟨by rw [dup_t, va_up_ne _ _ (by omega), dup_t, va_up_self], h4⟩, by omega, by rw [dup_t, va_up_ne _ _ (by omega), dup_t, va_up_ne _ _ (by omega), dup_t, va_up_self]; rfl, h3⟩ ⟨⟨by rw [dup_t, va_up_self]; rfl, by omega⟩, fun i hi => absurd hi (by omega)⟩
  refine ⟨v, S', M', ?_, ?_, r3, ⟨⟨SF_trans (SF_trans (SF_trans (SF_f S (by omega) _) (SF_f _ (by omega) _)) (SF_f _ (by omega) _)) r4, r5⟩, r6⟩, r7⟩
  · have r1' : am_run am_ms 38 20 [am_R (x + 3), am_I 0] [] (zv x N P K T (dup (dup (dup S 0 5 0) 0 6 (-1)) 0 7 0) m A h) = some (some (am_I v), zv x N P K T S' m A h) := r1
    rw [am_cI]
    simp only [en_38, bk_38_0, zv_p3_8, zv_p3_9, zv_f3_4, zv_p7_3, r1', Option.bind_some, Bool.cond_decide, am_oI_some, am_oV_some, am_oI_ite, am_oV_ite, am_bind_ite, Int.toNat_natCast, Int.toNat_zero, Int.reduceToNat, ite_true, ite_false, not_true_eq_false, not_false_eq_true, decide_true, decide_false, decide_eq_true_eq, Bool.false_eq_true, Nat.add_zero, am_rok1_0, am_rok1_1, cond_true, cond_false, am_w_nat1, true_or, or_true, false_or, or_false, true_and, and_true, false_and, and_false, Int.reduceEq, Int.reduceNeg, Int.reduceLT, Int.reduceLE, or_self, and_self]
  · have r2' : am_run am_ms 59 4 [am_R mo, am_I 0, am_I 1] [] (mv mo M g) = some (none, mv mo M' g) := r2
    rw [am_cV]
    simp only [en_59, bk_59_0, r2', Option.bind_some, Bool.cond_decide, am_oI_some, am_oV_some, am_oI_ite, am_oV_ite, am_bind_ite, Int.toNat_natCast, Int.toNat_zero, Int.reduceToNat, ite_true, ite_false, not_true_eq_false, not_false_eq_true, decide_true, decide_false, decide_eq_true_eq, Bool.false_eq_true, Nat.add_zero, am_rok1_0, am_rok1_1, cond_true, cond_false, am_w_nat1, true_or, or_true, false_or, or_false, true_and, and_true, false_and, and_false, Int.reduceEq, Int.reduceNeg, Int.reduceLT, Int.reduceLE, or_self, and_self]
theorem WT_TF (w : WT S M) : TF (S 0 2) (S 1) ∧ CT S (S 0 2) (S 1) ∧ MTp M (S 0 2) (S 1) := ⟨⟨⟨w.1.1, w.1.2.1⟩, fun i hi => (w.2 i hi).1⟩, ⟨rfl, rfl⟩, w.1.2.2, fun i hi => (w.2 i hi).2⟩
theorem TF_WT (tf : TF L f) (ct : CT S L f) (mt : MTp M L f) : WT S M := by
  obtain ⟨c1, c2⟩ := ct
  unfold WT
  rw [c1, c2]
  exact ⟨⟨tf.1.1, tf.1.2, mt.1⟩, fun i hi => ⟨tf.2 i hi, mt.2 i hi⟩⟩
theorem cl_fault (w : WR n m N K S HD M) (hs : HS lo m A HD h) (b : Int) : CL 39 60 [am_I b] x mo lo n m A N P K T S M h g := by
  obtain ⟨tf, ct, mt⟩ := WT_TF w.1
  have mt0 : MTp (dup (dup (dup M 0 0 0) 0 3 0) 0 4 (-1)) (S 0 2) (S 1) := MTp_f (MTp_f (MTp_f mt (by omega) _) (by omega) _) (by omega) _
  have k3 : dup (dup (dup M 0 0 0) 0 3 0) 0 4 (-1) 0 3 = 0 := by rw [dup_t, va_up_ne _ _ (by omega), dup_t, va_up_self]
  have k4 : dup (dup (dup M 0 0 0) 0 3 0) 0 4 (-1) 0 4 = -1 := by rw [dup_t, va_up_self]
  have mx0 : MX M (dup (dup (dup M 0 0 0) 0 3 0) 0 4 (-1)) := MX_trans (MX_trans (MX_f M (j := 0) (by omega) _) (MX_f _ (j := 3) (by omega) _)) (MX_f _ (j := 4) (by omega) _)
  have d1 := m_isIn b 0 1 (mv mo (dup M 0 0 0) g)
  by_cases e0 : b = 0
  · subst e0
    rw [if_pos (by omega)] at d1
    obtain ⟨v, S', M', r1, r2, r3, ⟨⟨r4, r5⟩, r6, r8⟩, _⟩ := rd_all (x := x) (mo := mo) (m := m) (A := A) (N := N) (P := P) (K := K) (T := T) (h := h) (g := g) tf ct mt0 k3 k4
    refine ⟨v, N, P, K, T, S', M', m, A, h, HD, ?_, ?_, WR_tp w r4 (MX_trans mx0 r5) (TF_WT tf r6 r8), hs, FR_refl lo m h⟩
    · rw [am_cI]; simp only [en_39, bk_39_0, bk_39_12, bk_39_27, bk_39_29, zv_f0_1, zv_c3, r1, Option.bind_some, Bool.cond_decide, am_oI_some, am_oV_some, am_oI_ite, am_oV_ite, am_bind_ite, Int.toNat_natCast, Int.toNat_zero, Int.reduceToNat, ite_true, ite_false, not_true_eq_false, not_false_eq_true, decide_true, decide_false, decide_eq_true_eq, Bool.false_eq_true, Nat.add_zero, am_rok1_0, am_rok1_1, cond_true, cond_false, am_w_nat1, true_or, or_true, false_or, or_false, true_and, and_true, false_and, and_false, Int.reduceEq, Int.reduceNeg, Int.reduceLT, Int.reduceLE, or_self, and_self]
    · rw [am_cI]; simp only [en_60, bk_60_0, bk_60_18, bk_60_39, bk_60_43, mv_p0_0, d1, mv_p0_3, mv_p0_4, mv_c0, r2, mv_f0_4, r3, Int.one_ne_zero, Option.bind_some, Bool.cond_decide, am_oI_some, am_oV_some, am_oI_ite, am_oV_ite, am_bind_ite, Int.toNat_natCast, Int.toNat_zero, Int.reduceToNat, ite_true, ite_false, not_true_eq_false, not_false_eq_true, decide_true, decide_false, decide_eq_true_eq, Bool.false_eq_true, Nat.add_zero, am_rok1_0, am_rok1_1, cond_true, cond_false, am_w_nat1, true_or, or_true, false_or, or_false, true_and, and_true, false_and, and_false, Int.reduceEq, Int.reduceNeg, Int.reduceLT, Int.reduceLE, or_self, and_self]
  · by_cases e1 : b = 1
    · subst e1
      rw [if_pos (by omega)] at d1
      obtain ⟨v, S', M', r1, r2, r3, ⟨⟨r4, r5⟩, r6, r8⟩, _⟩ := sr_all (x := x) (mo := mo) (m := m) (A := A) (N := N) (P := P) (K := K) (T := T) (h := h) (g := g) tf ct mt0 k3 k4
      refine ⟨v, N, P, K, T, S', M', m, A, h, HD, ?_, ?_, WR_tp w r4 (MX_trans mx0 r5) (TF_WT tf r6 r8), hs, FR_refl lo m h⟩
      · rw [am_cI]; simp only [en_39, bk_39_0, bk_39_12, bk_39_27, bk_39_29, zv_f0_1, zv_c3, r1, Int.one_ne_zero, Option.bind_some, Bool.cond_decide, am_oI_some, am_oV_some, am_oI_ite, am_oV_ite, am_bind_ite, Int.toNat_natCast, Int.toNat_zero, Int.reduceToNat, ite_true, ite_false, not_true_eq_false, not_false_eq_true, decide_true, decide_false, decide_eq_true_eq, Bool.false_eq_true, Nat.add_zero, am_rok1_0, am_rok1_1, cond_true, cond_false, am_w_nat1, true_or, or_true, false_or, or_false, true_and, and_true, false_and, and_false, Int.reduceEq, Int.reduceNeg, Int.reduceLT, Int.reduceLE, or_self, and_self]
      · rw [am_cI]; simp only [en_60, bk_60_0, bk_60_18, bk_60_39, bk_60_43, mv_p0_0, d1, mv_p0_3, mv_p0_4, mv_c0, r2, mv_f0_4, r3, Int.one_ne_zero, Option.bind_some, Bool.cond_decide, am_oI_some, am_oV_some, am_oI_ite, am_oV_ite, am_bind_ite, Int.toNat_natCast, Int.toNat_zero, Int.reduceToNat, ite_true, ite_false, not_true_eq_false, not_false_eq_true, decide_true, decide_false, decide_eq_true_eq, Bool.false_eq_true, Nat.add_zero, am_rok1_0, am_rok1_1, cond_true, cond_false, am_w_nat1, true_or, or_true, false_or, or_false, true_and, and_true, false_and, and_false, Int.reduceEq, Int.reduceNeg, Int.reduceLT, Int.reduceLE, or_self, and_self]
    · rw [if_neg (by omega)] at d1
      refine ⟨-2, N, P, K, T, S, dup M 0 0 0, m, A, h, HD, ?_, ?_, WR_tp w (SF_refl S) (MX_f M (by omega) 0) (WT_0 w.1), hs, FR_refl lo m h⟩
      · rw [am_cI]; simp only [en_39, bk_39_0, bk_39_12, bk_39_27, bk_39_29, e0, e1, Option.bind_some, Bool.cond_decide, am_oI_some, am_oV_some, am_oI_ite, am_oV_ite, am_bind_ite, Int.toNat_natCast, Int.toNat_zero, Int.reduceToNat, ite_true, ite_false, not_true_eq_false, not_false_eq_true, decide_true, decide_false, decide_eq_true_eq, Bool.false_eq_true, Nat.add_zero, am_rok1_0, am_rok1_1, cond_true, cond_false, am_w_nat1, true_or, or_true, false_or, or_false, true_and, and_true, false_and, and_false, Int.reduceEq, Int.reduceNeg, Int.reduceLT, Int.reduceLE, or_self, and_self]
      · rw [am_cI]; simp only [en_60, bk_60_0, bk_60_18, bk_60_39, bk_60_43, mv_p0_0, d1, Option.bind_some, Bool.cond_decide, am_oI_some, am_oV_some, am_oI_ite, am_oV_ite, am_bind_ite, Int.toNat_natCast, Int.toNat_zero, Int.reduceToNat, ite_true, ite_false, not_true_eq_false, not_false_eq_true, decide_true, decide_false, decide_eq_true_eq, Bool.false_eq_true, Nat.add_zero, am_rok1_0, am_rok1_1, cond_true, cond_false, am_w_nat1, true_or, or_true, false_or, or_false, true_and, and_true, false_and, and_false, Int.reduceEq, Int.reduceNeg, Int.reduceLT, Int.reduceLE, or_self, and_self]
end FLT
