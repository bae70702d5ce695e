/-! ===== elder: the model's tools ===== -/
/-- the row of living blocks, laid up to a place -/
def lvr (N : Nat → Nat → Int) (f : Nat → Int) (t j : Nat) : Int := if j < t then (if lvb N j = true then N 9 j else 0) else f j
theorem lvr_up (N M : Nat → Nat → Int) (p : Nat) {v : Int} (hv : v = if lvb N p = true then N 9 p else 0) : dup (drow M 14 (lvr N (M 14) p)) 14 p v = drow M 14 (lvr N (M 14) (p + 1)) := by
  funext r
  by_cases hr : r = 14
  · rw [hr, dup_t, drow_t, drow_t]
    funext j
    by_cases e : j = p
    · rw [e, va_up_self]
      unfold lvr
      rw [if_pos (by omega)]
      exact hv
    · rw [va_up_ne _ _ e]
      unfold lvr
      by_cases e2 : j < p
      · rw [if_pos e2, if_pos (show j < p + 1 by omega)]
      · rw [if_neg e2, if_neg (show ¬ j < p + 1 by omega)]
  · rw [dup_o _ _ _ hr, drow_o _ _ hr, drow_o _ _ hr]
def od_b (L : Nat → Int) (v : Int) (n : Nat) : Int := bst (fun j => decide (v < L j)) (fun j k => decide (L j < L k)) n
theorem od_s (L : Nat → Int) (v : Int) (p : Nat) : od_b L v (p + 1) = if decide (v < L p) = true then (if od_b L v p = -1 ∨ decide (L p < L (od_b L v p).toNat) = true then (p : Int) else od_b L v p) else od_b L v p := rfl
theorem od_spec (L : Nat → Int) (v : Int) : ∀ n, (od_b L v n = -1 ∧ ∀ j, j < n → ¬ v < L j) ∨ ∃ o : Nat, o < n ∧ od_b L v n = o ∧ v < L o ∧ ∀ j, j < n → v < L j → L o ≤ L j := by
  intro n
  induction n with
  | zero => exact Or.inl ⟨rfl, fun j hj => by omega⟩
  | succ n ih =>
    rw [od_s]
    by_cases e0 : v < L n
    · rw [if_pos (decide_eq_true e0)]
      rcases ih with ⟨a1, a2⟩ | ⟨o, o1, o2, o3, o4⟩
      · rw [if_pos (Or.inl a1)]
        refine Or.inr ⟨n, by omega, rfl, e0, fun j hj hv => ?_⟩
        by_cases t : j = n
        · rw [t]; omega
        · exact absurd hv (a2 j (by omega))
      · rw [o2, Int.toNat_natCast]
        by_cases e2 : L n < L o
        · rw [if_pos (Or.inr (decide_eq_true e2))]
          refine Or.inr ⟨n, by omega, rfl, e0, fun j hj hv => ?_⟩
          by_cases t : j = n
          · rw [t]; omega
          · have := o4 j (by omega) hv; omega
        · rw [if_neg (fun q => q.elim (fun t => by omega) (fun t => e2 (of_decide_eq_true t)))]
          refine Or.inr ⟨o, by omega, rfl, o3, fun j hj hv => ?_⟩
          by_cases t : j = n
          · rw [t]; omega
          · exact o4 j (by omega) hv
    · rw [if_neg (fun t => e0 (of_decide_eq_true t))]
      rcases ih with ⟨a1, a2⟩ | ⟨o, o1, o2, o3, o4⟩
      · refine Or.inl ⟨a1, fun j hj => ?_⟩
        by_cases t : j = n
        · rw [t]; exact e0
        · exact a2 j (by omega)
      · refine Or.inr ⟨o, by omega, o2, o3, fun j hj hv => ?_⟩
        by_cases t : j = n
        · rw [t] at hv; exact absurd hv e0
        · exact o4 j (by omega) hv
section ELDM
variable {mo Z : Nat} {N M Ad : Nat → Nat → Int} {g : am_H}
theorem m_oldest (v : Int) : am_cI 273 [am_R mo, am_I v] (mv mo M g) = some (od_b (M 14) v 128, mv mo M g) := by
  have step : ∀ p : Nat, p < 128 → am_run am_ms 273 4 [am_R mo, am_I v, am_I (od_b (M 14) v p), am_I p] [] (mv mo M g) = am_run am_ms 273 4 [am_R mo, am_I v, am_I (od_b (M 14) v (p + 1)), am_I ((p + 1 : Nat) : Int)] [] (mv mo M g) := by
    intro p hp
    have hb : -1 ≤ od_b (M 14) v p ∧ od_b (M 14) v p < p := bst_le _ _ p
    rw [od_s]
    generalize od_b (M 14) v p = B at hb ⊢
    rw [bk_273_4]
    by_cases e0 : v < M 14 p
    · rw [if_pos (decide_eq_true e0)]
      by_cases e1 : B = -1
      · rw [if_pos (Or.inl e1)]
        simp (disch := omega) only [bk_273_41, bk_273_43, mv_f0_30, mv_r14, Option.bind_some, Bool.cond_decide, am_oI_some, am_oV_some, am_oI_ite, am_oV_ite, am_bind_ite, Int.toNat_natCast, Int.toNat_zero, Int.reduceToNat, ite_true, ite_false, not_true_eq_false, not_false_eq_true, decide_true, decide_false, decide_eq_true_eq, Bool.false_eq_true, Nat.add_zero, am_rok1_0, am_rok1_1, cond_true, cond_false, am_w_nat1, true_or, or_true, false_or, or_false, true_and, and_true, false_and, and_false, Int.reduceEq, Int.reduceNeg, Int.reduceLT, Int.reduceLE, or_self, and_self, if_pos, if_neg]
      · obtain ⟨b, rfl⟩ : ∃ b : Nat, B = b := ⟨B.toNat, by omega⟩
        rw [Int.toNat_natCast]
        by_cases e2 : M 14 p < M 14 b
        · rw [if_pos (Or.inr (decide_eq_true e2))]
          simp (disch := omega) only [bk_273_30, bk_273_41, bk_273_43, mv_f0_30, mv_r14, Option.bind_some, Bool.cond_decide, am_oI_some, am_oV_some, am_oI_ite, am_oV_ite, am_bind_ite, Int.toNat_natCast, Int.toNat_zero, Int.reduceToNat, ite_true, ite_false, not_true_eq_false, not_false_eq_true, decide_true, decide_false, decide_eq_true_eq, Bool.false_eq_true, Nat.add_zero, am_rok1_0, am_rok1_1, cond_true, cond_false, am_w_nat1, true_or, or_true, false_or, or_false, true_and, and_true, false_and, and_false, Int.reduceEq, Int.reduceNeg, Int.reduceLT, Int.reduceLE, or_self, and_self, if_pos, if_neg]
        · rw [if_neg (fun q => q.elim e1 (fun t => e2 (of_decide_eq_true t)))]
          simp (disch := omega) only [bk_273_30, bk_273_43, mv_f0_30, mv_r14, Option.bind_some, Bool.cond_decide, am_oI_some, am_oV_some, am_oI_ite, am_oV_ite, am_bind_ite, Int.toNat_natCast, Int.toNat_zero, Int.reduceToNat, ite_true, ite_false, not_true_eq_false, not_false_eq_true, decide_true, decide_false, decide_eq_true_eq, Bool.false_eq_true, Nat.add_zero, am_rok1_0, am_rok1_1, cond_true, cond_false, am_w_nat1, true_or, or_true, false_or, or_false, true_and, and_true, false_and, and_false, Int.reduceEq, Int.reduceNeg, Int.reduceLT, Int.reduceLE, or_self, and_self, if_pos, if_neg]
    · rw [if_neg (fun t => e0 (of_decide_eq_true t))]
      simp (disch := omega) only [bk_273_43, mv_f0_30, mv_r14, Option.bind_some, Bool.cond_decide, am_oI_some, am_oV_some, am_oI_ite, am_oV_ite, am_bind_ite, Int.toNat_natCast, Int.toNat_zero, Int.reduceToNat, ite_true, ite_false, not_true_eq_false, not_false_eq_true, decide_true, decide_false, decide_eq_true_eq, Bool.false_eq_true, Nat.add_zero, am_rok1_0, am_rok1_1, cond_true, cond_false, am_w_nat1, true_or, or_true, false_or, or_false, true_and, and_true, false_and, and_false, Int.reduceEq, Int.reduceNeg, Int.reduceLT, Int.reduceLE, or_self, and_self, if_pos, if_neg]
  have key : am_run am_ms 273 4 [am_R mo, am_I v, am_I (-1), am_I 0] [] (mv mo M g) = am_run am_ms 273 4 [am_R mo, am_I v, am_I (od_b (M 14) v 128), am_I 128] [] (mv mo M g) := loop_to (fun p : Nat => am_run am_ms 273 4 [am_R mo, am_I v, am_I (od_b (M 14) v p), am_I p] [] (mv mo M g)) 128 step
  rw [am_cI, en_273, bk_273_0, key, bk_273_4]
  simp (disch := omega) only [bk_273_49, Option.bind_some, Bool.cond_decide, am_oI_some, am_oV_some, am_oI_ite, am_oV_ite, am_bind_ite, Int.toNat_natCast, Int.toNat_zero, Int.reduceToNat, ite_true, ite_false, not_true_eq_false, not_false_eq_true, decide_true, decide_false, decide_eq_true_eq, Bool.false_eq_true, Nat.add_zero, am_rok1_0, am_rok1_1, cond_true, cond_false, am_w_nat1, true_or, or_true, false_or, or_false, true_and, and_true, false_and, and_false, Int.reduceEq, Int.reduceNeg, Int.reduceLT, Int.reduceLE, or_self, and_self, if_pos, if_neg]
theorem m_lays (iv : IV N Z 3) (rl : RL N Ad true (fun _ => 0) 0 8) (mr : MR M Ad) (p8 : ∀ j, j < 609 → M 8 j = pack Ad j) : am_cV 272 [am_R mo] (mv mo M g) = some (mv mo (drow M 14 (lvr N (M 14) 128)) g) := by
  have step : ∀ p : Nat, p < 128 → am_run am_ms 272 2 [am_R mo, am_I p] [] (mv mo (drow M 14 (lvr N (M 14) p)) g) = am_run am_ms 272 2 [am_R mo, am_I ((p + 1 : Nat) : Int)] [] (mv mo (drow M 14 (lvr N (M 14) (p + 1))) g) := by
    intro p hp
    have ev := fun v => lvr_up N M p (v := v)
    have mrt : MR (drow M 14 (lvr N (M 14) p)) Ad := by
      unfold MR at mr ⊢
      rw [drow_o _ _ (show (3 : Nat) ≠ 14 by omega), drow_o _ _ (show (0 : Nat) ≠ 14 by omega)]
      exact mr
    have pkt : ∀ g, mv mo (drow M 14 (lvr N (M 14) p)) g = mv mo (drow (drow M 14 (lvr N (M 14) p)) 8 (pack Ad)) g := fun g => mv_pk (by omega) (by rw [drow_o _ _ (show (8 : Nat) ≠ 14 by omega)]; exact p8)
    generalize drow M 14 (lvr N (M 14) p) = Mt at ev mrt pkt ⊢
    have c1 := m_isThere (mo := mo) (g := g) (c := 8) (by omega) mrt (rl_AW iv rl) hp
    rw [← pkt, rl_has rl] at c1
    rw [bk_272_2]
    cases e0 : cd_has N p with
    | false =>
      rw [e0] at c1
      rw [← ev 0 (by unfold lvb; rw [e0]; rfl)]
      simp (disch := omega) only [bk_272_51, bk_272_52, mv_f0_30, mv_f0_15, mv_c0, c1, mv_w14, Option.bind_some, Bool.cond_decide, am_oI_some, am_oV_some, am_oI_ite, am_oV_ite, am_bind_ite, Int.toNat_natCast, Int.toNat_zero, Int.reduceToNat, ite_true, ite_false, not_true_eq_false, not_false_eq_true, decide_true, decide_false, decide_eq_true_eq, Bool.false_eq_true, Nat.add_zero, am_rok1_0, am_rok1_1, cond_true, cond_false, am_w_nat1, true_or, or_true, false_or, or_false, true_and, and_true, false_and, and_false, Int.reduceEq, Int.reduceNeg, Int.reduceLT, Int.reduceLE, or_self, and_self, if_pos, if_neg]
    | true =>
      rw [e0] at c1
      have c2 := m_isLive (m := mo) (h := g) (c := 8) (by omega) mrt (rl_AW iv rl) hp
      rw [← pkt, rl_live iv rl hp e0] at c2
      cases e1 : cd_live N p with
      | false =>
        rw [e1] at c2
        rw [← ev 0 (by unfold lvb; rw [e0, e1]; rfl)]
        simp (disch := omega) only [bk_272_28, bk_272_51, bk_272_52, mv_f0_30, mv_f0_15, mv_c0, c1, c2, mv_w14, Option.bind_some, Bool.cond_decide, am_oI_some, am_oV_some, am_oI_ite, am_oV_ite, am_bind_ite, Int.toNat_natCast, Int.toNat_zero, Int.reduceToNat, ite_true, ite_false, not_true_eq_false, not_false_eq_true, decide_true, decide_false, decide_eq_true_eq, Bool.false_eq_true, Nat.add_zero, am_rok1_0, am_rok1_1, cond_true, cond_false, am_w_nat1, true_or, or_true, false_or, or_false, true_and, and_true, false_and, and_false, Int.reduceEq, Int.reduceNeg, Int.reduceLT, Int.reduceLE, or_self, and_self, if_pos, if_neg]
      | true =>
        rw [e1] at c2
        have r9 := mr9 (m := mo) (M := Mt) (A := Ad) (h := g) (c := 8) (by omega) (z := p) hp
        rw [← pkt, (rl.2.2.2.1 p hp e0).2.2] at r9
        rw [← ev (N 9 p) (by unfold lvb; rw [e0, e1]; rfl)]
        simp (disch := omega) only [bk_272_28, bk_272_52, mv_f0_30, mv_f0_15, mv_c0, c1, c2, nte288, r9, mv_w14, Option.bind_some, Bool.cond_decide, am_oI_some, am_oV_some, am_oI_ite, am_oV_ite, am_bind_ite, Int.toNat_natCast, Int.toNat_zero, Int.reduceToNat, ite_true, ite_false, not_true_eq_false, not_false_eq_true, decide_true, decide_false, decide_eq_true_eq, Bool.false_eq_true, Nat.add_zero, am_rok1_0, am_rok1_1, cond_true, cond_false, am_w_nat1, true_or, or_true, false_or, or_false, true_and, and_true, false_and, and_false, Int.reduceEq, Int.reduceNeg, Int.reduceLT, Int.reduceLE, or_self, and_self, if_pos, if_neg]
  have key := loop_to (fun p : Nat => am_run am_ms 272 2 [am_R mo, am_I p] [] (mv mo (drow M 14 (lvr N (M 14) p)) g)) 128 step
  have e0 : drow M 14 (lvr N (M 14) 0) = M := by
    funext r
    by_cases hr : r = 14
    · rw [hr, drow_t]; rfl
    · rw [drow_o _ _ hr]
  have key' : am_run am_ms 272 2 [am_R mo, am_I 0] [] (mv mo M g) = am_run am_ms 272 2 [am_R mo, am_I 128] [] (mv mo (drow M 14 (lvr N (M 14) 128)) g) := by
    have k2 := key
    (try dsimp only at k2)
    rw [e0] at k2
    exact k2
  rw [am_cV, en_272, bk_272_0, key', bk_272_2]
  simp (disch := omega) only [bk_272_59, Option.bind_some, Bool.cond_decide, am_oI_some, am_oV_some, am_oI_ite, am_oV_ite, am_bind_ite, Int.toNat_natCast, Int.toNat_zero, Int.reduceToNat, ite_true, ite_false, not_true_eq_false, not_false_eq_true, decide_true, decide_false, decide_eq_true_eq, Bool.false_eq_true, Nat.add_zero, am_rok1_0, am_rok1_1, cond_true, cond_false, am_w_nat1, true_or, or_true, false_or, or_false, true_and, and_true, false_and, and_false, Int.reduceEq, Int.reduceNeg, Int.reduceLT, Int.reduceLE, or_self, and_self, if_pos, if_neg]
end ELDM
