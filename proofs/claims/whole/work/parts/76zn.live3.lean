/-! ===== most: blocks that live, the model's count ===== -/
def lvm (N : Nat → Nat → Int) (b : Int) (p : Nat) : Bool := lvb N p && decide (b = 0 ∨ N 8 p = -1)
section LIVEM
variable {mo Z : Nat} {N M Ad : Nat → Nat → Int} {g : am_H}
theorem m_livingMany (iv : IV N Z 3) (rl : RL N Ad true (fun _ => 0) 0 8) (mr : MR M Ad) (p8 : ∀ j, j < 609 → M 8 j = pack Ad j) (b : Int) : am_cI 295 [am_R mo, am_I b] (mv mo M g) = some ((cnt (lvm N b) 128 : Int), mv mo (drow M 14 (lvr N (M 14) 128)) g) := by
  have c1 := m_lays (mo := mo) (g := g) iv rl mr p8
  have hL : ∀ j, j < 128 → drow M 14 (lvr N (M 14) 128) 14 j = if lvb N j = true then N 9 j else 0 := fun j hj => by
    rw [drow_t]
    unfold lvr
    rw [if_pos hj]
  have pk1 : ∀ g, mv mo (drow M 14 (lvr N (M 14) 128)) g = mv mo (drow (drow M 14 (lvr N (M 14) 128)) 8 (pack Ad)) g := fun g => mv_pk (by omega) (by rw [drow_o _ _ (show (8 : Nat) ≠ 14 by omega)]; exact p8)
  generalize drow M 14 (lvr N (M 14) 128) = M1 at c1 hL pk1 ⊢
  have step : ∀ p : Nat, p < 128 → am_run am_ms 295 8 [am_R mo, am_I b, am_I (cnt (lvm N b) p), am_I p] [] (mv mo M1 g) = am_run am_ms 295 8 [am_R mo, am_I b, am_I (cnt (lvm N b) (p + 1)), am_I ((p + 1 : Nat) : Int)] [] (mv mo M1 g) := by
    intro p hp
    have hle := cnt_le (lvm N b) p
    have r1 := mv_r14 (m := mo) (M := M1) (h := g) (j := (p : Int)) (by omega) (by omega)
    rw [Int.toNat_natCast, hL p hp] at r1
    rw [bk_295_8]
    cases e0 : lvb N p with
    | false =>
      rw [e0, if_neg (by decide)] at r1
      have hc : lvm N b p = false := by unfold lvm; rw [e0]; rfl
      rw [cnt_f hc]
      simp (disch := omega) only [bk_295_47, bk_295_48, mv_f0_30, r1, pz0, Option.bind_some, Bool.cond_decide, am_oI_some, am_oV_some, am_oI_ite, am_oV_ite, am_bind_ite, Int.toNat_natCast, Int.toNat_zero, Int.reduceToNat, ite_true, ite_false, not_true_eq_false, not_false_eq_true, decide_true, decide_false, decide_eq_true_eq, Bool.false_eq_true, Nat.add_zero, am_rok1_0, am_rok1_1, cond_true, cond_false, am_w_nat1, true_or, or_true, false_or, or_false, true_and, and_true, false_and, and_false, Int.reduceEq, Int.reduceNeg, Int.reduceLT, Int.reduceLE, or_self, and_self, if_pos, if_neg]
    | true =>
      rw [e0, if_pos rfl] at r1
      have h9 := (iv.2.2.2.2.2.2 p hp (lvb_has e0)).1
      have hcb : lvm N b p = decide (b = 0 ∨ N 8 p = -1) := by unfold lvm; rw [e0]; rfl
      by_cases eb : b = 0
      · rw [cnt_t (hcb.trans (decide_eq_true (Or.inl eb)))]
        simp (disch := omega) only [bk_295_43, bk_295_48, mv_f0_30, r1, Option.bind_some, Bool.cond_decide, am_oI_some, am_oV_some, am_oI_ite, am_oV_ite, am_bind_ite, Int.toNat_natCast, Int.toNat_zero, Int.reduceToNat, ite_true, ite_false, not_true_eq_false, not_false_eq_true, decide_true, decide_false, decide_eq_true_eq, Bool.false_eq_true, Nat.add_zero, am_rok1_0, am_rok1_1, cond_true, cond_false, am_w_nat1, true_or, or_true, false_or, or_false, true_and, and_true, false_and, and_false, Int.reduceEq, Int.reduceNeg, Int.reduceLT, Int.reduceLE, or_self, and_self, if_pos, if_neg]
      · have r8 := mr8 (m := mo) (M := M1) (A := Ad) (h := g) (c := 8) (by omega) (z := p) hp
        rw [← pk1, (rl.2.2.2.1 p hp (lvb_has e0)).2.1] at r8
        by_cases e1 : N 8 p = -1
        · rw [cnt_t (hcb.trans (decide_eq_true (Or.inr e1)))]
          simp (disch := omega) only [bk_295_36, bk_295_43, bk_295_48, mv_f0_30, mv_f0_15, r1, nte160, r8, Option.bind_some, Bool.cond_decide, am_oI_some, am_oV_some, am_oI_ite, am_oV_ite, am_bind_ite, Int.toNat_natCast, Int.toNat_zero, Int.reduceToNat, ite_true, ite_false, not_true_eq_false, not_false_eq_true, decide_true, decide_false, decide_eq_true_eq, Bool.false_eq_true, Nat.add_zero, am_rok1_0, am_rok1_1, cond_true, cond_false, am_w_nat1, true_or, or_true, false_or, or_false, true_and, and_true, false_and, and_false, Int.reduceEq, Int.reduceNeg, Int.reduceLT, Int.reduceLE, or_self, and_self, if_pos, if_neg]
        · rw [cnt_f (hcb.trans (decide_eq_false (fun t => t.elim eb e1)))]
          simp (disch := omega) only [bk_295_36, bk_295_47, bk_295_48, mv_f0_30, mv_f0_15, r1, nte160, r8, pz0, Option.bind_some, Bool.cond_decide, am_oI_some, am_oV_some, am_oI_ite, am_oV_ite, am_bind_ite, Int.toNat_natCast, Int.toNat_zero, Int.reduceToNat, ite_true, ite_false, not_true_eq_false, not_false_eq_true, decide_true, decide_false, decide_eq_true_eq, Bool.false_eq_true, Nat.add_zero, am_rok1_0, am_rok1_1, cond_true, cond_false, am_w_nat1, true_or, or_true, false_or, or_false, true_and, and_true, false_and, and_false, Int.reduceEq, Int.reduceNeg, Int.reduceLT, Int.reduceLE, or_self, and_self, if_pos, if_neg]
  have key : am_run am_ms 295 8 [am_R mo, am_I b, am_I 0, am_I 0] [] (mv mo M1 g) = am_run am_ms 295 8 [am_R mo, am_I b, am_I (cnt (lvm N b) 128), am_I 128] [] (mv mo M1 g) := loop_to (fun p : Nat => am_run am_ms 295 8 [am_R mo, am_I b, am_I (cnt (lvm N b) p), am_I p] [] (mv mo M1 g)) 128 step
  rw [am_cI, en_295, bk_295_0]
  simp (disch := omega) only [mv_c0, c1, Option.bind_some, Bool.cond_decide, am_oI_some, am_oV_some, am_oI_ite, am_oV_ite, am_bind_ite, Int.toNat_natCast, Int.toNat_zero, Int.reduceToNat, ite_true, ite_false, not_true_eq_false, not_false_eq_true, decide_true, decide_false, decide_eq_true_eq, Bool.false_eq_true, Nat.add_zero, am_rok1_0, am_rok1_1, cond_true, cond_false, am_w_nat1, true_or, or_true, false_or, or_false, true_and, and_true, false_and, and_false, Int.reduceEq, Int.reduceNeg, Int.reduceLT, Int.reduceLE, or_self, and_self]
  rw [key, bk_295_8]
  simp (disch := omega) only [bk_295_56, Option.bind_some, Bool.cond_decide, am_oI_some, am_oV_some, am_oI_ite, am_oV_ite, am_bind_ite, Int.toNat_natCast, Int.toNat_zero, Int.reduceToNat, ite_true, ite_false, not_true_eq_false, not_false_eq_true, decide_true, decide_false, decide_eq_true_eq, Bool.false_eq_true, Nat.add_zero, am_rok1_0, am_rok1_1, cond_true, cond_false, am_w_nat1, true_or, or_true, false_or, or_false, true_and, and_true, false_and, and_false, Int.reduceEq, Int.reduceNeg, Int.reduceLT, Int.reduceLE, or_self, and_self, if_pos, if_neg]
end LIVEM
