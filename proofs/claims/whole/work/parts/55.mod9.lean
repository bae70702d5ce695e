section MOD9
variable {m c : Nat} {M A : Nat → Nat → Int} {h : am_H} {Z : Nat}
theorem m_roomOf (hc : 8 ≤ c ∧ c ≤ 11) (hr : MR M A) (w : AW A Z) (h04 : 0 < A 0 4) : am_cI 120 [am_R m, am_R (m + c)] (mv m (drow M c (pack A)) h) = some (cd_room A Z, (mv m (drow M c (pack A)) h)) := by
  have h4 := w.2.2.2.1
  have h1 := w.2.2.1
  have hZ8 := w.2.1
  have hZ := w.1
  have r4 := hr.2.2.2.2.1
  have r1 := hr.2.1
  obtain ⟨S, hS⟩ : ∃ S : Nat, A 0 4 = ((S + 1 : Nat) : Int) := ⟨(A 0 4 - 1).toNat, by omega⟩
  have hS3 : S < 3 := by omega
  have c1 := m_many (m := m) (h := h) hc hr w.1 w.2.1 0
  have c2 := m_wantsZone (m := m) (M := M) (h := h) hc w (s := S) (by omega)
  have hm := cd_many_le A Z 0
  have hmul : (0 : Int) ≤ (cd_many A Z 0 : Int) * A 0 1 ∧ (cd_many A Z 0 : Int) * A 0 1 ≤ 8 * 16 := ⟨Int.mul_nonneg (by omega) (by omega), Int.mul_le_mul (by omega) (by omega) (by omega) (by omega)⟩
  have ew : am_w (((S + 1 : Nat) : Int) - 1) = (S : Int) := by rw [am_w_id (by omega) (by omega)]; omega
  have ew2 : am_w (A 0 1 * (cd_many A Z 0 : Int)) = (cd_many A Z 0 : Int) * A 0 1 := by rw [Int.mul_comm]; exact am_w_id (by omega) (by omega)
  unfold cd_room
  rw [show (A 0 4 - 1).toNat = S by omega]
  generalize (cd_many A Z 0 : Int) * A 0 1 = X at hmul ew2 ⊢
  cases e : cd_lz A S with
  | true =>
    rw [e] at c2
    have ew3 : am_w (0 + X) = X + 0 := by rw [am_w_id (by omega) (by omega)]; omega
    rw [am_cI]; simp (disch := omega) only [en_120, bk_120_0, bk_120_20, bk_120_39, c1, c2, r4, r1, hS, ew, ew2, ew3, mv_c0, mv_f0_25, mv_f0_6, mv_r3, drow_o, Option.bind_some, Bool.cond_decide, am_oI_some, am_oV_some, am_oI_ite, am_oV_ite, am_bind_ite, Int.toNat_natCast, Int.toNat_zero, Int.reduceToNat, ite_true, ite_false, not_true_eq_false, not_false_eq_true, decide_true, decide_false, decide_eq_true_eq, Bool.false_eq_true, Nat.add_zero, am_rok1_0, am_rok1_1, cond_true, cond_false, am_w_nat1, true_or, or_true, false_or, or_false, true_and, and_true, false_and, and_false, Int.reduceEq, Int.reduceNeg, Int.reduceLT, Int.reduceLE, or_self, and_self, if_pos, if_neg]
  | false =>
    rw [e] at c2
    have h6 := cd_lz_no e
    obtain ⟨z, hz⟩ : ∃ z : Nat, A 6 S = z := ⟨(A 6 S).toNat, by omega⟩
    rw [hz, Int.toNat_natCast] at h6 ⊢
    have hz8 : z < 8 := by omega
    have h7 := w.2.2.2.2.1 z hz8
    have ew3 : am_w (A 0 1 - A 3 z) = A 0 1 - A 3 z := am_w_id (by omega) (by omega)
    have ew4 : am_w (A 0 1 - A 3 z + X) = X + (A 0 1 - A 3 z) := by rw [am_w_id (by omega) (by omega)]; omega
    have ew5 : am_w (416 + (S : Int)) = 416 + (S : Int) := am_w_id (by omega) (by omega)
    have ew6 : am_w (8 + (z : Int)) = 8 + (z : Int) := am_w_id (by omega) (by omega)
    have q6 := mr6 (m := m) (M := M) (A := A) (h := h) hc (z := S) hS3
    have q3 := mr3 (m := m) (M := M) (A := A) (h := h) hc (z := z) hz8
    rw [am_cI]; simp (disch := omega) only [en_120, bk_120_0, bk_120_20, bk_120_39, c1, c2, r4, r1, hS, q6, q3, hz, ew, ew2, ew3, ew4, ew5, ew6, mv_c0, mv_f0_25, mv_f0_6, mv_r3, mr3, mr6, drow_o, Option.bind_some, Bool.cond_decide, am_oI_some, am_oV_some, am_oI_ite, am_oV_ite, am_bind_ite, Int.toNat_natCast, Int.toNat_zero, Int.reduceToNat, ite_true, ite_false, not_true_eq_false, not_false_eq_true, decide_true, decide_false, decide_eq_true_eq, Bool.false_eq_true, Nat.add_zero, am_rok1_0, am_rok1_1, cond_true, cond_false, am_w_nat1, true_or, or_true, false_or, or_false, true_and, and_true, false_and, and_false, Int.reduceEq, Int.reduceNeg, Int.reduceLT, Int.reduceLE, or_self, and_self, if_pos, if_neg]
end MOD9
