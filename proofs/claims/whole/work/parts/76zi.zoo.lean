/-! ===== most: the zone of the oldest ===== -/
section ZOO
variable {d mo Z : Nat} {N M Ad : Nat → Nat → Int} {h g : am_H}
theorem s_ebr_es (iv : IV N Z 3) (nd : ND N) {k : Nat} {B : Int} (es : ES N k B) : am_cI 270 [am_R d, am_I k] (dv d N h) = some (B, dv d N h) := by
  rcases es with ⟨b1, b2⟩ | ⟨a, a1, a2, a3, a4⟩
  · rw [b1]
    exact s_ebr_no (i := (k : Int)) (Or.inr iv) (fun p hp => by
      unfold edf
      cases e : lvb N p with
      | false => rfl
      | true =>
        have := b2 p hp e
        exact decide_eq_false (by omega))
  · rcases first_or (edf N (k : Int)) 128 with hno | ⟨j, j1, j2, j3⟩
    · have h1 := hno a a1
      unfold edf at h1
      rw [a3, a4, Bool.true_and] at h1
      exact absurd rfl (of_decide_eq_false h1)
    · have c2 := s_ebr_at (d := d) (h := h) iv j1 j2 j3
      unfold edf at j2
      rw [Bool.and_eq_true] at j2
      have h2 := of_decide_eq_true j2.2
      have e := es_uniq nd j1 a1 j2.1 a3 (by omega)
      rw [a2, ← e]
      exact c2
def zoo (B : Int) : Int := if B = -1 then -1 else ((B.toNat / 16 : Nat) : Int)
theorem s_zoo (iv : IV N Z 3) (nd : ND N) {B : Int} (es : ES N 0 B) : am_cI 285 [am_R d] (dv d N h) = some (zoo B, dv d N h) := by
  have c1 : am_cI 270 [am_R d, am_I 0] (dv d N h) = some (B, dv d N h) := s_ebr_es iv nd es
  rcases es with ⟨b1, _⟩ | ⟨a, a1, a2, _, _⟩
  · have ez : zoo B = -1 := if_pos b1
    rw [ez]
    rw [b1] at c1
    rw [am_cI]; simp (disch := omega) only [en_285, bk_285_0, bk_285_15, bk_285_19, c1, dv_f0, dv_f1, dv_f2, dv_f3, dv_f4, dv_f5, dv_f6, dv_f7, dv_f8, dv_f9, dv_f10, dv_f11, dv_f12, dv_f13, dv_g0, dv_g1, dv_g2, dv_i0, dv_i1, dv_p0, dv_p1, dv_isc, dv_iscL, dv_r0, dv_r1, dv_r2, dv_r3, dv_r4, dv_r5, dv_r6, dv_r7, dv_r8, dv_r9, dv_r10, dv_r11, dv_r12, dv_r13, dv_r14, dv_r15, Option.bind_some, Bool.cond_decide, am_oI_some, am_oV_some, am_oI_ite, am_oV_ite, am_bind_ite, Int.toNat_natCast, Int.toNat_zero, Int.reduceToNat, ite_true, ite_false, not_true_eq_false, not_false_eq_true, decide_true, decide_false, decide_eq_true_eq, Bool.false_eq_true, Nat.add_zero, am_rok1_0, am_rok1_1, cond_true, cond_false, am_w_nat1, true_or, or_true, false_or, or_false, true_and, and_true, false_and, and_false, Int.reduceEq, Int.reduceNeg, Int.reduceLT, Int.reduceLE, or_self, and_self, if_pos, if_neg]
  · have ez : zoo B = ((a / 16 : Nat) : Int) := by unfold zoo; rw [if_neg (by omega), a2, Int.toNat_natCast]
    rw [ez]
    rw [a2] at c1
    have ed := am_div16 (p := a) (by omega)
    have hne : ¬ (a : Int) = -1 := by omega
    rw [am_cI]; simp (disch := omega) only [en_285, bk_285_0, bk_285_15, bk_285_19, c1, ed, dv_f0, dv_f1, dv_f2, dv_f3, dv_f4, dv_f5, dv_f6, dv_f7, dv_f8, dv_f9, dv_f10, dv_f11, dv_f12, dv_f13, dv_g0, dv_g1, dv_g2, dv_i0, dv_i1, dv_p0, dv_p1, dv_isc, dv_iscL, dv_r0, dv_r1, dv_r2, dv_r3, dv_r4, dv_r5, dv_r6, dv_r7, dv_r8, dv_r9, dv_r10, dv_r11, dv_r12, dv_r13, dv_r14, dv_r15, Option.bind_some, Bool.cond_decide, am_oI_some, am_oV_some, am_oI_ite, am_oV_ite, am_bind_ite, Int.toNat_natCast, Int.toNat_zero, Int.reduceToNat, ite_true, ite_false, not_true_eq_false, not_false_eq_true, decide_true, decide_false, decide_eq_true_eq, Bool.false_eq_true, Nat.add_zero, am_rok1_0, am_rok1_1, cond_true, cond_false, am_w_nat1, true_or, or_true, false_or, or_false, true_and, and_true, false_and, and_false, Int.reduceEq, Int.reduceNeg, Int.reduceLT, Int.reduceLE, or_self, and_self, if_pos, if_neg]
theorem m_zoo (iv : IV N Z 3) (rl : RL N Ad true (fun _ => 0) 0 8) (mr : MR M Ad) (p8 : ∀ j, j < 609 → M 8 j = pack Ad j) : am_cI 293 [am_R mo] (mv mo M g) = some (zoo (od_b (lvr N (M 14) 128) 0 128), mv mo (drow M 14 (lvr N (M 14) 128)) g) := by
  have c1 := m_lays (mo := mo) (g := g) iv rl mr p8
  have c2 := m_oldest (mo := mo) (M := drow M 14 (lvr N (M 14) 128)) (g := g) 0
  rw [drow_t] at c2
  have hb : -1 ≤ od_b (lvr N (M 14) 128) 0 128 ∧ od_b (lvr N (M 14) 128) 0 128 < (128 : Nat) := bst_le _ _ 128
  generalize drow M 14 (lvr N (M 14) 128) = M1 at c1 c2 ⊢
  generalize od_b (lvr N (M 14) 128) 0 128 = B at c2 hb ⊢
  by_cases e : B = -1
  · have ez : zoo B = -1 := if_pos e
    rw [ez]
    rw [e] at c2
    rw [am_cI]; simp (disch := omega) only [en_293, bk_293_0, bk_293_19, bk_293_23, mv_c0, c1, c2, Option.bind_some, Bool.cond_decide, am_oI_some, am_oV_some, am_oI_ite, am_oV_ite, am_bind_ite, Int.toNat_natCast, Int.toNat_zero, Int.reduceToNat, ite_true, ite_false, not_true_eq_false, not_false_eq_true, decide_true, decide_false, decide_eq_true_eq, Bool.false_eq_true, Nat.add_zero, am_rok1_0, am_rok1_1, cond_true, cond_false, am_w_nat1, true_or, or_true, false_or, or_false, true_and, and_true, false_and, and_false, Int.reduceEq, Int.reduceNeg, Int.reduceLT, Int.reduceLE, or_self, and_self, if_pos, if_neg]
  · obtain ⟨a, rfl⟩ : ∃ a : Nat, B = a := ⟨B.toNat, by omega⟩
    have ez : zoo (a : Int) = ((a / 16 : Nat) : Int) := by unfold zoo; rw [if_neg e, Int.toNat_natCast]
    rw [ez]
    have ed := am_div16 (p := a) (by omega)
    rw [am_cI]; simp (disch := omega) only [en_293, bk_293_0, bk_293_19, bk_293_23, mv_c0, c1, c2, ed, Option.bind_some, Bool.cond_decide, am_oI_some, am_oV_some, am_oI_ite, am_oV_ite, am_bind_ite, Int.toNat_natCast, Int.toNat_zero, Int.reduceToNat, ite_true, ite_false, not_true_eq_false, not_false_eq_true, decide_true, decide_false, decide_eq_true_eq, Bool.false_eq_true, Nat.add_zero, am_rok1_0, am_rok1_1, cond_true, cond_false, am_w_nat1, true_or, or_true, false_or, or_false, true_and, and_true, false_and, and_false, Int.reduceEq, Int.reduceNeg, Int.reduceLT, Int.reduceLE, or_self, and_self, if_pos, if_neg]
end ZOO
