/-! ===== elder: the class's side ===== -/
theorem cnt_bij {b : Nat} {Q : Nat → Bool} {f g : Nat → Nat} : ∀ {a : Nat} {R : Nat → Bool}, (∀ k, k < a → Q k = true → f k < b ∧ R (f k) = true ∧ g (f k) = k) → (∀ p, p < b → R p = true → g p < a ∧ Q (g p) = true ∧ f (g p) = p) → cnt Q a = cnt R b := by
  intro a
  induction a with
  | zero =>
    intro R _ h2
    refine (cnt_zero (fun p hp => ?_)).symm
    cases e : R p with
    | false => rfl
    | true => have := (h2 p hp e).1; omega
  | succ a ih =>
    intro R h1 h2
    cases e : Q a with
    | false =>
      rw [cnt_f e]
      refine ih (fun k hk hq => h1 k (by omega) hq) (fun p hp hr => ?_)
      obtain ⟨q1, q2, q3⟩ := h2 p hp hr
      refine ⟨?_, q2, q3⟩
      by_cases t : g p = a
      · rw [t, e] at q2; exact absurd q2 (by decide)
      · omega
    | true =>
      obtain ⟨a1, a2, a3⟩ := h1 a (by omega) e
      rw [cnt_t e]
      have e2 : cnt R b = cnt (fun p => R p && decide (¬ p = f a)) b + 1 := cnt_add1 (q := f a) a1 (fun p _ hne => by rw [decide_eq_true hne, Bool.and_true]) a2 (by rw [decide_eq_false (fun t => t rfl), Bool.and_false])
      rw [e2]
      congr 1
      refine ih (fun k hk hq => ?_) (fun p hp hr => ?_)
      · obtain ⟨q1, q2, q3⟩ := h1 k (by omega) hq
        refine ⟨q1, ?_, q3⟩
        rw [q2, Bool.true_and]
        refine decide_eq_true (fun t => ?_)
        rw [t, a3] at q3
        omega
      · rw [Bool.and_eq_true] at hr
        obtain ⟨q1, q2, q3⟩ := h2 p hp hr.1
        refine ⟨?_, q2, q3⟩
        by_cases t : g p = a
        · rw [t] at q3; exact absurd q3.symm (of_decide_eq_true hr.2)
        · omega
/-- a place holds a block that lives -/
def lvb (D : Nat → Nat → Int) (p : Nat) : Bool := cd_has D p && cd_live D p
/-- p's block lives and is older than q's -/
def eld (D : Nat → Nat → Int) (q p : Nat) : Bool := lvb D p && decide (D 9 p < D 9 q)
def elk (D : Nat → Nat → Int) (q k : Nat) : Bool := decide (¬ D 10 k = -1) && (cd_live D (D 10 k).toNat && decide (D 9 (D 10 k).toNat < D 9 q))
def edf (D : Nat → Nat → Int) (i : Int) (q : Nat) : Bool := lvb D q && decide ((cnt (eld D q) 128 : Int) = i)
section ELDC
variable {d Z x : Nat} {D : Nat → Nat → Int} {h : am_H}
theorem elk_cnt (iv : IV D Z x) (q : Nat) : cnt (elk D q) 32 = cnt (eld D q) 128 := by
  refine cnt_bij (f := fun k => (D 10 k).toNat) (g := fun p => (D 7 p).toNat) (fun k hk hq => ?_) (fun p hp hr => ?_)
  · unfold elk at hq
    rw [Bool.and_eq_true, Bool.and_eq_true] at hq
    have h10 := of_decide_eq_true hq.1
    rcases (iv.2.1 k hk).1 with ⟨b1, _⟩ | ⟨p, p1, p2, p3, p4, _⟩
    · exact absurd b1 h10
    · have e : (D 10 k).toNat = p := by omega
      rw [e] at hq
      (try dsimp only)
      rw [e]
      refine ⟨p1, ?_, by omega⟩
      unfold eld lvb
      rw [p2, hq.2.1, hq.2.2]
      rfl
  · unfold eld lvb at hr
    rw [Bool.and_eq_true, Bool.and_eq_true] at hr
    obtain ⟨⟨r1, r2⟩, r3⟩ := hr
    have hk := iv.key hp r1
    have r2' := r2
    unfold cd_live at r2'
    have hl := (of_decide_eq_true r2').1
    have e : (D 10 (D 7 p).toNat).toNat = p := by omega
    (try dsimp only)
    refine ⟨by omega, ?_, e⟩
    unfold elk
    rw [e, r2, r3, decide_eq_true (show ¬ D 10 (D 7 p).toNat = -1 by omega)]
    rfl
theorem s_eldersAhead (iv : IV D Z x) {q : Nat} (hq : q < 128) : am_cI 269 [am_R d, am_I q] (dv d D h) = some ((cnt (eld D q) 128 : Int), dv d D h) := by
  rw [← elk_cnt iv q]
  have step : ∀ (k : Nat) (v : am_V), k < 32 → ∃ v' : am_V, am_run am_ms 269 4 [am_R d, am_I q, am_I (cnt (elk D q) k), am_I k, v] [] (dv d D h) = am_run am_ms 269 4 [am_R d, am_I q, am_I (cnt (elk D q) (k + 1)), am_I ((k + 1 : Nat) : Int), v'] [] (dv d D h) := by
    intro k v hk
    have hle := cnt_le (elk D q) k
    rw [bk_269_4]
    rcases (iv.2.1 k hk).1 with ⟨b1, _⟩ | ⟨p, p1, p2, p3, p4, _⟩
    · have hc : elk D q k = false := by unfold elk; rw [decide_eq_false (fun t => t b1)]; rfl
      rw [cnt_f hc]
      refine ⟨am_I (-1), ?_⟩
      simp (disch := omega) only [bk_269_52, b1, dv_f0, dv_f1, dv_f2, dv_f3, dv_f4, dv_f5, dv_f6, dv_f7, dv_f8, dv_f9, dv_f10, dv_f11, dv_f12, dv_f13, dv_g0, dv_g1, dv_g2, dv_i0, dv_i1, dv_p0, dv_p1, dv_isc, dv_iscL, dv_r0, dv_r1, dv_r2, dv_r3, dv_r4, dv_r5, dv_r6, dv_r7, dv_r8, dv_r9, dv_r10, dv_r11, dv_r12, dv_r13, dv_r14, dv_r15, Option.bind_some, Bool.cond_decide, am_oI_some, am_oV_some, am_oI_ite, am_oV_ite, am_bind_ite, Int.toNat_natCast, Int.toNat_zero, Int.reduceToNat, ite_true, ite_false, not_true_eq_false, not_false_eq_true, decide_true, decide_false, decide_eq_true_eq, Bool.false_eq_true, Nat.add_zero, am_rok1_0, am_rok1_1, cond_true, cond_false, am_w_nat1, true_or, or_true, false_or, or_false, true_and, and_true, false_and, and_false, Int.reduceEq, Int.reduceNeg, Int.reduceLT, Int.reduceLE, or_self, and_self, if_pos, if_neg]
    · have hkey := iv.key p1 p2
      have c1 := c_isLive d D h p p1 hkey.1 hkey.2
      have hcb : elk D q k = (cd_live D p && decide (D 9 p < D 9 q)) := by
        unfold elk
        rw [p4, Int.toNat_natCast, decide_eq_true (show ¬ (p : Int) = -1 by omega)]
        rfl
      cases e0 : cd_live D p with
      | false =>
        rw [e0] at c1 hcb
        rw [cnt_f hcb]
        refine ⟨am_I p, ?_⟩
        simp (disch := omega) only [bk_269_30, bk_269_52, p4, c1, dv_f0, dv_f1, dv_f2, dv_f3, dv_f4, dv_f5, dv_f6, dv_f7, dv_f8, dv_f9, dv_f10, dv_f11, dv_f12, dv_f13, dv_g0, dv_g1, dv_g2, dv_i0, dv_i1, dv_p0, dv_p1, dv_isc, dv_iscL, dv_r0, dv_r1, dv_r2, dv_r3, dv_r4, dv_r5, dv_r6, dv_r7, dv_r8, dv_r9, dv_r10, dv_r11, dv_r12, dv_r13, dv_r14, dv_r15, Option.bind_some, Bool.cond_decide, am_oI_some, am_oV_some, am_oI_ite, am_oV_ite, am_bind_ite, Int.toNat_natCast, Int.toNat_zero, Int.reduceToNat, ite_true, ite_false, not_true_eq_false, not_false_eq_true, decide_true, decide_false, decide_eq_true_eq, Bool.false_eq_true, Nat.add_zero, am_rok1_0, am_rok1_1, cond_true, cond_false, am_w_nat1, true_or, or_true, false_or, or_false, true_and, and_true, false_and, and_false, Int.reduceEq, Int.reduceNeg, Int.reduceLT, Int.reduceLE, or_self, and_self, if_pos, if_neg]
      | true =>
        rw [e0] at c1 hcb
        by_cases e1 : D 9 p < D 9 q
        · rw [decide_eq_true e1] at hcb
          rw [cnt_t hcb]
          refine ⟨am_I p, ?_⟩
          simp (disch := omega) only [bk_269_30, bk_269_52, p4, c1, dv_f0, dv_f1, dv_f2, dv_f3, dv_f4, dv_f5, dv_f6, dv_f7, dv_f8, dv_f9, dv_f10, dv_f11, dv_f12, dv_f13, dv_g0, dv_g1, dv_g2, dv_i0, dv_i1, dv_p0, dv_p1, dv_isc, dv_iscL, dv_r0, dv_r1, dv_r2, dv_r3, dv_r4, dv_r5, dv_r6, dv_r7, dv_r8, dv_r9, dv_r10, dv_r11, dv_r12, dv_r13, dv_r14, dv_r15, Option.bind_some, Bool.cond_decide, am_oI_some, am_oV_some, am_oI_ite, am_oV_ite, am_bind_ite, Int.toNat_natCast, Int.toNat_zero, Int.reduceToNat, ite_true, ite_false, not_true_eq_false, not_false_eq_true, decide_true, decide_false, decide_eq_true_eq, Bool.false_eq_true, Nat.add_zero, am_rok1_0, am_rok1_1, cond_true, cond_false, am_w_nat1, true_or, or_true, false_or, or_false, true_and, and_true, false_and, and_false, Int.reduceEq, Int.reduceNeg, Int.reduceLT, Int.reduceLE, or_self, and_self, if_pos, if_neg]
        · rw [decide_eq_false e1] at hcb
          rw [cnt_f hcb]
          refine ⟨am_I p, ?_⟩
          simp (disch := omega) only [bk_269_30, bk_269_52, p4, c1, dv_f0, dv_f1, dv_f2, dv_f3, dv_f4, dv_f5, dv_f6, dv_f7, dv_f8, dv_f9, dv_f10, dv_f11, dv_f12, dv_f13, dv_g0, dv_g1, dv_g2, dv_i0, dv_i1, dv_p0, dv_p1, dv_isc, dv_iscL, dv_r0, dv_r1, dv_r2, dv_r3, dv_r4, dv_r5, dv_r6, dv_r7, dv_r8, dv_r9, dv_r10, dv_r11, dv_r12, dv_r13, dv_r14, dv_r15, Option.bind_some, Bool.cond_decide, am_oI_some, am_oV_some, am_oI_ite, am_oV_ite, am_bind_ite, Int.toNat_natCast, Int.toNat_zero, Int.reduceToNat, ite_true, ite_false, not_true_eq_false, not_false_eq_true, decide_true, decide_false, decide_eq_true_eq, Bool.false_eq_true, Nat.add_zero, am_rok1_0, am_rok1_1, cond_true, cond_false, am_w_nat1, true_or, or_true, false_or, or_false, true_and, and_true, false_and, and_false, Int.reduceEq, Int.reduceNeg, Int.reduceLT, Int.reduceLE, or_self, and_self, if_pos, if_neg]
  obtain ⟨v', key⟩ := loop_v (fun (k : Nat) (v : am_V) => am_run am_ms 269 4 [am_R d, am_I q, am_I (cnt (elk D q) k), am_I k, v] [] (dv d D h)) 32 step (am_K 1)
  have key' : am_run am_ms 269 4 [am_R d, am_I q, am_I 0, am_I 0, am_K 1] [] (dv d D h) = am_run am_ms 269 4 [am_R d, am_I q, am_I (cnt (elk D q) 32), am_I 32, v'] [] (dv d D h) := key
  rw [am_cI, en_269, bk_269_0, key', bk_269_4]
  simp (disch := omega) only [bk_269_58, dv_f0, dv_f1, dv_f2, dv_f3, dv_f4, dv_f5, dv_f6, dv_f7, dv_f8, dv_f9, dv_f10, dv_f11, dv_f12, dv_f13, dv_g0, dv_g1, dv_g2, dv_i0, dv_i1, dv_p0, dv_p1, dv_isc, dv_iscL, dv_r0, dv_r1, dv_r2, dv_r3, dv_r4, dv_r5, dv_r6, dv_r7, dv_r8, dv_r9, dv_r10, dv_r11, dv_r12, dv_r13, dv_r14, dv_r15, Option.bind_some, Bool.cond_decide, am_oI_some, am_oV_some, am_oI_ite, am_oV_ite, am_bind_ite, Int.toNat_natCast, Int.toNat_zero, Int.reduceToNat, ite_true, ite_false, not_true_eq_false, not_false_eq_true, decide_true, decide_false, decide_eq_true_eq, Bool.false_eq_true, Nat.add_zero, am_rok1_0, am_rok1_1, cond_true, cond_false, am_w_nat1, true_or, or_true, false_or, or_false, true_and, and_true, false_and, and_false, Int.reduceEq, Int.reduceNeg, Int.reduceLT, Int.reduceLE, or_self, and_self, if_pos, if_neg]
theorem s_ebr_step (iv : (∀ p, cd_has D p = false) ∨ IV D Z x) (i : Int) {p : Nat} (hp : p < 128) (hf : edf D i p = false) : am_run am_ms 270 2 [am_R d, am_I i, am_I p] [] (dv d D h) = am_run am_ms 270 2 [am_R d, am_I i, am_I ((p + 1 : Nat) : Int)] [] (dv d D h) := by
  have c1 := c_hasBlock d D h p hp
  rw [bk_270_2]
  cases e0 : cd_has D p with
  | false =>
    rw [e0] at c1
    simp (disch := omega) only [bk_270_36, c1, dv_f0, dv_f1, dv_f2, dv_f3, dv_f4, dv_f5, dv_f6, dv_f7, dv_f8, dv_f9, dv_f10, dv_f11, dv_f12, dv_f13, dv_g0, dv_g1, dv_g2, dv_i0, dv_i1, dv_p0, dv_p1, dv_isc, dv_iscL, dv_r0, dv_r1, dv_r2, dv_r3, dv_r4, dv_r5, dv_r6, dv_r7, dv_r8, dv_r9, dv_r10, dv_r11, dv_r12, dv_r13, dv_r14, dv_r15, Option.bind_some, Bool.cond_decide, am_oI_some, am_oV_some, am_oI_ite, am_oV_ite, am_bind_ite, Int.toNat_natCast, Int.toNat_zero, Int.reduceToNat, ite_true, ite_false, not_true_eq_false, not_false_eq_true, decide_true, decide_false, decide_eq_true_eq, Bool.false_eq_true, Nat.add_zero, am_rok1_0, am_rok1_1, cond_true, cond_false, am_w_nat1, true_or, or_true, false_or, or_false, true_and, and_true, false_and, and_false, Int.reduceEq, Int.reduceNeg, Int.reduceLT, Int.reduceLE, or_self, and_self, if_pos, if_neg]
  | true =>
    rw [e0] at c1
    have iv : IV D Z x := by
      rcases iv with a | a
      · rw [a p] at e0; exact absurd e0 (by decide)
      · exact a
    have hkey := iv.key hp e0
    have c2 := c_isLive d D h p hp hkey.1 hkey.2
    unfold edf lvb at hf
    rw [e0, Bool.true_and] at hf
    cases e1 : cd_live D p with
    | false =>
      rw [e1] at c2
      simp (disch := omega) only [bk_270_36, c1, c2, dv_f0, dv_f1, dv_f2, dv_f3, dv_f4, dv_f5, dv_f6, dv_f7, dv_f8, dv_f9, dv_f10, dv_f11, dv_f12, dv_f13, dv_g0, dv_g1, dv_g2, dv_i0, dv_i1, dv_p0, dv_p1, dv_isc, dv_iscL, dv_r0, dv_r1, dv_r2, dv_r3, dv_r4, dv_r5, dv_r6, dv_r7, dv_r8, dv_r9, dv_r10, dv_r11, dv_r12, dv_r13, dv_r14, dv_r15, Option.bind_some, Bool.cond_decide, am_oI_some, am_oV_some, am_oI_ite, am_oV_ite, am_bind_ite, Int.toNat_natCast, Int.toNat_zero, Int.reduceToNat, ite_true, ite_false, not_true_eq_false, not_false_eq_true, decide_true, decide_false, decide_eq_true_eq, Bool.false_eq_true, Nat.add_zero, am_rok1_0, am_rok1_1, cond_true, cond_false, am_w_nat1, true_or, or_true, false_or, or_false, true_and, and_true, false_and, and_false, Int.reduceEq, Int.reduceNeg, Int.reduceLT, Int.reduceLE, or_self, and_self, if_pos, if_neg]
    | true =>
      rw [e1] at c2
      rw [e1, Bool.true_and] at hf
      have hf := of_decide_eq_false hf
      have c3 := s_eldersAhead (d := d) (h := h) iv hp
      simp (disch := omega) only [bk_270_30, bk_270_36, c1, c2, c3, dv_f0, dv_f1, dv_f2, dv_f3, dv_f4, dv_f5, dv_f6, dv_f7, dv_f8, dv_f9, dv_f10, dv_f11, dv_f12, dv_f13, dv_g0, dv_g1, dv_g2, dv_i0, dv_i1, dv_p0, dv_p1, dv_isc, dv_iscL, dv_r0, dv_r1, dv_r2, dv_r3, dv_r4, dv_r5, dv_r6, dv_r7, dv_r8, dv_r9, dv_r10, dv_r11, dv_r12, dv_r13, dv_r14, dv_r15, Option.bind_some, Bool.cond_decide, am_oI_some, am_oV_some, am_oI_ite, am_oV_ite, am_bind_ite, Int.toNat_natCast, Int.toNat_zero, Int.reduceToNat, ite_true, ite_false, not_true_eq_false, not_false_eq_true, decide_true, decide_false, decide_eq_true_eq, Bool.false_eq_true, Nat.add_zero, am_rok1_0, am_rok1_1, cond_true, cond_false, am_w_nat1, true_or, or_true, false_or, or_false, true_and, and_true, false_and, and_false, Int.reduceEq, Int.reduceNeg, Int.reduceLT, Int.reduceLE, or_self, and_self, if_pos, if_neg]
theorem s_ebr_no (iv : (∀ p, cd_has D p = false) ∨ IV D Z x) {i : Int} (hno : ∀ p, p < 128 → edf D i p = false) : am_cI 270 [am_R d, am_I i] (dv d D h) = some (-1, dv d D h) := by
  have key : am_run am_ms 270 2 [am_R d, am_I i, am_I 0] [] (dv d D h) = am_run am_ms 270 2 [am_R d, am_I i, am_I 128] [] (dv d D h) := loop_to (fun p : Nat => am_run am_ms 270 2 [am_R d, am_I i, am_I p] [] (dv d D h)) 128 (fun p hp => s_ebr_step iv i hp (hno p hp))
  rw [am_cI, en_270, bk_270_0, key, bk_270_2]
  simp (disch := omega) only [bk_270_42, dv_f0, dv_f1, dv_f2, dv_f3, dv_f4, dv_f5, dv_f6, dv_f7, dv_f8, dv_f9, dv_f10, dv_f11, dv_f12, dv_f13, dv_g0, dv_g1, dv_g2, dv_i0, dv_i1, dv_p0, dv_p1, dv_isc, dv_iscL, dv_r0, dv_r1, dv_r2, dv_r3, dv_r4, dv_r5, dv_r6, dv_r7, dv_r8, dv_r9, dv_r10, dv_r11, dv_r12, dv_r13, dv_r14, dv_r15, Option.bind_some, Bool.cond_decide, am_oI_some, am_oV_some, am_oI_ite, am_oV_ite, am_bind_ite, Int.toNat_natCast, Int.toNat_zero, Int.reduceToNat, ite_true, ite_false, not_true_eq_false, not_false_eq_true, decide_true, decide_false, decide_eq_true_eq, Bool.false_eq_true, Nat.add_zero, am_rok1_0, am_rok1_1, cond_true, cond_false, am_w_nat1, true_or, or_true, false_or, or_false, true_and, and_true, false_and, and_false, Int.reduceEq, Int.reduceNeg, Int.reduceLT, Int.reduceLE, or_self, and_self, if_pos, if_neg]
theorem s_ebr_at (iv : IV D Z x) {i : Int} {j : Nat} (j1 : j < 128) (j2 : edf D i j = true) (j3 : ∀ p, p < j → edf D i p = false) : am_cI 270 [am_R d, am_I i] (dv d D h) = some ((j : Int), dv d D h) := by
  have key : am_run am_ms 270 2 [am_R d, am_I i, am_I 0] [] (dv d D h) = am_run am_ms 270 2 [am_R d, am_I i, am_I j] [] (dv d D h) := loop_to (fun p : Nat => am_run am_ms 270 2 [am_R d, am_I i, am_I p] [] (dv d D h)) j (fun p hp => s_ebr_step (Or.inr iv) i (by omega) (j3 p hp))
  have c1 := c_hasBlock d D h j j1
  unfold edf lvb at j2
  rw [Bool.and_eq_true, Bool.and_eq_true] at j2
  obtain ⟨⟨r1, r2⟩, r3⟩ := j2
  have e2 := of_decide_eq_true r3
  have hkey := iv.key j1 r1
  have c2 := c_isLive d D h j j1 hkey.1 hkey.2
  rw [r1] at c1
  rw [r2] at c2
  have c3 := s_eldersAhead (d := d) (h := h) iv j1
  rw [am_cI, en_270, bk_270_0, key, bk_270_2]
  simp (disch := omega) only [bk_270_30, c1, c2, c3, dv_f0, dv_f1, dv_f2, dv_f3, dv_f4, dv_f5, dv_f6, dv_f7, dv_f8, dv_f9, dv_f10, dv_f11, dv_f12, dv_f13, dv_g0, dv_g1, dv_g2, dv_i0, dv_i1, dv_p0, dv_p1, dv_isc, dv_iscL, dv_r0, dv_r1, dv_r2, dv_r3, dv_r4, dv_r5, dv_r6, dv_r7, dv_r8, dv_r9, dv_r10, dv_r11, dv_r12, dv_r13, dv_r14, dv_r15, Option.bind_some, Bool.cond_decide, am_oI_some, am_oV_some, am_oI_ite, am_oV_ite, am_bind_ite, Int.toNat_natCast, Int.toNat_zero, Int.reduceToNat, ite_true, ite_false, not_true_eq_false, not_false_eq_true, decide_true, decide_false, decide_eq_true_eq, Bool.false_eq_true, Nat.add_zero, am_rok1_0, am_rok1_1, cond_true, cond_false, am_w_nat1, true_or, or_true, false_or, or_false, true_and, and_true, false_and, and_false, Int.reduceEq, Int.reduceNeg, Int.reduceLT, Int.reduceLE, or_self, and_self, if_pos, if_neg]
end ELDC
