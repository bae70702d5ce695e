/-! ===== reading: signs, digits, numbers ===== -/
section LOOK
/-- the sign at a place, as the class tells it (0 at the end), as the model does (-1 there) -/
def chr (L : Int) (f : Nat → Int) (a : Nat) : Int := if (a : Int) < L then f a else 0
def chm (L : Int) (f : Nat → Int) (a : Nat) : Int := if (a : Int) < L then f a else -1
def sk (L : Int) (f : Nat → Int) : Nat → Nat → Nat
  | 0, a => a
  | n + 1, a => if (a : Int) < L ∧ f a = 32 then sk L f n (a + 1) else a
def skp (L : Int) (f : Nat → Int) (a : Nat) : Nat := sk L f 240 a
def TF (L : Int) (f : Nat → Int) : Prop := (0 ≤ L ∧ L ≤ 240) ∧ ∀ i : Nat, (i : Int) < L → 1 ≤ f i ∧ f i ≤ 255
def CT (S : Nat → Nat → Int) (L : Int) (f : Nat → Int) : Prop := S 0 2 = L ∧ S 1 = f
def MTp (M : Nat → Nat → Int) (L : Int) (f : Nat → Int) : Prop := M 0 2 = L ∧ ∀ i : Nat, (i : Int) < L → M 1 i = am_i2b (f i)
variable {x mo m : Nat} {A : Nat → Nat} {N P K T S S' : Nat → Nat → Int} {M M' : Nat → Nat → Int} {h g : am_H} {L : Int} {f : Nat → Int} {a : Nat}
theorem sk_r (L : Int) (f : Nat → Int) : ∀ (n a : Nat), (a : Int) ≤ L → a ≤ sk L f n a ∧ (sk L f n a : Int) ≤ L := by
  intro n
  induction n with
  | zero => intro a ha; exact ⟨Nat.le_refl _, ha⟩
  | succ n ih =>
    intro a ha
    unfold sk
    by_cases e : (a : Int) < L ∧ f a = 32
    · rw [if_pos e]
      have := ih (a + 1) (by omega)
      omega
    · rw [if_neg e]
      exact ⟨Nat.le_refl _, ha⟩
theorem sk_e (L : Int) (f : Nat → Int) : ∀ (n a : Nat), L - a ≤ n → ¬ ((sk L f n a : Int) < L ∧ f (sk L f n a) = 32) := by
  intro n
  induction n with
  | zero => intro a ha q; have : ((sk L f 0 a : Nat) : Int) = a := rfl; omega
  | succ n ih =>
    intro a ha
    unfold sk
    by_cases e : (a : Int) < L ∧ f a = 32
    · rw [if_pos e]
      exact ih (a + 1) (by omega)
    · rw [if_neg e]
      exact e
theorem skp_r (ha : (a : Int) ≤ L) : a ≤ skp L f a ∧ (skp L f a : Int) ≤ L := sk_r L f 240 a ha
theorem sk_stay (n : Nat) (e : ¬ ((a : Int) < L ∧ f a = 32)) : sk L f n a = a := by
  cases n with
  | zero => rfl
  | succ n => unfold sk; rw [if_neg e]
theorem skp_skp (tf : TF L f) (a : Nat) : skp L f (skp L f a) = skp L f a := sk_stay 240 (sk_e L f 240 a (by have := tf.1.2; omega))
theorem CT_f (c : CT S L f) {j : Nat} (hj : j ≠ 2) (v : Int) : CT (dup S 0 j v) L f := ⟨by rw [dup_t, va_up_ne _ _ (Ne.symm hj)]; exact c.1, by rw [dup_o _ _ _ (by omega)]; exact c.2⟩
theorem CT_r (c : CT S L f) {r : Nat} (hr : 2 ≤ r) (j : Nat) (v : Int) : CT (dup S r j v) L f := ⟨by rw [dup_o _ _ _ (by omega)]; exact c.1, by rw [dup_o _ _ _ (by omega)]; exact c.2⟩
theorem MTp_f (c : MTp M L f) {j : Nat} (hj : j ≠ 2) (v : Int) : MTp (dup M 0 j v) L f := ⟨by rw [dup_t, va_up_ne _ _ (Ne.symm hj)]; exact c.1, by rw [dup_o _ _ _ (by omega)]; exact c.2⟩
theorem MTp_r (c : MTp M L f) {r : Nat} (hr : 2 ≤ r) (j : Nat) (v : Int) : MTp (dup M r j v) L f := ⟨by rw [dup_o _ _ _ (by omega)]; exact c.1, by rw [dup_o _ _ _ (by omega)]; exact c.2⟩
theorem dup_at (S : Nat → Nat → Int) {k j : Nat} {v : Int} (e : S k j = v) : dup S k j v = S := by rw [← e]; exact dup_self S k j
theorem chr_r (tf : TF L f) (a : Nat) : 0 ≤ chr L f a ∧ chr L f a ≤ 255 := by
  unfold chr
  split
  · have := tf.2 a (by assumption); omega
  · omega
theorem chm_eq {c : Int} (hc : 1 ≤ c) : (chm L f a = c) ↔ (chr L f a = c) := by
  unfold chm chr
  split <;> omega
theorem chm_end (tf : TF L f) : (chm L f a = -1) ↔ (chr L f a = 0) := by
  unfold chm chr
  split
  · have := tf.2 a (by assumption); omega
  · omega
theorem chr_in (h : chr L f a ≠ 0) : (a : Int) < L ∧ f a = chr L f a := by
  unfold chr at h ⊢
  by_cases e : (a : Int) < L
  · rw [if_pos e]; exact ⟨e, rfl⟩
  · rw [if_neg e] at h; exact absurd rfl h
theorem ix_m {q : Nat} (tx : TX q) (tf : TF L f) (a : Nat) : ixf q (chm L f a) = ixf q (chr L f a) := by
  unfold chm chr
  by_cases e : (a : Int) < L
  · rw [if_pos e, if_pos e]
  · rw [if_neg e, if_neg e, ixf_no tx (by omega), ixf_no tx (by omega)]
/-- the class's upcoming -/
theorem u_loop (tf : TF L f) : ∀ (n a : Nat) (S : Nat → Nat → Int), L - a ≤ n → (a : Int) ≤ L → CT S L f → S 0 5 = a → am_run am_ms 18 0 [am_R (x + 3)] [] (zv x N P K T S m A h) = am_run am_ms 18 44 [am_R (x + 3)] [] (zv x N P K T (dup S 0 5 (sk L f n a)) m A h) := by
  intro n
  have h240 := tf.1
  induction n with
  | zero =>
    intro a S hn ha ct h5
    have e : ¬ ((a : Int) < L ∧ f a = 32) := by omega
    rw [sk_stay 0 e, dup_at S h5, bk_18_0]
    obtain ⟨c1, c2⟩ := ct
    simp (disch := omega) only [h5, c1, zv_c0, zv_f0_0, zv_f0_1, zv_f0_2, zv_f0_3, zv_f0_4, zv_f0_5, zv_f0_6, zv_f0_7, zv_f0_8, zv_f0_9, zv_f0_10, zv_f0_11, zv_c1, zv_f1_0, zv_f1_1, zv_c3, zv_f3_0, zv_f3_1, zv_f3_2, zv_f3_3, zv_f3_4, zv_f3_5, zv_f3_6, zv_f3_7, zv_f3_8, zv_f3_9, zv_c7, zv_f7_0, zv_f7_1, zv_f7_2, zv_f7_3, zv_c67, zv_f67_0, zv_f67_1, zv_f67_2, zv_f67_3, zv_f67_4, zv_f67_5, zv_f67_6, zv_f67_7, zv_c86, zv_f86_0, zv_c87, zv_f87_0, zv_f87_1, zv_f87_2, zv_c89, zv_f89_0, zv_c91, zv_f91_0, zv_f91_1, zv_f91_2, zv_f91_3, zv_c95, zv_f95_0, zv_f95_1, zv_f95_2, zv_f95_3, zv_c99, zv_f99_0, zv_f99_1, zv_f99_2, zv_f99_3, zv_c103, zv_f103_0, zv_f103_1, zv_f103_2, zv_f103_3, zv_r1, zv_r2, zv_r3, zv_r4, zv_r5, zv_r6, zv_r7, zv_r8, zv_r9, zv_r10, zv_r11, zv_r12, zv_r13, zv_r14, zv_r15, zv_r16, zv_r17, zv_r18, zv_r19, zv_r20, zv_r21, zv_l1, zv_l2, zv_l3, zv_l4, zv_l5, zv_l6, zv_l7, zv_l8, zv_l9, zv_l10, zv_l11, zv_l12, zv_l13, zv_l14, zv_l15, zv_l16, zv_l17, zv_l18, zv_l19, zv_l20, zv_l21, zv_p0_3, zv_p0_7, zv_p1_1, zv_w1, zv_p3_3, zv_p3_7, zv_p3_8, zv_p3_9, zv_w2, zv_w3, zv_w4, zv_p7_3, zv_w5, zv_w6, zv_w7, zv_w8, zv_p67_3, zv_p67_4, zv_p67_5, zv_p67_6, zv_p67_7, zv_p86_0, zv_p87_1, zv_p87_2, zv_p89_0, zv_w9, zv_p91_3, zv_w10, zv_w11, zv_w12, zv_p95_3, zv_w13, zv_w14, zv_w15, zv_p99_3, zv_w16, zv_w17, zv_w18, zv_p103_3, zv_w19, zv_w20, zv_w21, zN_c, zN_cL, zN_f0, zN_f1, zN_f2, zN_f3, zN_f4, zN_f5, zN_f6, zN_f7, zN_f8, zN_f9, zN_f10, zN_f11, zN_f12, zN_f13, zN_i1, zN_r0, zN_r1, zN_r2, zN_r3, zN_r4, zN_r5, zN_r6, zN_r7, zN_r8, zN_r9, zN_r10, zN_r11, zN_r12, zN_w0, zP_c, zK_c, zT_c, zT_cL, zT_f0, zT_f1, zT_f2, zT_f3, zT_f4, zT_f5, zT_f6, zT_f7, zT_f8, zT_f9, zT_f10, zT_f11, zT_f12, zT_f13, zT_i1, zT_r0, zT_r1, zT_r2, zT_r3, zT_r4, zT_r5, zT_r6, zT_r7, zT_r8, zT_r9, zT_r10, zT_r11, zT_r12, zT_w0, dup_t, dup_o, va_up_self, va_up_ne, drow_t, drow_o, Option.bind_some, Bool.cond_decide, am_oI_some, am_oV_some, am_oI_ite, am_oV_ite, am_bind_ite, Int.toNat_natCast, Int.toNat_zero, Int.reduceToNat, ite_true, ite_false, not_true_eq_false, not_false_eq_true, decide_true, decide_false, decide_eq_true_eq, Bool.false_eq_true, Nat.add_zero, am_rok1_0, am_rok1_1, cond_true, cond_false, am_w_nat1, true_or, or_true, false_or, or_false, true_and, and_true, false_and, and_false, Int.reduceEq, Int.reduceNeg, Int.reduceLT, Int.reduceLE, or_self, and_self, if_pos, if_neg]
  | succ n ih =>
    intro a S hn ha ct h5
    by_cases e : (a : Int) < L ∧ f a = 32
    · have es : sk L f (n + 1) a = sk L f n (a + 1) := if_pos e
      have := ih (a + 1) (dup S 0 5 ((a + 1 : Nat) : Int)) (by omega) (by omega) (CT_f ct (by omega) _) (by rw [dup_t, va_up_self])
      rw [dup_dup] at this
      rw [es, ← this, bk_18_0]
      clear this
      obtain ⟨c1, c2⟩ := ct
      have e1 : S 1 a = 32 := by rw [c2]; exact e.2
      have e2 := e.1
      simp (disch := omega) only [h5, c1, e1, bk_18_31, zv_c0, zv_f0_0, zv_f0_1, zv_f0_2, zv_f0_3, zv_f0_4, zv_f0_5, zv_f0_6, zv_f0_7, zv_f0_8, zv_f0_9, zv_f0_10, zv_f0_11, zv_c1, zv_f1_0, zv_f1_1, zv_c3, zv_f3_0, zv_f3_1, zv_f3_2, zv_f3_3, zv_f3_4, zv_f3_5, zv_f3_6, zv_f3_7, zv_f3_8, zv_f3_9, zv_c7, zv_f7_0, zv_f7_1, zv_f7_2, zv_f7_3, zv_c67, zv_f67_0, zv_f67_1, zv_f67_2, zv_f67_3, zv_f67_4, zv_f67_5, zv_f67_6, zv_f67_7, zv_c86, zv_f86_0, zv_c87, zv_f87_0, zv_f87_1, zv_f87_2, zv_c89, zv_f89_0, zv_c91, zv_f91_0, zv_f91_1, zv_f91_2, zv_f91_3, zv_c95, zv_f95_0, zv_f95_1, zv_f95_2, zv_f95_3, zv_c99, zv_f99_0, zv_f99_1, zv_f99_2, zv_f99_3, zv_c103, zv_f103_0, zv_f103_1, zv_f103_2, zv_f103_3, zv_r1, zv_r2, zv_r3, zv_r4, zv_r5, zv_r6, zv_r7, zv_r8, zv_r9, zv_r10, zv_r11, zv_r12, zv_r13, zv_r14, zv_r15, zv_r16, zv_r17, zv_r18, zv_r19, zv_r20, zv_r21, zv_l1, zv_l2, zv_l3, zv_l4, zv_l5, zv_l6, zv_l7, zv_l8, zv_l9, zv_l10, zv_l11, zv_l12, zv_l13, zv_l14, zv_l15, zv_l16, zv_l17, zv_l18, zv_l19, zv_l20, zv_l21, zv_p0_3, zv_p0_7, zv_p1_1, zv_w1, zv_p3_3, zv_p3_7, zv_p3_8, zv_p3_9, zv_w2, zv_w3, zv_w4, zv_p7_3, zv_w5, zv_w6, zv_w7, zv_w8, zv_p67_3, zv_p67_4, zv_p67_5, zv_p67_6, zv_p67_7, zv_p86_0, zv_p87_1, zv_p87_2, zv_p89_0, zv_w9, zv_p91_3, zv_w10, zv_w11, zv_w12, zv_p95_3, zv_w13, zv_w14, zv_w15, zv_p99_3, zv_w16, zv_w17, zv_w18, zv_p103_3, zv_w19, zv_w20, zv_w21, zN_c, zN_cL, zN_f0, zN_f1, zN_f2, zN_f3, zN_f4, zN_f5, zN_f6, zN_f7, zN_f8, zN_f9, zN_f10, zN_f11, zN_f12, zN_f13, zN_i1, zN_r0, zN_r1, zN_r2, zN_r3, zN_r4, zN_r5, zN_r6, zN_r7, zN_r8, zN_r9, zN_r10, zN_r11, zN_r12, zN_w0, zP_c, zK_c, zT_c, zT_cL, zT_f0, zT_f1, zT_f2, zT_f3, zT_f4, zT_f5, zT_f6, zT_f7, zT_f8, zT_f9, zT_f10, zT_f11, zT_f12, zT_f13, zT_i1, zT_r0, zT_r1, zT_r2, zT_r3, zT_r4, zT_r5, zT_r6, zT_r7, zT_r8, zT_r9, zT_r10, zT_r11, zT_r12, zT_w0, dup_t, dup_o, va_up_self, va_up_ne, drow_t, drow_o, Option.bind_some, Bool.cond_decide, am_oI_some, am_oV_some, am_oI_ite, am_oV_ite, am_bind_ite, Int.toNat_natCast, Int.toNat_zero, Int.reduceToNat, ite_true, ite_false, not_true_eq_false, not_false_eq_true, decide_true, decide_false, decide_eq_true_eq, Bool.false_eq_true, Nat.add_zero, am_rok1_0, am_rok1_1, cond_true, cond_false, am_w_nat1, true_or, or_true, false_or, or_false, true_and, and_true, false_and, and_false, Int.reduceEq, Int.reduceNeg, Int.reduceLT, Int.reduceLE, or_self, and_self, if_pos, if_neg]
    · rw [sk_stay (n + 1) e, dup_at S h5, bk_18_0]
      obtain ⟨c1, c2⟩ := ct
      by_cases e2 : (a : Int) < L
      · have e1 : ¬ S 1 a = 32 := fun q => e ⟨e2, by rw [← c2]; exact q⟩
        simp (disch := omega) only [h5, c1, e1, zv_c0, zv_f0_0, zv_f0_1, zv_f0_2, zv_f0_3, zv_f0_4, zv_f0_5, zv_f0_6, zv_f0_7, zv_f0_8, zv_f0_9, zv_f0_10, zv_f0_11, zv_c1, zv_f1_0, zv_f1_1, zv_c3, zv_f3_0, zv_f3_1, zv_f3_2, zv_f3_3, zv_f3_4, zv_f3_5, zv_f3_6, zv_f3_7, zv_f3_8, zv_f3_9, zv_c7, zv_f7_0, zv_f7_1, zv_f7_2, zv_f7_3, zv_c67, zv_f67_0, zv_f67_1, zv_f67_2, zv_f67_3, zv_f67_4, zv_f67_5, zv_f67_6, zv_f67_7, zv_c86, zv_f86_0, zv_c87, zv_f87_0, zv_f87_1, zv_f87_2, zv_c89, zv_f89_0, zv_c91, zv_f91_0, zv_f91_1, zv_f91_2, zv_f91_3, zv_c95, zv_f95_0, zv_f95_1, zv_f95_2, zv_f95_3, zv_c99, zv_f99_0, zv_f99_1, zv_f99_2, zv_f99_3, zv_c103, zv_f103_0, zv_f103_1, zv_f103_2, zv_f103_3, zv_r1, zv_r2, zv_r3, zv_r4, zv_r5, zv_r6, zv_r7, zv_r8, zv_r9, zv_r10, zv_r11, zv_r12, zv_r13, zv_r14, zv_r15, zv_r16, zv_r17, zv_r18, zv_r19, zv_r20, zv_r21, zv_l1, zv_l2, zv_l3, zv_l4, zv_l5, zv_l6, zv_l7, zv_l8, zv_l9, zv_l10, zv_l11, zv_l12, zv_l13, zv_l14, zv_l15, zv_l16, zv_l17, zv_l18, zv_l19, zv_l20, zv_l21, zv_p0_3, zv_p0_7, zv_p1_1, zv_w1, zv_p3_3, zv_p3_7, zv_p3_8, zv_p3_9, zv_w2, zv_w3, zv_w4, zv_p7_3, zv_w5, zv_w6, zv_w7, zv_w8, zv_p67_3, zv_p67_4, zv_p67_5, zv_p67_6, zv_p67_7, zv_p86_0, zv_p87_1, zv_p87_2, zv_p89_0, zv_w9, zv_p91_3, zv_w10, zv_w11, zv_w12, zv_p95_3, zv_w13, zv_w14, zv_w15, zv_p99_3, zv_w16, zv_w17, zv_w18, zv_p103_3, zv_w19, zv_w20, zv_w21, zN_c, zN_cL, zN_f0, zN_f1, zN_f2, zN_f3, zN_f4, zN_f5, zN_f6, zN_f7, zN_f8, zN_f9, zN_f10, zN_f11, zN_f12, zN_f13, zN_i1, zN_r0, zN_r1, zN_r2, zN_r3, zN_r4, zN_r5, zN_r6, zN_r7, zN_r8, zN_r9, zN_r10, zN_r11, zN_r12, zN_w0, zP_c, zK_c, zT_c, zT_cL, zT_f0, zT_f1, zT_f2, zT_f3, zT_f4, zT_f5, zT_f6, zT_f7, zT_f8, zT_f9, zT_f10, zT_f11, zT_f12, zT_f13, zT_i1, zT_r0, zT_r1, zT_r2, zT_r3, zT_r4, zT_r5, zT_r6, zT_r7, zT_r8, zT_r9, zT_r10, zT_r11, zT_r12, zT_w0, dup_t, dup_o, va_up_self, va_up_ne, drow_t, drow_o, Option.bind_some, Bool.cond_decide, am_oI_some, am_oV_some, am_oI_ite, am_oV_ite, am_bind_ite, Int.toNat_natCast, Int.toNat_zero, Int.reduceToNat, ite_true, ite_false, not_true_eq_false, not_false_eq_true, decide_true, decide_false, decide_eq_true_eq, Bool.false_eq_true, Nat.add_zero, am_rok1_0, am_rok1_1, cond_true, cond_false, am_w_nat1, true_or, or_true, false_or, or_false, true_and, and_true, false_and, and_false, Int.reduceEq, Int.reduceNeg, Int.reduceLT, Int.reduceLE, or_self, and_self, if_pos, if_neg]
      · simp (disch := omega) only [h5, c1, zv_c0, zv_f0_0, zv_f0_1, zv_f0_2, zv_f0_3, zv_f0_4, zv_f0_5, zv_f0_6, zv_f0_7, zv_f0_8, zv_f0_9, zv_f0_10, zv_f0_11, zv_c1, zv_f1_0, zv_f1_1, zv_c3, zv_f3_0, zv_f3_1, zv_f3_2, zv_f3_3, zv_f3_4, zv_f3_5, zv_f3_6, zv_f3_7, zv_f3_8, zv_f3_9, zv_c7, zv_f7_0, zv_f7_1, zv_f7_2, zv_f7_3, zv_c67, zv_f67_0, zv_f67_1, zv_f67_2, zv_f67_3, zv_f67_4, zv_f67_5, zv_f67_6, zv_f67_7, zv_c86, zv_f86_0, zv_c87, zv_f87_0, zv_f87_1, zv_f87_2, zv_c89, zv_f89_0, zv_c91, zv_f91_0, zv_f91_1, zv_f91_2, zv_f91_3, zv_c95, zv_f95_0, zv_f95_1, zv_f95_2, zv_f95_3, zv_c99, zv_f99_0, zv_f99_1, zv_f99_2, zv_f99_3, zv_c103, zv_f103_0, zv_f103_1, zv_f103_2, zv_f103_3, zv_r1, zv_r2, zv_r3, zv_r4, zv_r5, zv_r6, zv_r7, zv_r8, zv_r9, zv_r10, zv_r11, zv_r12, zv_r13, zv_r14, zv_r15, zv_r16, zv_r17, zv_r18, zv_r19, zv_r20, zv_r21, zv_l1, zv_l2, zv_l3, zv_l4, zv_l5, zv_l6, zv_l7, zv_l8, zv_l9, zv_l10, zv_l11, zv_l12, zv_l13, zv_l14, zv_l15, zv_l16, zv_l17, zv_l18, zv_l19, zv_l20, zv_l21, zv_p0_3, zv_p0_7, zv_p1_1, zv_w1, zv_p3_3, zv_p3_7, zv_p3_8, zv_p3_9, zv_w2, zv_w3, zv_w4, zv_p7_3, zv_w5, zv_w6, zv_w7, zv_w8, zv_p67_3, zv_p67_4, zv_p67_5, zv_p67_6, zv_p67_7, zv_p86_0, zv_p87_1, zv_p87_2, zv_p89_0, zv_w9, zv_p91_3, zv_w10, zv_w11, zv_w12, zv_p95_3, zv_w13, zv_w14, zv_w15, zv_p99_3, zv_w16, zv_w17, zv_w18, zv_p103_3, zv_w19, zv_w20, zv_w21, zN_c, zN_cL, zN_f0, zN_f1, zN_f2, zN_f3, zN_f4, zN_f5, zN_f6, zN_f7, zN_f8, zN_f9, zN_f10, zN_f11, zN_f12, zN_f13, zN_i1, zN_r0, zN_r1, zN_r2, zN_r3, zN_r4, zN_r5, zN_r6, zN_r7, zN_r8, zN_r9, zN_r10, zN_r11, zN_r12, zN_w0, zP_c, zK_c, zT_c, zT_cL, zT_f0, zT_f1, zT_f2, zT_f3, zT_f4, zT_f5, zT_f6, zT_f7, zT_f8, zT_f9, zT_f10, zT_f11, zT_f12, zT_f13, zT_i1, zT_r0, zT_r1, zT_r2, zT_r3, zT_r4, zT_r5, zT_r6, zT_r7, zT_r8, zT_r9, zT_r10, zT_r11, zT_r12, zT_w0, dup_t, dup_o, va_up_self, va_up_ne, drow_t, drow_o, Option.bind_some, Bool.cond_decide, am_oI_some, am_oV_some, am_oI_ite, am_oV_ite, am_bind_ite, Int.toNat_natCast, Int.toNat_zero, Int.reduceToNat, ite_true, ite_false, not_true_eq_false, not_false_eq_true, decide_true, decide_false, decide_eq_true_eq, Bool.false_eq_true, Nat.add_zero, am_rok1_0, am_rok1_1, cond_true, cond_false, am_w_nat1, true_or, or_true, false_or, or_false, true_and, and_true, false_and, and_false, Int.reduceEq, Int.reduceNeg, Int.reduceLT, Int.reduceLE, or_self, and_self, if_pos, if_neg]
theorem u_c (tf : TF L f) (ct : CT S L f) (ha : (a : Int) ≤ L) (h5 : S 0 5 = a) : am_cI 18 [am_R (x + 3)] (zv x N P K T S m A h) = some (chr L f (skp L f a), zv x N P K T (dup S 0 5 (skp L f a)) m A h) := by
  have h240 := tf.1
  have u := u_loop (x := x) (N := N) (P := P) (K := K) (T := T) (m := m) (A := A) (h := h) tf 240 a S (by omega) ha ct h5
  have hr := skp_r (f := f) ha
  have u' : am_run am_ms 18 0 [am_R (x + 3)] [] (zv x N P K T S m A h) = am_run am_ms 18 44 [am_R (x + 3)] [] (zv x N P K T (dup S 0 5 (skp L f a)) m A h) := u
  rw [am_cI, en_18, u', bk_18_44]
  clear u u'
  generalize skp L f a = b at hr ⊢
  obtain ⟨c1, c2⟩ := CT_f ct (j := 5) (by omega) (b : Int)
  have h5' : dup S 0 5 (b : Int) 0 5 = b := by rw [dup_t, va_up_self]
  generalize dup S 0 5 (b : Int) = S1 at c1 c2 h5' ⊢
  unfold chr
  rw [← c2]
  by_cases e : (b : Int) < L
  · simp (disch := omega) only [h5', c1, bk_18_73, bk_18_74, zv_c0, zv_f0_0, zv_f0_1, zv_f0_2, zv_f0_3, zv_f0_4, zv_f0_5, zv_f0_6, zv_f0_7, zv_f0_8, zv_f0_9, zv_f0_10, zv_f0_11, zv_c1, zv_f1_0, zv_f1_1, zv_c3, zv_f3_0, zv_f3_1, zv_f3_2, zv_f3_3, zv_f3_4, zv_f3_5, zv_f3_6, zv_f3_7, zv_f3_8, zv_f3_9, zv_c7, zv_f7_0, zv_f7_1, zv_f7_2, zv_f7_3, zv_c67, zv_f67_0, zv_f67_1, zv_f67_2, zv_f67_3, zv_f67_4, zv_f67_5, zv_f67_6, zv_f67_7, zv_c86, zv_f86_0, zv_c87, zv_f87_0, zv_f87_1, zv_f87_2, zv_c89, zv_f89_0, zv_c91, zv_f91_0, zv_f91_1, zv_f91_2, zv_f91_3, zv_c95, zv_f95_0, zv_f95_1, zv_f95_2, zv_f95_3, zv_c99, zv_f99_0, zv_f99_1, zv_f99_2, zv_f99_3, zv_c103, zv_f103_0, zv_f103_1, zv_f103_2, zv_f103_3, zv_r1, zv_r2, zv_r3, zv_r4, zv_r5, zv_r6, zv_r7, zv_r8, zv_r9, zv_r10, zv_r11, zv_r12, zv_r13, zv_r14, zv_r15, zv_r16, zv_r17, zv_r18, zv_r19, zv_r20, zv_r21, zv_l1, zv_l2, zv_l3, zv_l4, zv_l5, zv_l6, zv_l7, zv_l8, zv_l9, zv_l10, zv_l11, zv_l12, zv_l13, zv_l14, zv_l15, zv_l16, zv_l17, zv_l18, zv_l19, zv_l20, zv_l21, zv_p0_3, zv_p0_7, zv_p1_1, zv_w1, zv_p3_3, zv_p3_7, zv_p3_8, zv_p3_9, zv_w2, zv_w3, zv_w4, zv_p7_3, zv_w5, zv_w6, zv_w7, zv_w8, zv_p67_3, zv_p67_4, zv_p67_5, zv_p67_6, zv_p67_7, zv_p86_0, zv_p87_1, zv_p87_2, zv_p89_0, zv_w9, zv_p91_3, zv_w10, zv_w11, zv_w12, zv_p95_3, zv_w13, zv_w14, zv_w15, zv_p99_3, zv_w16, zv_w17, zv_w18, zv_p103_3, zv_w19, zv_w20, zv_w21, zN_c, zN_cL, zN_f0, zN_f1, zN_f2, zN_f3, zN_f4, zN_f5, zN_f6, zN_f7, zN_f8, zN_f9, zN_f10, zN_f11, zN_f12, zN_f13, zN_i1, zN_r0, zN_r1, zN_r2, zN_r3, zN_r4, zN_r5, zN_r6, zN_r7, zN_r8, zN_r9, zN_r10, zN_r11, zN_r12, zN_w0, zP_c, zK_c, zT_c, zT_cL, zT_f0, zT_f1, zT_f2, zT_f3, zT_f4, zT_f5, zT_f6, zT_f7, zT_f8, zT_f9, zT_f10, zT_f11, zT_f12, zT_f13, zT_i1, zT_r0, zT_r1, zT_r2, zT_r3, zT_r4, zT_r5, zT_r6, zT_r7, zT_r8, zT_r9, zT_r10, zT_r11, zT_r12, zT_w0, dup_t, dup_o, va_up_self, va_up_ne, drow_t, drow_o, Option.bind_some, Bool.cond_decide, am_oI_some, am_oV_some, am_oI_ite, am_oV_ite, am_bind_ite, Int.toNat_natCast, Int.toNat_zero, Int.reduceToNat, ite_true, ite_false, not_true_eq_false, not_false_eq_true, decide_true, decide_false, decide_eq_true_eq, Bool.false_eq_true, Nat.add_zero, am_rok1_0, am_rok1_1, cond_true, cond_false, am_w_nat1, true_or, or_true, false_or, or_false, true_and, and_true, false_and, and_false, Int.reduceEq, Int.reduceNeg, Int.reduceLT, Int.reduceLE, or_self, and_self, if_pos, if_neg]
  · simp (disch := omega) only [h5', c1, bk_18_73, bk_18_74, zv_c0, zv_f0_0, zv_f0_1, zv_f0_2, zv_f0_3, zv_f0_4, zv_f0_5, zv_f0_6, zv_f0_7, zv_f0_8, zv_f0_9, zv_f0_10, zv_f0_11, zv_c1, zv_f1_0, zv_f1_1, zv_c3, zv_f3_0, zv_f3_1, zv_f3_2, zv_f3_3, zv_f3_4, zv_f3_5, zv_f3_6, zv_f3_7, zv_f3_8, zv_f3_9, zv_c7, zv_f7_0, zv_f7_1, zv_f7_2, zv_f7_3, zv_c67, zv_f67_0, zv_f67_1, zv_f67_2, zv_f67_3, zv_f67_4, zv_f67_5, zv_f67_6, zv_f67_7, zv_c86, zv_f86_0, zv_c87, zv_f87_0, zv_f87_1, zv_f87_2, zv_c89, zv_f89_0, zv_c91, zv_f91_0, zv_f91_1, zv_f91_2, zv_f91_3, zv_c95, zv_f95_0, zv_f95_1, zv_f95_2, zv_f95_3, zv_c99, zv_f99_0, zv_f99_1, zv_f99_2, zv_f99_3, zv_c103, zv_f103_0, zv_f103_1, zv_f103_2, zv_f103_3, zv_r1, zv_r2, zv_r3, zv_r4, zv_r5, zv_r6, zv_r7, zv_r8, zv_r9, zv_r10, zv_r11, zv_r12, zv_r13, zv_r14, zv_r15, zv_r16, zv_r17, zv_r18, zv_r19, zv_r20, zv_r21, zv_l1, zv_l2, zv_l3, zv_l4, zv_l5, zv_l6, zv_l7, zv_l8, zv_l9, zv_l10, zv_l11, zv_l12, zv_l13, zv_l14, zv_l15, zv_l16, zv_l17, zv_l18, zv_l19, zv_l20, zv_l21, zv_p0_3, zv_p0_7, zv_p1_1, zv_w1, zv_p3_3, zv_p3_7, zv_p3_8, zv_p3_9, zv_w2, zv_w3, zv_w4, zv_p7_3, zv_w5, zv_w6, zv_w7, zv_w8, zv_p67_3, zv_p67_4, zv_p67_5, zv_p67_6, zv_p67_7, zv_p86_0, zv_p87_1, zv_p87_2, zv_p89_0, zv_w9, zv_p91_3, zv_w10, zv_w11, zv_w12, zv_p95_3, zv_w13, zv_w14, zv_w15, zv_p99_3, zv_w16, zv_w17, zv_w18, zv_p103_3, zv_w19, zv_w20, zv_w21, zN_c, zN_cL, zN_f0, zN_f1, zN_f2, zN_f3, zN_f4, zN_f5, zN_f6, zN_f7, zN_f8, zN_f9, zN_f10, zN_f11, zN_f12, zN_f13, zN_i1, zN_r0, zN_r1, zN_r2, zN_r3, zN_r4, zN_r5, zN_r6, zN_r7, zN_r8, zN_r9, zN_r10, zN_r11, zN_r12, zN_w0, zP_c, zK_c, zT_c, zT_cL, zT_f0, zT_f1, zT_f2, zT_f3, zT_f4, zT_f5, zT_f6, zT_f7, zT_f8, zT_f9, zT_f10, zT_f11, zT_f12, zT_f13, zT_i1, zT_r0, zT_r1, zT_r2, zT_r3, zT_r4, zT_r5, zT_r6, zT_r7, zT_r8, zT_r9, zT_r10, zT_r11, zT_r12, zT_w0, dup_t, dup_o, va_up_self, va_up_ne, drow_t, drow_o, Option.bind_some, Bool.cond_decide, am_oI_some, am_oV_some, am_oI_ite, am_oV_ite, am_bind_ite, Int.toNat_natCast, Int.toNat_zero, Int.reduceToNat, ite_true, ite_false, not_true_eq_false, not_false_eq_true, decide_true, decide_false, decide_eq_true_eq, Bool.false_eq_true, Nat.add_zero, am_rok1_0, am_rok1_1, cond_true, cond_false, am_w_nat1, true_or, or_true, false_or, or_false, true_and, and_true, false_and, and_false, Int.reduceEq, Int.reduceNeg, Int.reduceLT, Int.reduceLE, or_self, and_self, if_pos, if_neg]
theorem m_here (tf : TF L f) (mt : MTp M L f) (h3 : M 0 3 = a) : am_cI 42 [am_R mo] (mv mo M g) = some (chm L f a, mv mo M g) := by
  have h240 := tf.1
  obtain ⟨c1, c2⟩ := mt
  unfold chm
  by_cases e : (a : Int) < L
  · have e1 : am_and (M 1 a) 255 = f a := by
      rw [c2 a e]
      have := tf.2 a e
      exact i2b_a (by omega) (by omega)
    rw [am_cI]; simp (disch := omega) only [en_42, bk_42_0, bk_42_27, bk_42_28, mv_f0_3, mv_f0_2, mv_f0_1, mv_r1, h3, c1, e1, Option.bind_some, Bool.cond_decide, am_oI_some, am_oV_some, am_oI_ite, am_oV_ite, am_bind_ite, Int.toNat_natCast, Int.toNat_zero, Int.reduceToNat, ite_true, ite_false, not_true_eq_false, not_false_eq_true, decide_true, decide_false, decide_eq_true_eq, Bool.false_eq_true, Nat.add_zero, am_rok1_0, am_rok1_1, cond_true, cond_false, am_w_nat1, true_or, or_true, false_or, or_false, true_and, and_true, false_and, and_false, Int.reduceEq, Int.reduceNeg, Int.reduceLT, Int.reduceLE, or_self, and_self, if_pos, if_neg]
  · rw [am_cI]; simp (disch := omega) only [en_42, bk_42_0, bk_42_27, bk_42_28, mv_f0_3, mv_f0_2, mv_f0_1, mv_r1, h3, c1, Option.bind_some, Bool.cond_decide, am_oI_some, am_oV_some, am_oI_ite, am_oV_ite, am_bind_ite, Int.toNat_natCast, Int.toNat_zero, Int.reduceToNat, ite_true, ite_false, not_true_eq_false, not_false_eq_true, decide_true, decide_false, decide_eq_true_eq, Bool.false_eq_true, Nat.add_zero, am_rok1_0, am_rok1_1, cond_true, cond_false, am_w_nat1, true_or, or_true, false_or, or_false, true_and, and_true, false_and, and_false, Int.reduceEq, Int.reduceNeg, Int.reduceLT, Int.reduceLE, or_self, and_self, if_pos, if_neg]
theorem l_loop (tf : TF L f) : ∀ (n a : Nat) (M : Nat → Nat → Int), L - a ≤ n → (a : Int) ≤ L → MTp M L f → M 0 3 = a → am_run am_ms 43 0 [am_R mo] [] (mv mo M g) = am_run am_ms 43 22 [am_R mo] [] (mv mo (dup M 0 3 (sk L f n a)) g) := by
  intro n
  have h240 := tf.1
  have stay : ∀ (n a : Nat) (M : Nat → Nat → Int), ¬ ((a : Int) < L ∧ f a = 32) → MTp M L f → M 0 3 = a → am_run am_ms 43 0 [am_R mo] [] (mv mo M g) = am_run am_ms 43 22 [am_R mo] [] (mv mo (dup M 0 3 (sk L f n a)) g) := by
    intro n a M e mt h3
    rw [sk_stay n e, dup_at M h3, bk_43_0]
    have c := m_here (mo := mo) (g := g) tf mt h3
    have e1 : ¬ chm L f a = 32 := by
      unfold chm
      split
      · exact fun q => e ⟨by assumption, q⟩
      · omega
    simp (disch := omega) only [mv_c0, c, e1, Option.bind_some, Bool.cond_decide, am_oI_some, am_oV_some, am_oI_ite, am_oV_ite, am_bind_ite, Int.toNat_natCast, Int.toNat_zero, Int.reduceToNat, ite_true, ite_false, not_true_eq_false, not_false_eq_true, decide_true, decide_false, decide_eq_true_eq, Bool.false_eq_true, Nat.add_zero, am_rok1_0, am_rok1_1, cond_true, cond_false, am_w_nat1, true_or, or_true, false_or, or_false, true_and, and_true, false_and, and_false, Int.reduceEq, Int.reduceNeg, Int.reduceLT, Int.reduceLE, or_self, and_self, if_pos, if_neg]
  induction n with
  | zero =>
    intro a M hn ha mt h3
    exact stay 0 a M (by omega) mt h3
  | succ n ih =>
    intro a M hn ha mt h3
    by_cases e : (a : Int) < L ∧ f a = 32
    · have es : sk L f (n + 1) a = sk L f n (a + 1) := if_pos e
      have := ih (a + 1) (dup M 0 3 ((a + 1 : Nat) : Int)) (by omega) (by omega) (MTp_f mt (by omega) _) (by rw [dup_t, va_up_self])
      rw [dup_dup] at this
      rw [es, ← this, bk_43_0]
      clear this
      have c := m_here (mo := mo) (g := g) tf mt h3
      have e1 : chm L f a = 32 := by unfold chm; rw [if_pos e.1]; exact e.2
      rw [e1] at c
      simp (disch := omega) only [mv_c0, c, mv_f0_3, mv_p0_3, h3, Option.bind_some, Bool.cond_decide, am_oI_some, am_oV_some, am_oI_ite, am_oV_ite, am_bind_ite, Int.toNat_natCast, Int.toNat_zero, Int.reduceToNat, ite_true, ite_false, not_true_eq_false, not_false_eq_true, decide_true, decide_false, decide_eq_true_eq, Bool.false_eq_true, Nat.add_zero, am_rok1_0, am_rok1_1, cond_true, cond_false, am_w_nat1, true_or, or_true, false_or, or_false, true_and, and_true, false_and, and_false, Int.reduceEq, Int.reduceNeg, Int.reduceLT, Int.reduceLE, or_self, and_self, if_pos, if_neg]
    · exact stay (n + 1) a M e mt h3
theorem l_m (tf : TF L f) (mt : MTp M L f) (ha : (a : Int) ≤ L) (h3 : M 0 3 = a) : am_cI 43 [am_R mo] (mv mo M g) = some (chm L f (skp L f a), mv mo (dup M 0 3 (skp L f a)) g) := by
  have h240 := tf.1
  have u := l_loop (mo := mo) (g := g) tf 240 a M (by omega) ha mt h3
  have u' : am_run am_ms 43 0 [am_R mo] [] (mv mo M g) = am_run am_ms 43 22 [am_R mo] [] (mv mo (dup M 0 3 (skp L f a)) g) := u
  rw [am_cI, en_43, u', bk_43_22]
  have c := m_here (mo := mo) (g := g) tf (MTp_f mt (j := 3) (by omega) (skp L f a : Int)) (a := skp L f a) (by rw [dup_t, va_up_self])
  simp only [mv_c0, c, Option.bind_some, Bool.cond_decide, am_oI_some, am_oV_some, am_oI_ite, am_oV_ite, am_bind_ite, Int.toNat_natCast, Int.toNat_zero, Int.reduceToNat, ite_true, ite_false, not_true_eq_false, not_false_eq_true, decide_true, decide_false, decide_eq_true_eq, Bool.false_eq_true, Nat.add_zero, am_rok1_0, am_rok1_1, cond_true, cond_false, am_w_nat1, true_or, or_true, false_or, or_false, true_and, and_true, false_and, and_false, Int.reduceEq, Int.reduceNeg, Int.reduceLT, Int.reduceLE, or_self, and_self]
/-- a digit stands there -/
def dg (L : Int) (f : Nat → Int) (a : Nat) : Bool := decide ((a : Int) < L ∧ 48 ≤ f a ∧ f a ≤ 57)
theorem d_c (tf : TF L f) (ct : CT S L f) (h5 : S 0 5 = a) : am_cI 27 [am_R (x + 3)] (zv x N P K T S m A h) = some (if dg L f a = true then 1 else 0, (zv x N P K T S m A h)) := by
  have h240 := tf.1
  obtain ⟨c1, c2⟩ := ct
  unfold dg
  rw [← c2]
  by_cases e : (a : Int) < L
  · by_cases e1 : S 1 a < 48
    · rw [decide_eq_false (by omega), am_cI]; simp (disch := omega) only [en_27, bk_27_0, bk_27_31, bk_27_52, bk_27_53, h5, c1, zv_c0, zv_f0_0, zv_f0_1, zv_f0_2, zv_f0_3, zv_f0_4, zv_f0_5, zv_f0_6, zv_f0_7, zv_f0_8, zv_f0_9, zv_f0_10, zv_f0_11, zv_c1, zv_f1_0, zv_f1_1, zv_c3, zv_f3_0, zv_f3_1, zv_f3_2, zv_f3_3, zv_f3_4, zv_f3_5, zv_f3_6, zv_f3_7, zv_f3_8, zv_f3_9, zv_c7, zv_f7_0, zv_f7_1, zv_f7_2, zv_f7_3, zv_c67, zv_f67_0, zv_f67_1, zv_f67_2, zv_f67_3, zv_f67_4, zv_f67_5, zv_f67_6, zv_f67_7, zv_c86, zv_f86_0, zv_c87, zv_f87_0, zv_f87_1, zv_f87_2, zv_c89, zv_f89_0, zv_c91, zv_f91_0, zv_f91_1, zv_f91_2, zv_f91_3, zv_c95, zv_f95_0, zv_f95_1, zv_f95_2, zv_f95_3, zv_c99, zv_f99_0, zv_f99_1, zv_f99_2, zv_f99_3, zv_c103, zv_f103_0, zv_f103_1, zv_f103_2, zv_f103_3, zv_r1, zv_r2, zv_r3, zv_r4, zv_r5, zv_r6, zv_r7, zv_r8, zv_r9, zv_r10, zv_r11, zv_r12, zv_r13, zv_r14, zv_r15, zv_r16, zv_r17, zv_r18, zv_r19, zv_r20, zv_r21, zv_l1, zv_l2, zv_l3, zv_l4, zv_l5, zv_l6, zv_l7, zv_l8, zv_l9, zv_l10, zv_l11, zv_l12, zv_l13, zv_l14, zv_l15, zv_l16, zv_l17, zv_l18, zv_l19, zv_l20, zv_l21, zv_p0_3, zv_p0_7, zv_p1_1, zv_w1, zv_p3_3, zv_p3_7, zv_p3_8, zv_p3_9, zv_w2, zv_w3, zv_w4, zv_p7_3, zv_w5, zv_w6, zv_w7, zv_w8, zv_p67_3, zv_p67_4, zv_p67_5, zv_p67_6, zv_p67_7, zv_p86_0, zv_p87_1, zv_p87_2, zv_p89_0, zv_w9, zv_p91_3, zv_w10, zv_w11, zv_w12, zv_p95_3, zv_w13, zv_w14, zv_w15, zv_p99_3, zv_w16, zv_w17, zv_w18, zv_p103_3, zv_w19, zv_w20, zv_w21, zN_c, zN_cL, zN_f0, zN_f1, zN_f2, zN_f3, zN_f4, zN_f5, zN_f6, zN_f7, zN_f8, zN_f9, zN_f10, zN_f11, zN_f12, zN_f13, zN_i1, zN_r0, zN_r1, zN_r2, zN_r3, zN_r4, zN_r5, zN_r6, zN_r7, zN_r8, zN_r9, zN_r10, zN_r11, zN_r12, zN_w0, zP_c, zK_c, zT_c, zT_cL, zT_f0, zT_f1, zT_f2, zT_f3, zT_f4, zT_f5, zT_f6, zT_f7, zT_f8, zT_f9, zT_f10, zT_f11, zT_f12, zT_f13, zT_i1, zT_r0, zT_r1, zT_r2, zT_r3, zT_r4, zT_r5, zT_r6, zT_r7, zT_r8, zT_r9, zT_r10, zT_r11, zT_r12, zT_w0, dup_t, dup_o, va_up_self, va_up_ne, drow_t, drow_o, Option.bind_some, Bool.cond_decide, am_oI_some, am_oV_some, am_oI_ite, am_oV_ite, am_bind_ite, Int.toNat_natCast, Int.toNat_zero, Int.reduceToNat, ite_true, ite_false, not_true_eq_false, not_false_eq_true, decide_true, decide_false, decide_eq_true_eq, Bool.false_eq_true, Nat.add_zero, am_rok1_0, am_rok1_1, cond_true, cond_false, am_w_nat1, true_or, or_true, false_or, or_false, true_and, and_true, false_and, and_false, Int.reduceEq, Int.reduceNeg, Int.reduceLT, Int.reduceLE, or_self, and_self, if_pos, if_neg]
    · by_cases e2 : 57 < S 1 a
      · rw [decide_eq_false (by omega), am_cI]; simp (disch := omega) only [en_27, bk_27_0, bk_27_31, bk_27_52, bk_27_53, h5, c1, zv_c0, zv_f0_0, zv_f0_1, zv_f0_2, zv_f0_3, zv_f0_4, zv_f0_5, zv_f0_6, zv_f0_7, zv_f0_8, zv_f0_9, zv_f0_10, zv_f0_11, zv_c1, zv_f1_0, zv_f1_1, zv_c3, zv_f3_0, zv_f3_1, zv_f3_2, zv_f3_3, zv_f3_4, zv_f3_5, zv_f3_6, zv_f3_7, zv_f3_8, zv_f3_9, zv_c7, zv_f7_0, zv_f7_1, zv_f7_2, zv_f7_3, zv_c67, zv_f67_0, zv_f67_1, zv_f67_2, zv_f67_3, zv_f67_4, zv_f67_5, zv_f67_6, zv_f67_7, zv_c86, zv_f86_0, zv_c87, zv_f87_0, zv_f87_1, zv_f87_2, zv_c89, zv_f89_0, zv_c91, zv_f91_0, zv_f91_1, zv_f91_2, zv_f91_3, zv_c95, zv_f95_0, zv_f95_1, zv_f95_2, zv_f95_3, zv_c99, zv_f99_0, zv_f99_1, zv_f99_2, zv_f99_3, zv_c103, zv_f103_0, zv_f103_1, zv_f103_2, zv_f103_3, zv_r1, zv_r2, zv_r3, zv_r4, zv_r5, zv_r6, zv_r7, zv_r8, zv_r9, zv_r10, zv_r11, zv_r12, zv_r13, zv_r14, zv_r15, zv_r16, zv_r17, zv_r18, zv_r19, zv_r20, zv_r21, zv_l1, zv_l2, zv_l3, zv_l4, zv_l5, zv_l6, zv_l7, zv_l8, zv_l9, zv_l10, zv_l11, zv_l12, zv_l13, zv_l14, zv_l15, zv_l16, zv_l17, zv_l18, zv_l19, zv_l20, zv_l21, zv_p0_3, zv_p0_7, zv_p1_1, zv_w1, zv_p3_3, zv_p3_7, zv_p3_8, zv_p3_9, zv_w2, zv_w3, zv_w4, zv_p7_3, zv_w5, zv_w6, zv_w7, zv_w8, zv_p67_3, zv_p67_4, zv_p67_5, zv_p67_6, zv_p67_7, zv_p86_0, zv_p87_1, zv_p87_2, zv_p89_0, zv_w9, zv_p91_3, zv_w10, zv_w11, zv_w12, zv_p95_3, zv_w13, zv_w14, zv_w15, zv_p99_3, zv_w16, zv_w17, zv_w18, zv_p103_3, zv_w19, zv_w20, zv_w21, zN_c, zN_cL, zN_f0, zN_f1, zN_f2, zN_f3, zN_f4, zN_f5, zN_f6, zN_f7, zN_f8, zN_f9, zN_f10, zN_f11, zN_f12, zN_f13, zN_i1, zN_r0, zN_r1, zN_r2, zN_r3, zN_r4, zN_r5, zN_r6, zN_r7, zN_r8, zN_r9, zN_r10, zN_r11, zN_r12, zN_w0, zP_c, zK_c, zT_c, zT_cL, zT_f0, zT_f1, zT_f2, zT_f3, zT_f4, zT_f5, zT_f6, zT_f7, zT_f8, zT_f9, zT_f10, zT_f11, zT_f12, zT_f13, zT_i1, zT_r0, zT_r1, zT_r2, zT_r3, zT_r4, zT_r5, zT_r6, zT_r7, zT_r8, zT_r9, zT_r10, zT_r11, zT_r12, zT_w0, dup_t, dup_o, va_up_self, va_up_ne, drow_t, drow_o, Option.bind_some, Bool.cond_decide, am_oI_some, am_oV_some, am_oI_ite, am_oV_ite, am_bind_ite, Int.toNat_natCast, Int.toNat_zero, Int.reduceToNat, ite_true, ite_false, not_true_eq_false, not_false_eq_true, decide_true, decide_false, decide_eq_true_eq, Bool.false_eq_true, Nat.add_zero, am_rok1_0, am_rok1_1, cond_true, cond_false, am_w_nat1, true_or, or_true, false_or, or_false, true_and, and_true, false_and, and_false, Int.reduceEq, Int.reduceNeg, Int.reduceLT, Int.reduceLE, or_self, and_self, if_pos, if_neg]
      · rw [decide_eq_true (by omega), am_cI]; simp (disch := omega) only [en_27, bk_27_0, bk_27_31, bk_27_52, bk_27_53, h5, c1, zv_c0, zv_f0_0, zv_f0_1, zv_f0_2, zv_f0_3, zv_f0_4, zv_f0_5, zv_f0_6, zv_f0_7, zv_f0_8, zv_f0_9, zv_f0_10, zv_f0_11, zv_c1, zv_f1_0, zv_f1_1, zv_c3, zv_f3_0, zv_f3_1, zv_f3_2, zv_f3_3, zv_f3_4, zv_f3_5, zv_f3_6, zv_f3_7, zv_f3_8, zv_f3_9, zv_c7, zv_f7_0, zv_f7_1, zv_f7_2, zv_f7_3, zv_c67, zv_f67_0, zv_f67_1, zv_f67_2, zv_f67_3, zv_f67_4, zv_f67_5, zv_f67_6, zv_f67_7, zv_c86, zv_f86_0, zv_c87, zv_f87_0, zv_f87_1, zv_f87_2, zv_c89, zv_f89_0, zv_c91, zv_f91_0, zv_f91_1, zv_f91_2, zv_f91_3, zv_c95, zv_f95_0, zv_f95_1, zv_f95_2, zv_f95_3, zv_c99, zv_f99_0, zv_f99_1, zv_f99_2, zv_f99_3, zv_c103, zv_f103_0, zv_f103_1, zv_f103_2, zv_f103_3, zv_r1, zv_r2, zv_r3, zv_r4, zv_r5, zv_r6, zv_r7, zv_r8, zv_r9, zv_r10, zv_r11, zv_r12, zv_r13, zv_r14, zv_r15, zv_r16, zv_r17, zv_r18, zv_r19, zv_r20, zv_r21, zv_l1, zv_l2, zv_l3, zv_l4, zv_l5, zv_l6, zv_l7, zv_l8, zv_l9, zv_l10, zv_l11, zv_l12, zv_l13, zv_l14, zv_l15, zv_l16, zv_l17, zv_l18, zv_l19, zv_l20, zv_l21, zv_p0_3, zv_p0_7, zv_p1_1, zv_w1, zv_p3_3, zv_p3_7, zv_p3_8, zv_p3_9, zv_w2, zv_w3, zv_w4, zv_p7_3, zv_w5, zv_w6, zv_w7, zv_w8, zv_p67_3, zv_p67_4, zv_p67_5, zv_p67_6, zv_p67_7, zv_p86_0, zv_p87_1, zv_p87_2, zv_p89_0, zv_w9, zv_p91_3, zv_w10, zv_w11, zv_w12, zv_p95_3, zv_w13, zv_w14, zv_w15, zv_p99_3, zv_w16, zv_w17, zv_w18, zv_p103_3, zv_w19, zv_w20, zv_w21, zN_c, zN_cL, zN_f0, zN_f1, zN_f2, zN_f3, zN_f4, zN_f5, zN_f6, zN_f7, zN_f8, zN_f9, zN_f10, zN_f11, zN_f12, zN_f13, zN_i1, zN_r0, zN_r1, zN_r2, zN_r3, zN_r4, zN_r5, zN_r6, zN_r7, zN_r8, zN_r9, zN_r10, zN_r11, zN_r12, zN_w0, zP_c, zK_c, zT_c, zT_cL, zT_f0, zT_f1, zT_f2, zT_f3, zT_f4, zT_f5, zT_f6, zT_f7, zT_f8, zT_f9, zT_f10, zT_f11, zT_f12, zT_f13, zT_i1, zT_r0, zT_r1, zT_r2, zT_r3, zT_r4, zT_r5, zT_r6, zT_r7, zT_r8, zT_r9, zT_r10, zT_r11, zT_r12, zT_w0, dup_t, dup_o, va_up_self, va_up_ne, drow_t, drow_o, Option.bind_some, Bool.cond_decide, am_oI_some, am_oV_some, am_oI_ite, am_oV_ite, am_bind_ite, Int.toNat_natCast, Int.toNat_zero, Int.reduceToNat, ite_true, ite_false, not_true_eq_false, not_false_eq_true, decide_true, decide_false, decide_eq_true_eq, Bool.false_eq_true, Nat.add_zero, am_rok1_0, am_rok1_1, cond_true, cond_false, am_w_nat1, true_or, or_true, false_or, or_false, true_and, and_true, false_and, and_false, Int.reduceEq, Int.reduceNeg, Int.reduceLT, Int.reduceLE, or_self, and_self, if_pos, if_neg]
  · rw [decide_eq_false (by omega), am_cI]; simp (disch := omega) only [en_27, bk_27_0, bk_27_31, bk_27_52, bk_27_53, h5, c1, zv_c0, zv_f0_0, zv_f0_1, zv_f0_2, zv_f0_3, zv_f0_4, zv_f0_5, zv_f0_6, zv_f0_7, zv_f0_8, zv_f0_9, zv_f0_10, zv_f0_11, zv_c1, zv_f1_0, zv_f1_1, zv_c3, zv_f3_0, zv_f3_1, zv_f3_2, zv_f3_3, zv_f3_4, zv_f3_5, zv_f3_6, zv_f3_7, zv_f3_8, zv_f3_9, zv_c7, zv_f7_0, zv_f7_1, zv_f7_2, zv_f7_3, zv_c67, zv_f67_0, zv_f67_1, zv_f67_2, zv_f67_3, zv_f67_4, zv_f67_5, zv_f67_6, zv_f67_7, zv_c86, zv_f86_0, zv_c87, zv_f87_0, zv_f87_1, zv_f87_2, zv_c89, zv_f89_0, zv_c91, zv_f91_0, zv_f91_1, zv_f91_2, zv_f91_3, zv_c95, zv_f95_0, zv_f95_1, zv_f95_2, zv_f95_3, zv_c99, zv_f99_0, zv_f99_1, zv_f99_2, zv_f99_3, zv_c103, zv_f103_0, zv_f103_1, zv_f103_2, zv_f103_3, zv_r1, zv_r2, zv_r3, zv_r4, zv_r5, zv_r6, zv_r7, zv_r8, zv_r9, zv_r10, zv_r11, zv_r12, zv_r13, zv_r14, zv_r15, zv_r16, zv_r17, zv_r18, zv_r19, zv_r20, zv_r21, zv_l1, zv_l2, zv_l3, zv_l4, zv_l5, zv_l6, zv_l7, zv_l8, zv_l9, zv_l10, zv_l11, zv_l12, zv_l13, zv_l14, zv_l15, zv_l16, zv_l17, zv_l18, zv_l19, zv_l20, zv_l21, zv_p0_3, zv_p0_7, zv_p1_1, zv_w1, zv_p3_3, zv_p3_7, zv_p3_8, zv_p3_9, zv_w2, zv_w3, zv_w4, zv_p7_3, zv_w5, zv_w6, zv_w7, zv_w8, zv_p67_3, zv_p67_4, zv_p67_5, zv_p67_6, zv_p67_7, zv_p86_0, zv_p87_1, zv_p87_2, zv_p89_0, zv_w9, zv_p91_3, zv_w10, zv_w11, zv_w12, zv_p95_3, zv_w13, zv_w14, zv_w15, zv_p99_3, zv_w16, zv_w17, zv_w18, zv_p103_3, zv_w19, zv_w20, zv_w21, zN_c, zN_cL, zN_f0, zN_f1, zN_f2, zN_f3, zN_f4, zN_f5, zN_f6, zN_f7, zN_f8, zN_f9, zN_f10, zN_f11, zN_f12, zN_f13, zN_i1, zN_r0, zN_r1, zN_r2, zN_r3, zN_r4, zN_r5, zN_r6, zN_r7, zN_r8, zN_r9, zN_r10, zN_r11, zN_r12, zN_w0, zP_c, zK_c, zT_c, zT_cL, zT_f0, zT_f1, zT_f2, zT_f3, zT_f4, zT_f5, zT_f6, zT_f7, zT_f8, zT_f9, zT_f10, zT_f11, zT_f12, zT_f13, zT_i1, zT_r0, zT_r1, zT_r2, zT_r3, zT_r4, zT_r5, zT_r6, zT_r7, zT_r8, zT_r9, zT_r10, zT_r11, zT_r12, zT_w0, dup_t, dup_o, va_up_self, va_up_ne, drow_t, drow_o, Option.bind_some, Bool.cond_decide, am_oI_some, am_oV_some, am_oI_ite, am_oV_ite, am_bind_ite, Int.toNat_natCast, Int.toNat_zero, Int.reduceToNat, ite_true, ite_false, not_true_eq_false, not_false_eq_true, decide_true, decide_false, decide_eq_true_eq, Bool.false_eq_true, Nat.add_zero, am_rok1_0, am_rok1_1, cond_true, cond_false, am_w_nat1, true_or, or_true, false_or, or_false, true_and, and_true, false_and, and_false, Int.reduceEq, Int.reduceNeg, Int.reduceLT, Int.reduceLE, or_self, and_self, if_pos, if_neg]
theorem d_m (tf : TF L f) (mt : MTp M L f) (h3 : M 0 3 = a) : am_cI 53 [am_R mo] (mv mo M g) = some (if dg L f a = true then 1 else 0, mv mo M g) := by
  have c := m_here (mo := mo) (g := g) tf mt h3
  have ed : dg L f a = decide (48 ≤ chm L f a ∧ chm L f a ≤ 57) := by
    unfold dg chm
    by_cases e : (a : Int) < L
    · rw [if_pos e]
      exact decide_eq_decide.mpr ⟨fun q => q.2, fun q => ⟨e, q⟩⟩
    · rw [if_neg e]
      rw [decide_eq_false (by omega), decide_eq_false (by omega)]
  rw [ed]
  clear ed
  generalize chm L f a = B at c ⊢
  by_cases e1 : B < 48
  · rw [decide_eq_false (by omega), am_cI]; simp (disch := omega) only [en_53, bk_53_0, bk_53_22, bk_53_23, mv_c0, c, Option.bind_some, Bool.cond_decide, am_oI_some, am_oV_some, am_oI_ite, am_oV_ite, am_bind_ite, Int.toNat_natCast, Int.toNat_zero, Int.reduceToNat, ite_true, ite_false, not_true_eq_false, not_false_eq_true, decide_true, decide_false, decide_eq_true_eq, Bool.false_eq_true, Nat.add_zero, am_rok1_0, am_rok1_1, cond_true, cond_false, am_w_nat1, true_or, or_true, false_or, or_false, true_and, and_true, false_and, and_false, Int.reduceEq, Int.reduceNeg, Int.reduceLT, Int.reduceLE, or_self, and_self, if_pos, if_neg]
  · by_cases e2 : 57 < B
    · rw [decide_eq_false (by omega), am_cI]; simp (disch := omega) only [en_53, bk_53_0, bk_53_22, bk_53_23, mv_c0, c, Option.bind_some, Bool.cond_decide, am_oI_some, am_oV_some, am_oI_ite, am_oV_ite, am_bind_ite, Int.toNat_natCast, Int.toNat_zero, Int.reduceToNat, ite_true, ite_false, not_true_eq_false, not_false_eq_true, decide_true, decide_false, decide_eq_true_eq, Bool.false_eq_true, Nat.add_zero, am_rok1_0, am_rok1_1, cond_true, cond_false, am_w_nat1, true_or, or_true, false_or, or_false, true_and, and_true, false_and, and_false, Int.reduceEq, Int.reduceNeg, Int.reduceLT, Int.reduceLE, or_self, and_self, if_pos, if_neg]
    · rw [decide_eq_true (by omega), am_cI]; simp (disch := omega) only [en_53, bk_53_0, bk_53_22, bk_53_23, mv_c0, c, Option.bind_some, Bool.cond_decide, am_oI_some, am_oV_some, am_oI_ite, am_oV_ite, am_bind_ite, Int.toNat_natCast, Int.toNat_zero, Int.reduceToNat, ite_true, ite_false, not_true_eq_false, not_false_eq_true, decide_true, decide_false, decide_eq_true_eq, Bool.false_eq_true, Nat.add_zero, am_rok1_0, am_rok1_1, cond_true, cond_false, am_w_nat1, true_or, or_true, false_or, or_false, true_and, and_true, false_and, and_false, Int.reduceEq, Int.reduceNeg, Int.reduceLT, Int.reduceLE, or_self, and_self, if_pos, if_neg]
theorem m_fails {b : Int} (h4 : M 0 4 = -1) (h3 : M 0 3 = b) : am_cV 50 [am_R mo] (mv mo M g) = some (mv mo (dup M 0 4 b) g) := by
  rw [am_cV]; simp only [en_50, bk_50_0, bk_50_16, mv_f0_4, mv_f0_3, mv_p0_4, h4, h3, Option.bind_some, Bool.cond_decide, am_oI_some, am_oV_some, am_oI_ite, am_oV_ite, am_bind_ite, Int.toNat_natCast, Int.toNat_zero, Int.reduceToNat, ite_true, ite_false, not_true_eq_false, not_false_eq_true, decide_true, decide_false, decide_eq_true_eq, Bool.false_eq_true, Nat.add_zero, am_rok1_0, am_rok1_1, cond_true, cond_false, am_w_nat1, true_or, or_true, false_or, or_false, true_and, and_true, false_and, and_false, Int.reduceEq, Int.reduceNeg, Int.reduceLT, Int.reduceLE, or_self, and_self]
/-- where the digits end, and what they tell -/
def rnp (L : Int) (f : Nat → Int) : Nat → Nat → Nat
  | 0, p => p
  | n + 1, p => if dg L f p = true then rnp L f n (p + 1) else p
def rnv (L : Int) (f : Nat → Int) : Nat → Nat → Int → Int
  | 0, _, v => v
  | n + 1, p, v => if dg L f p = true then rnv L f n (p + 1) (10 * v + f p - 48) else v
theorem rnp_r : ∀ (n p : Nat), (p : Int) ≤ L → p ≤ rnp L f n p ∧ (rnp L f n p : Int) ≤ L ∧ rnp L f n p ≤ p + n := by
  intro n
  induction n with
  | zero => intro p hp; exact ⟨Nat.le_refl _, hp, Nat.le_refl _⟩
  | succ n ih =>
    intro p hp
    unfold rnp
    by_cases e : dg L f p = true
    · rw [if_pos e]
      have := of_decide_eq_true e
      have := ih (p + 1) (by omega)
      omega
    · rw [if_neg e]; omega
def vb (n : Nat) (v : Int) : Prop := 0 ≤ v ∧ (n = 0 → v ≤ 1999) ∧ (n = 1 → v ≤ 199) ∧ (n = 2 → v ≤ 19) ∧ (n = 3 → v ≤ 1)
theorem n_loop (tf : TF L f) (lo hi : Int) : ∀ (n p d : Nat) (v : Int) (S : Nat → Nat → Int), d + n = 3 → vb n v → (p : Int) ≤ L → CT S L f → S 0 5 = p → am_run am_ms 28 10 [am_R (x + 3), am_I lo, am_I hi, am_I v, am_I d] [] (zv x N P K T S m A h) = am_run am_ms 28 60 [am_R (x + 3), am_I lo, am_I hi, am_I (rnv L f n p v), am_I ((d + (rnp L f n p - p) : Nat) : Int)] [] (zv x N P K T (dup S 0 5 (rnp L f n p)) m A h) := by
  have h240 := tf.1
  intro n
  induction n with
  | zero =>
    intro p d v S hd hv hp ct h5
    have e1 : rnv L f 0 p v = v := rfl
    have e2 : rnp L f 0 p = p := rfl
    rw [e1, e2, dup_at S h5, bk_28_10, Nat.sub_self, Nat.add_zero]
    simp (disch := omega) only [Option.bind_some, Bool.cond_decide, am_oI_some, am_oV_some, am_oI_ite, am_oV_ite, am_bind_ite, Int.toNat_natCast, Int.toNat_zero, Int.reduceToNat, ite_true, ite_false, not_true_eq_false, not_false_eq_true, decide_true, decide_false, decide_eq_true_eq, Bool.false_eq_true, Nat.add_zero, am_rok1_0, am_rok1_1, cond_true, cond_false, am_w_nat1, true_or, or_true, false_or, or_false, true_and, and_true, false_and, and_false, Int.reduceEq, Int.reduceNeg, Int.reduceLT, Int.reduceLE, or_self, and_self, if_pos, if_neg]
  | succ n ih =>
    intro p d v S hd hv hp ct h5
    have c := d_c (x := x) (N := N) (P := P) (K := K) (T := T) (m := m) (A := A) (h := h) tf ct h5
    by_cases e : dg L f p = true
    · have e1 : rnv L f (n + 1) p v = rnv L f n (p + 1) (10 * v + f p - 48) := if_pos e
      have e2 : rnp L f (n + 1) p = rnp L f n (p + 1) := if_pos e
      have ed := of_decide_eq_true e
      have hv' : vb n (10 * v + f p - 48) := by unfold vb at hv ⊢; omega
      have hr := rnp_r (L := L) (f := f) n (p + 1) (by omega)
      have := ih (p + 1) (d + 1) (10 * v + f p - 48) (dup S 0 5 ((p + 1 : Nat) : Int)) (by omega) hv' (by omega) (CT_f ct (by omega) _) (by rw [dup_t, va_up_self])
      rw [dup_dup, show d + 1 + (rnp L f n (p + 1) - (p + 1)) = d + (rnp L f n (p + 1) - p) by omega] at this
      rw [e1, e2, ← this, bk_28_10]
      clear this
      rw [if_pos e] at c
      have hv0 : 0 ≤ v ∧ v ≤ 1999 := by unfold vb at hv; omega
      obtain ⟨c1, c2⟩ := ct
      have w1 : am_w (v * 10) = v * 10 := am_w_id (by omega) (by omega)
      have w2 : am_w (am_w (v * 10 + S 1 p) - 48) = 10 * v + f p - 48 := by
        rw [c2, am_w_id (x := v * 10 + f p) (by omega) (by omega), am_w_id (by omega) (by omega)]
        omega
      have hd3 : ¬ (3 : Int) ≤ d := by omega
      have hp0 : (0 : Int) ≤ p := by omega
      have hp1 : (p : Int) < 240 := by omega
      have hpw : am_w ((p : Int) + 1) = ((p + 1 : Nat) : Int) := am_w_nat1 (by omega)
      have hdw : am_w ((d : Int) + 1) = ((d + 1 : Nat) : Int) := am_w_nat1 (by omega)
      clear hv hv' hr hv0 ed ih
      simp only [hd3, zv_c3, c, zv_f3_5, zv_f1_0, zv_f3_8, h5, w1, bk_28_38, zv_r1 hp0 hp1, zv_p3_8, w2, hpw, hdw, Nat.reduceEqDiff, Int.one_ne_zero, Option.bind_some, Bool.cond_decide, am_oI_some, am_oV_some, am_oI_ite, am_oV_ite, am_bind_ite, Int.toNat_natCast, Int.toNat_zero, Int.reduceToNat, ite_true, ite_false, not_true_eq_false, not_false_eq_true, decide_true, decide_false, decide_eq_true_eq, Bool.false_eq_true, Nat.add_zero, am_rok1_0, am_rok1_1, cond_true, cond_false, am_w_nat1, true_or, or_true, false_or, or_false, true_and, and_true, false_and, and_false, Int.reduceEq, Int.reduceNeg, Int.reduceLT, Int.reduceLE, or_self, and_self]
    · have e1 : rnv L f (n + 1) p v = v := if_neg e
      have e2 : rnp L f (n + 1) p = p := if_neg e
      rw [e1, e2, dup_at S h5, bk_28_10, Nat.sub_self, Nat.add_zero]
      rw [if_neg e] at c
      simp (disch := omega) only [zv_c3, c, Option.bind_some, Bool.cond_decide, am_oI_some, am_oV_some, am_oI_ite, am_oV_ite, am_bind_ite, Int.toNat_natCast, Int.toNat_zero, Int.reduceToNat, ite_true, ite_false, not_true_eq_false, not_false_eq_true, decide_true, decide_false, decide_eq_true_eq, Bool.false_eq_true, Nat.add_zero, am_rok1_0, am_rok1_1, cond_true, cond_false, am_w_nat1, true_or, or_true, false_or, or_false, true_and, and_true, false_and, and_false, Int.reduceEq, Int.reduceNeg, Int.reduceLT, Int.reduceLE, or_self, and_self, if_pos, if_neg]
/-- what is wrong with a number that begins at b (nothing: -1) -/
def rnw (L : Int) (f : Nat → Int) (lo hi : Int) (b : Nat) : Int := if rnp L f 3 b = b ∨ dg L f (rnp L f 3 b) = true then rnp L f 3 b else if rnv L f 3 b 0 < lo ∨ hi < rnv L f 3 b 0 then (rnp L f 3 b : Int) - 1 else -1
def rnq (L : Int) (f : Nat → Int) (lo hi : Int) (b : Nat) : Nat := if rnp L f 3 b = b ∨ dg L f (rnp L f 3 b) = true then rnp L f 3 b else if rnv L f 3 b 0 < lo ∨ hi < rnv L f 3 b 0 then rnp L f 3 b - 1 else rnp L f 3 b
theorem rnw_ok {lo hi : Int} {b : Nat} (hb : (b : Int) ≤ L) (h : rnw L f lo hi b = -1) : (lo ≤ rnv L f 3 b 0 ∧ rnv L f 3 b 0 ≤ hi) ∧ rnq L f lo hi b = rnp L f 3 b := by
  unfold rnw at h
  unfold rnq
  have hr := rnp_r (L := L) (f := f) 3 b hb
  by_cases e : rnp L f 3 b = b ∨ dg L f (rnp L f 3 b) = true
  · rw [if_pos e] at h; omega
  · rw [if_neg e] at h ⊢
    by_cases e2 : rnv L f 3 b 0 < lo ∨ hi < rnv L f 3 b 0
    · rw [if_pos e2] at h
      have : ¬ rnp L f 3 b = b := fun q => e (Or.inl q)
      omega
    · rw [if_neg e2]
      exact ⟨by omega, rfl⟩
theorem rnw_no {lo hi : Int} {b : Nat} (hb : (b : Int) ≤ L) (h : rnw L f lo hi b ≠ -1) : 0 ≤ rnw L f lo hi b := by
  unfold rnw at h ⊢
  have hr := rnp_r (L := L) (f := f) 3 b hb
  by_cases e : rnp L f 3 b = b ∨ dg L f (rnp L f 3 b) = true
  · rw [if_pos e]; omega
  · rw [if_neg e] at h ⊢
    by_cases e2 : rnv L f 3 b 0 < lo ∨ hi < rnv L f 3 b 0
    · rw [if_pos e2]
      have : ¬ rnp L f 3 b = b := fun q => e (Or.inl q)
      omega
    · rw [if_neg e2] at h; exact absurd rfl h
theorem rnq_r {lo hi : Int} {b : Nat} (hb : (b : Int) ≤ L) : (rnq L f lo hi b : Int) ≤ L := by
  unfold rnq
  have hr := rnp_r (L := L) (f := f) 3 b hb
  split
  · omega
  · split <;> omega
theorem w_m1 {p : Int} (h0 : 0 ≤ p) (h1 : p ≤ 1000) : am_w (p - 1) = p - 1 := am_w_id (by omega) (by omega)
theorem n_c (tf : TF L f) (ct : CT S L f) (ha : (a : Int) ≤ L) (h5 : S 0 5 = a) (h6 : S 0 6 = -1) (lo hi : Int) : am_cI 28 [am_R (x + 3), am_I lo, am_I hi] (zv x N P K T S m A h) = some (rnv L f 3 (skp L f a) 0, zv x N P K T (dup (dup S 0 5 (rnp L f 3 (skp L f a))) 0 6 (rnw L f lo hi (skp L f a))) m A h) := by
  have h240 := tf.1
  have c0 := u_c (x := x) (N := N) (P := P) (K := K) (T := T) (m := m) (A := A) (h := h) tf ct ha h5
  have hb := (skp_r (f := f) ha).2
  generalize skp L f a = b at c0 hb ⊢
  have l := n_loop (x := x) (N := N) (P := P) (K := K) (T := T) (m := m) (A := A) (h := h) tf lo hi 3 b 0 0 (dup S 0 5 (b : Int)) (by omega) (by unfold vb; omega) hb (CT_f ct (by omega) _) (by rw [dup_t, va_up_self])
  rw [dup_dup] at l
  have hr := rnp_r (L := L) (f := f) 3 b hb
  unfold rnw
  generalize rnp L f 3 b = p at l hr ⊢
  generalize rnv L f 3 b 0 = v at l ⊢
  have ct1 : CT (dup S 0 5 (p : Int)) L f := CT_f ct (by omega) _
  have h51 : dup S 0 5 (p : Int) 0 5 = p := by rw [dup_t, va_up_self]
  have h61 : dup S 0 5 (p : Int) 0 6 = -1 := by rw [dup_t, va_up_ne _ _ (by omega)]; exact h6
  have d := d_c (x := x) (N := N) (P := P) (K := K) (T := T) (m := m) (A := A) (h := h) tf ct1 h51
  have e0 : am_cI 28 [am_R (x + 3), am_I lo, am_I hi] (zv x N P K T S m A h) = am_oI (am_run am_ms 28 60 [am_R (x + 3), am_I lo, am_I hi, am_I v, am_I ((0 + (p - b) : Nat) : Int)] [] (zv x N P K T (dup S 0 5 (p : Int)) m A h)) := by
    rw [← l, am_cI]
    simp only [en_28, bk_28_0, zv_c3, c0, Option.bind_some, Bool.cond_decide, am_oI_some, am_oV_some, am_oI_ite, am_oV_ite, am_bind_ite, Int.toNat_natCast, Int.toNat_zero, Int.reduceToNat, ite_true, ite_false, not_true_eq_false, not_false_eq_true, decide_true, decide_false, decide_eq_true_eq, Bool.false_eq_true, Nat.add_zero, am_rok1_0, am_rok1_1, cond_true, cond_false, am_w_nat1, true_or, or_true, false_or, or_false, true_and, and_true, false_and, and_false, Int.reduceEq, Int.reduceNeg, Int.reduceLT, Int.reduceLE, or_self, and_self]
    rfl
  rw [e0, bk_28_60]
  clear e0 l c0 ct h5 h6
  by_cases e1 : p = b
  · rw [if_pos (Or.inl e1)]
    have ed : ((0 + (p - b) : Nat) : Int) = 0 := by omega
    rw [ed]
    simp only [bk_28_72, bk_28_103, zv_f3_8, zv_p3_9, h51, Option.bind_some, Bool.cond_decide, am_oI_some, am_oV_some, am_oI_ite, am_oV_ite, am_bind_ite, Int.toNat_natCast, Int.toNat_zero, Int.reduceToNat, ite_true, ite_false, not_true_eq_false, not_false_eq_true, decide_true, decide_false, decide_eq_true_eq, Bool.false_eq_true, Nat.add_zero, am_rok1_0, am_rok1_1, cond_true, cond_false, am_w_nat1, true_or, or_true, false_or, or_false, true_and, and_true, false_and, and_false, Int.reduceEq, Int.reduceNeg, Int.reduceLT, Int.reduceLE, or_self, and_self]
  · have ed : ¬ ((0 + (p - b) : Nat) : Int) = 0 := by omega
    by_cases e2 : dg L f p = true
    · rw [if_pos (Or.inr e2)]
      rw [if_pos e2] at d
      simp only [ed, zv_c3, d, bk_28_72, bk_28_103, zv_f3_8, zv_p3_9, h51, Int.one_ne_zero, Option.bind_some, Bool.cond_decide, am_oI_some, am_oV_some, am_oI_ite, am_oV_ite, am_bind_ite, Int.toNat_natCast, Int.toNat_zero, Int.reduceToNat, ite_true, ite_false, not_true_eq_false, not_false_eq_true, decide_true, decide_false, decide_eq_true_eq, Bool.false_eq_true, Nat.add_zero, am_rok1_0, am_rok1_1, cond_true, cond_false, am_w_nat1, true_or, or_true, false_or, or_false, true_and, and_true, false_and, and_false, Int.reduceEq, Int.reduceNeg, Int.reduceLT, Int.reduceLE, or_self, and_self]
    · rw [if_neg (fun q => q.elim e1 e2)]
      rw [if_neg e2] at d
      have w1 := w_m1 (p := (p : Int)) (by omega) (by omega)
      by_cases e3 : v < lo
      · rw [if_pos (Or.inl e3)]
        simp only [ed, zv_c3, d, e3, bk_28_83, bk_28_93, bk_28_103, zv_f3_8, zv_p3_9, h51, w1, Option.bind_some, Bool.cond_decide, am_oI_some, am_oV_some, am_oI_ite, am_oV_ite, am_bind_ite, Int.toNat_natCast, Int.toNat_zero, Int.reduceToNat, ite_true, ite_false, not_true_eq_false, not_false_eq_true, decide_true, decide_false, decide_eq_true_eq, Bool.false_eq_true, Nat.add_zero, am_rok1_0, am_rok1_1, cond_true, cond_false, am_w_nat1, true_or, or_true, false_or, or_false, true_and, and_true, false_and, and_false, Int.reduceEq, Int.reduceNeg, Int.reduceLT, Int.reduceLE, or_self, and_self]
      · by_cases e4 : v ≤ hi
        · rw [if_neg (by omega), dup_at _ h61]
          simp only [ed, zv_c3, d, e3, e4, bk_28_83, bk_28_103, Option.bind_some, Bool.cond_decide, am_oI_some, am_oV_some, am_oI_ite, am_oV_ite, am_bind_ite, Int.toNat_natCast, Int.toNat_zero, Int.reduceToNat, ite_true, ite_false, not_true_eq_false, not_false_eq_true, decide_true, decide_false, decide_eq_true_eq, Bool.false_eq_true, Nat.add_zero, am_rok1_0, am_rok1_1, cond_true, cond_false, am_w_nat1, true_or, or_true, false_or, or_false, true_and, and_true, false_and, and_false, Int.reduceEq, Int.reduceNeg, Int.reduceLT, Int.reduceLE, or_self, and_self]
        · rw [if_pos (Or.inr (by omega))]
          simp only [ed, zv_c3, d, e3, e4, bk_28_83, bk_28_93, bk_28_103, zv_f3_8, zv_p3_9, h51, w1, Option.bind_some, Bool.cond_decide, am_oI_some, am_oV_some, am_oI_ite, am_oV_ite, am_bind_ite, Int.toNat_natCast, Int.toNat_zero, Int.reduceToNat, ite_true, ite_false, not_true_eq_false, not_false_eq_true, decide_true, decide_false, decide_eq_true_eq, Bool.false_eq_true, Nat.add_zero, am_rok1_0, am_rok1_1, cond_true, cond_false, am_w_nat1, true_or, or_true, false_or, or_false, true_and, and_true, false_and, and_false, Int.reduceEq, Int.reduceNeg, Int.reduceLT, Int.reduceLE, or_self, and_self]
theorem nm_loop (tf : TF L f) (lo hi w : Int) : ∀ (n p d : Nat) (v : Int) (M : Nat → Nat → Int), d + n = 3 → vb n v → (p : Int) ≤ L → MTp M L f → M 0 3 = p → ∃ d' : Int, am_run am_ms 54 24 [am_R mo, am_I lo, am_I hi, am_I w, am_I v, am_I d] [] (mv mo M g) = am_run am_ms 54 68 [am_R mo, am_I lo, am_I hi, am_I w, am_I (rnv L f n p v), am_I d'] [] (mv mo (dup M 0 3 (rnp L f n p)) g) := by
  have h240 := tf.1
  intro n
  induction n with
  | zero =>
    intro p d v M hd hv hp mt h3
    have e1 : rnv L f 0 p v = v := rfl
    have e2 : rnp L f 0 p = p := rfl
    refine ⟨d, ?_⟩
    rw [e1, e2, dup_at M h3, bk_54_24]
    simp (disch := omega) only [Option.bind_some, Bool.cond_decide, am_oI_some, am_oV_some, am_oI_ite, am_oV_ite, am_bind_ite, Int.toNat_natCast, Int.toNat_zero, Int.reduceToNat, ite_true, ite_false, not_true_eq_false, not_false_eq_true, decide_true, decide_false, decide_eq_true_eq, Bool.false_eq_true, Nat.add_zero, am_rok1_0, am_rok1_1, cond_true, cond_false, am_w_nat1, true_or, or_true, false_or, or_false, true_and, and_true, false_and, and_false, Int.reduceEq, Int.reduceNeg, Int.reduceLT, Int.reduceLE, or_self, and_self, if_pos, if_neg]
  | succ n ih =>
    intro p d v M hd hv hp mt h3
    have c := d_m (mo := mo) (g := g) tf mt h3
    have c' := m_here (mo := mo) (g := g) tf mt h3
    by_cases e : dg L f p = true
    · have e1 : rnv L f (n + 1) p v = rnv L f n (p + 1) (10 * v + f p - 48) := if_pos e
      have e2 : rnp L f (n + 1) p = rnp L f n (p + 1) := if_pos e
      have ed := of_decide_eq_true e
      have hv' : vb n (10 * v + f p - 48) := by unfold vb at hv ⊢; omega
      obtain ⟨d', this⟩ := ih (p + 1) (d + 1) (10 * v + f p - 48) (dup M 0 3 ((p + 1 : Nat) : Int)) (by omega) hv' (by omega) (MTp_f mt (by omega) _) (by rw [dup_t, va_up_self])
      refine ⟨d', ?_⟩
      rw [dup_dup] at this
      rw [e1, e2, ← this, bk_54_24]
      clear this
      rw [if_pos e] at c
      have ec : chm L f p = f p := if_pos ed.1
      rw [ec] at c'
      have hv0 : 0 ≤ v ∧ v ≤ 1999 := by unfold vb at hv; omega
      have w2 : am_w (am_w (am_w (10 * v) + f p) - 48) = 10 * v + f p - 48 := by
        rw [am_w_id (x := 10 * v) (by omega) (by omega), am_w_id (x := 10 * v + f p) (by omega) (by omega), am_w_id (by omega) (by omega)]
      have hd3 : ¬ (3 : Int) ≤ d := by omega
      have hpw : am_w ((p : Int) + 1) = ((p + 1 : Nat) : Int) := am_w_nat1 (by omega)
      have hdw : am_w ((d : Int) + 1) = ((d + 1 : Nat) : Int) := am_w_nat1 (by omega)
      simp only [hd3, mv_c0, c, c', w2, bk_54_50, mv_f0_3, mv_p0_3, h3, hpw, hdw, Int.one_ne_zero, Option.bind_some, Bool.cond_decide, am_oI_some, am_oV_some, am_oI_ite, am_oV_ite, am_bind_ite, Int.toNat_natCast, Int.toNat_zero, Int.reduceToNat, ite_true, ite_false, not_true_eq_false, not_false_eq_true, decide_true, decide_false, decide_eq_true_eq, Bool.false_eq_true, Nat.add_zero, am_rok1_0, am_rok1_1, cond_true, cond_false, am_w_nat1, true_or, or_true, false_or, or_false, true_and, and_true, false_and, and_false, Int.reduceEq, Int.reduceNeg, Int.reduceLT, Int.reduceLE, or_self, and_self]
    · have e1 : rnv L f (n + 1) p v = v := if_neg e
      have e2 : rnp L f (n + 1) p = p := if_neg e
      refine ⟨d, ?_⟩
      rw [e1, e2, dup_at M h3, bk_54_24]
      rw [if_neg e] at c
      simp (disch := omega) only [mv_c0, c, Option.bind_some, Bool.cond_decide, am_oI_some, am_oV_some, am_oI_ite, am_oV_ite, am_bind_ite, Int.toNat_natCast, Int.toNat_zero, Int.reduceToNat, ite_true, ite_false, not_true_eq_false, not_false_eq_true, decide_true, decide_false, decide_eq_true_eq, Bool.false_eq_true, Nat.add_zero, am_rok1_0, am_rok1_1, cond_true, cond_false, am_w_nat1, true_or, or_true, false_or, or_false, true_and, and_true, false_and, and_false, Int.reduceEq, Int.reduceNeg, Int.reduceLT, Int.reduceLE, or_self, and_self, if_pos, if_neg]
theorem n_m (tf : TF L f) (mt : MTp M L f) (ha : (a : Int) ≤ L) (h3 : M 0 3 = a) (h4 : M 0 4 = -1) (lo hi : Int) : am_cI 54 [am_R mo, am_I lo, am_I hi] (mv mo M g) = some (rnv L f 3 (skp L f a) 0, mv mo (dup (dup M 0 3 (rnq L f lo hi (skp L f a))) 0 4 (rnw L f lo hi (skp L f a))) g) := by
  have h240 := tf.1
  have c0 := l_m (mo := mo) (g := g) tf mt ha h3
  have hb := (skp_r (f := f) ha).2
  generalize skp L f a = b at c0 hb ⊢
  have mt0 : MTp (dup M 0 3 (b : Int)) L f := MTp_f mt (by omega) _
  have h30 : dup M 0 3 (b : Int) 0 3 = b := by rw [dup_t, va_up_self]
  have h40 : dup M 0 3 (b : Int) 0 4 = -1 := by rw [dup_t, va_up_ne _ _ (by omega)]; exact h4
  have d0 := d_m (mo := mo) (g := g) tf mt0 h30
  have hr := rnp_r (L := L) (f := f) 3 b hb
  by_cases eb : dg L f b = true
  · obtain ⟨d', l⟩ := nm_loop (mo := mo) (g := g) tf lo hi (chm L f b) 3 b 0 0 (dup M 0 3 (b : Int)) (by omega) (by unfold vb; omega) hb mt0 h30
    rw [dup_dup] at l
    have hp : ¬ rnp L f 3 b = b := by
      have e2 : rnp L f 3 b = rnp L f 2 (b + 1) := if_pos eb
      have ed := of_decide_eq_true eb
      have := rnp_r (L := L) (f := f) 2 (b + 1) (by omega)
      omega
    unfold rnw rnq
    generalize rnp L f 3 b = p at l hr hp ⊢
    generalize rnv L f 3 b 0 = v at l ⊢
    have mt1 : MTp (dup M 0 3 (p : Int)) L f := MTp_f mt (by omega) _
    have h31 : dup M 0 3 (p : Int) 0 3 = p := by rw [dup_t, va_up_self]
    have h41 : dup M 0 3 (p : Int) 0 4 = -1 := by rw [dup_t, va_up_ne _ _ (by omega)]; exact h4
    have d := d_m (mo := mo) (g := g) tf mt1 h31
    rw [if_pos eb] at d0
    have e0 : am_cI 54 [am_R mo, am_I lo, am_I hi] (mv mo M g) = am_oI (am_run am_ms 54 68 [am_R mo, am_I lo, am_I hi, am_I (chm L f b), am_I v, am_I d'] [] (mv mo (dup M 0 3 (p : Int)) g)) := by
      rw [← l, am_cI]
      simp only [en_54, bk_54_0, bk_54_18, mv_c0, c0, d0, Int.one_ne_zero, Option.bind_some, Bool.cond_decide, am_oI_some, am_oV_some, am_oI_ite, am_oV_ite, am_bind_ite, Int.toNat_natCast, Int.toNat_zero, Int.reduceToNat, ite_true, ite_false, not_true_eq_false, not_false_eq_true, decide_true, decide_false, decide_eq_true_eq, Bool.false_eq_true, Nat.add_zero, am_rok1_0, am_rok1_1, cond_true, cond_false, am_w_nat1, true_or, or_true, false_or, or_false, true_and, and_true, false_and, and_false, Int.reduceEq, Int.reduceNeg, Int.reduceLT, Int.reduceLE, or_self, and_self]
      rfl
    rw [e0, bk_54_68]
    clear e0 l c0 mt h3 h4
    by_cases e2 : dg L f p = true
    · rw [if_pos (Or.inr e2), if_pos (Or.inr e2)]
      rw [if_pos e2] at d
      have fl := m_fails (mo := mo) (g := g) h41 h31
      simp only [mv_c0, d, fl, bk_54_109, Int.one_ne_zero, Option.bind_some, Bool.cond_decide, am_oI_some, am_oV_some, am_oI_ite, am_oV_ite, am_bind_ite, Int.toNat_natCast, Int.toNat_zero, Int.reduceToNat, ite_true, ite_false, not_true_eq_false, not_false_eq_true, decide_true, decide_false, decide_eq_true_eq, Bool.false_eq_true, Nat.add_zero, am_rok1_0, am_rok1_1, cond_true, cond_false, am_w_nat1, true_or, or_true, false_or, or_false, true_and, and_true, false_and, and_false, Int.reduceEq, Int.reduceNeg, Int.reduceLT, Int.reduceLE, or_self, and_self]
    · have hn : ¬ (p = b ∨ dg L f p = true) := fun q => q.elim hp e2
      rw [if_neg hn, if_neg hn]
      rw [if_neg e2] at d
      have w1 := w_m1 (p := (p : Int)) (by omega) (by omega)
      have d1 := m_isIn v lo hi (mv mo (dup M 0 3 (p : Int)) g)
      by_cases e3 : lo ≤ v ∧ v ≤ hi
      · have hn2 : ¬ (v < lo ∨ hi < v) := by omega
        rw [if_neg hn2, if_neg hn2, dup_at _ h41]
        rw [if_pos e3] at d1
        simp only [mv_c0, d, d1, bk_54_82, bk_54_109, Int.one_ne_zero, Option.bind_some, Bool.cond_decide, am_oI_some, am_oV_some, am_oI_ite, am_oV_ite, am_bind_ite, Int.toNat_natCast, Int.toNat_zero, Int.reduceToNat, ite_true, ite_false, not_true_eq_false, not_false_eq_true, decide_true, decide_false, decide_eq_true_eq, Bool.false_eq_true, Nat.add_zero, am_rok1_0, am_rok1_1, cond_true, cond_false, am_w_nat1, true_or, or_true, false_or, or_false, true_and, and_true, false_and, and_false, Int.reduceEq, Int.reduceNeg, Int.reduceLT, Int.reduceLE, or_self, and_self]
      · have hn2 : v < lo ∨ hi < v := by omega
        rw [if_pos hn2, if_pos hn2]
        rw [if_neg e3] at d1
        have ep : ((p - 1 : Nat) : Int) = (p : Int) - 1 := by omega
        have fl := m_fails (mo := mo) (g := g) (M := dup M 0 3 ((p : Int) - 1)) (b := (p : Int) - 1) (by rw [dup_t, va_up_ne _ _ (by omega)]; rw [dup_t, va_up_ne _ _ (by omega)] at h41; exact h41) (by rw [dup_t, va_up_self])
        rw [ep]
        simp only [mv_c0, d, d1, bk_54_82, bk_54_105, bk_54_109, mv_f0_3, mv_p0_3, dup_dup, h31, w1, fl, Option.bind_some, Bool.cond_decide, am_oI_some, am_oV_some, am_oI_ite, am_oV_ite, am_bind_ite, Int.toNat_natCast, Int.toNat_zero, Int.reduceToNat, ite_true, ite_false, not_true_eq_false, not_false_eq_true, decide_true, decide_false, decide_eq_true_eq, Bool.false_eq_true, Nat.add_zero, am_rok1_0, am_rok1_1, cond_true, cond_false, am_w_nat1, true_or, or_true, false_or, or_false, true_and, and_true, false_and, and_false, Int.reduceEq, Int.reduceNeg, Int.reduceLT, Int.reduceLE, or_self, and_self]
  · have e1 : rnp L f 3 b = b := if_neg eb
    have e2 : rnv L f 3 b 0 = 0 := if_neg eb
    rw [if_neg eb] at d0
    have fl := m_fails (mo := mo) (g := g) h40 h30
    have ew : rnw L f lo hi b = b := by unfold rnw; rw [if_pos (Or.inl e1), e1]
    have eq : rnq L f lo hi b = b := by unfold rnq; rw [if_pos (Or.inl e1), e1]
    rw [e2, ew, eq, am_cI]
    simp only [en_54, bk_54_0, mv_c0, c0, d0, fl, Option.bind_some, Bool.cond_decide, am_oI_some, am_oV_some, am_oI_ite, am_oV_ite, am_bind_ite, Int.toNat_natCast, Int.toNat_zero, Int.reduceToNat, ite_true, ite_false, not_true_eq_false, not_false_eq_true, decide_true, decide_false, decide_eq_true_eq, Bool.false_eq_true, Nat.add_zero, am_rok1_0, am_rok1_1, cond_true, cond_false, am_w_nat1, true_or, or_true, false_or, or_false, true_and, and_true, false_and, and_false, Int.reduceEq, Int.reduceNeg, Int.reduceLT, Int.reduceLE, or_self, and_self]
end LOOK
