/-! ===== the tape: bytes, feed, end ===== -/
theorem sh_bv (y : BitVec 32) (k : Nat) (hk : k ≤ 24) : (y >>> k) &&& 255#32 = (y.sshiftRight k) &&& 255#32 := by
  apply BitVec.eq_of_getLsbD_eq
  intro i hi
  rw [BitVec.getLsbD_and, BitVec.getLsbD_and]
  by_cases h : i < 8
  · rw [BitVec.getLsbD_ushiftRight, BitVec.getLsbD_sshiftRight, if_pos (show k + i < 32 by omega), decide_eq_false (show ¬ 32 ≤ i by omega)]
    rfl
  · have e : (255#32).getLsbD i = false := (show ∀ i : Fin 32, 8 ≤ i.val → (255#32).getLsbD i.val = false by decide) ⟨i, hi⟩ (by show 8 ≤ i; omega)
    rw [e, Bool.and_false, Bool.and_false]
theorem sh_24 (y : Int32) : ((y.toUInt32 >>> ((Int32.ofInt 24).toUInt32 &&& Int32.toUInt32 31)).toInt32 &&& Int32.ofInt 255) = ((y >>> (Int32.ofInt 24 &&& 31)) &&& Int32.ofInt 255) := Int32.toBitVec_inj.mp (sh_bv y.toBitVec 24 (by omega))
theorem sh_16 (y : Int32) : ((y.toUInt32 >>> ((Int32.ofInt 16).toUInt32 &&& Int32.toUInt32 31)).toInt32 &&& Int32.ofInt 255) = ((y >>> (Int32.ofInt 16 &&& 31)) &&& Int32.ofInt 255) := Int32.toBitVec_inj.mp (sh_bv y.toBitVec 16 (by omega))
theorem sh_8 (y : Int32) : ((y.toUInt32 >>> ((Int32.ofInt 8).toUInt32 &&& Int32.toUInt32 31)).toInt32 &&& Int32.ofInt 255) = ((y >>> (Int32.ofInt 8 &&& 31)) &&& Int32.ofInt 255) := Int32.toBitVec_inj.mp (sh_bv y.toBitVec 8 (by omega))
theorem sh_0 (y : Int32) : ((y.toUInt32 >>> ((Int32.ofInt 0).toUInt32 &&& Int32.toUInt32 31)).toInt32 &&& Int32.ofInt 255) = ((y >>> (Int32.ofInt 0 &&& 31)) &&& Int32.ofInt 255) := Int32.toBitVec_inj.mp (sh_bv y.toBitVec 0 (by omega))
/-- a byte of a word -/
def tb (v s : Int) : Int := am_and (am_ushr v s) 255
theorem tb_shr (v : Int) {s : Int} (hs : s = 0 ∨ s = 8 ∨ s = 16 ∨ s = 24) : am_and (am_shr v s) 255 = tb v s := by
  unfold tb am_and am_shr am_ushr
  rw [Int32.ofInt_toInt, Int32.ofInt_toInt]
  rcases hs with e | e | e | e
  · rw [e, sh_0]
  · rw [e, sh_8]
  · rw [e, sh_16]
  · rw [e, sh_24]
theorem and255 (y : Int32) : 0 ≤ (y &&& Int32.ofInt 255).toInt ∧ (y &&& Int32.ofInt 255).toInt ≤ 255 := by
  have h1 : (y &&& Int32.ofInt 255).toBitVec.toNat ≤ 255 := by
    show (y.toBitVec &&& 255#32).toNat ≤ 255
    rw [BitVec.toNat_and]
    exact Nat.and_le_right
  have h2 : (y &&& Int32.ofInt 255).toInt = ((y &&& Int32.ofInt 255).toBitVec.toNat : Int) := by
    show (y &&& Int32.ofInt 255).toBitVec.toInt = _
    exact BitVec.toInt_eq_toNat_of_lt (by omega)
  omega
theorem tb_r (v s : Int) : 0 ≤ tb v s ∧ tb v s ≤ 255 := and255 _
theorem i2b_all : ∀ b : Fin 256, am_i2b (am_i2b ((b.val : Nat) : Int)) = am_i2b ((b.val : Nat) : Int) ∧ am_and (am_i2b ((b.val : Nat) : Int)) 255 = ((b.val : Nat) : Int) := by decide +kernel
theorem i2b_2 {b : Int} (h0 : 0 ≤ b) (h1 : b ≤ 255) : am_i2b (am_i2b b) = am_i2b b := by
  obtain ⟨n, rfl⟩ : ∃ n : Nat, b = n := ⟨b.toNat, by omega⟩
  exact (i2b_all ⟨n, by omega⟩).1
theorem i2b_a {b : Int} (h0 : 0 ≤ b) (h1 : b ≤ 255) : am_and (am_i2b b) 255 = b := by
  obtain ⟨n, rfl⟩ : ∃ n : Nat, b = n := ⟨b.toNat, by omega⟩
  exact (i2b_all ⟨n, by omega⟩).2
def nbt (v s : Int) : Int := if tb v s = 0 then 0 else 1
theorem nbt_r (v s : Int) : 0 ≤ nbt v s ∧ nbt v s ≤ 1 := by unfold nbt; split <;> omega
def nb (v : Int) : Int := nbt v 24 + nbt v 16 + nbt v 8 + nbt v 0
theorem nb_r (v : Int) : 0 ≤ nb v ∧ nb v ≤ 4 := by
  have h1 := nbt_r v 24
  have h2 := nbt_r v 16
  have h3 := nbt_r v 8
  have h4 := nbt_r v 0
  unfold nb
  omega
theorem w_m8 {s : Int} (h0 : 0 ≤ s) (h1 : s ≤ 24) : am_w (s + (-8)) = s - 8 := (am_w_id (by omega) (by omega)).trans (by omega)
theorem w_p1 {c : Int} (h0 : -100 ≤ c) (h1 : c ≤ 100000) : am_w (c + 1) = c + 1 := am_w_id (by omega) (by omega)
theorem w_p0 {c : Int} (h0 : -100 ≤ c) (h1 : c ≤ 100000) : am_w c = c := am_w_id (by omega) (by omega)
section TAPE
variable {x mo lo n m : Nat} {A : Nat → Nat} {N P K T S S' : Nat → Nat → Int} {HD : Nat → Nat → Nat → Int} {M M' : Nat → Nat → Int} {h g : am_H}
theorem t_in1 (v : Int) {c s s' : Int} (hs : 0 ≤ s ∧ s ≤ 24) (hc : 0 ≤ c ∧ c ≤ 4) (hs' : s' = s - 8) : am_run am_ms 10 5 [am_I v, am_I c, am_I s] [] h = am_run am_ms 10 5 [am_I v, am_I (c + nbt v s), am_I s'] [] h := by
  rw [hs', bk_10_5]
  unfold nbt tb
  generalize am_and (am_ushr v s) 255 = B
  by_cases e : B = 0
  · simp (disch := omega) only [e, bk_10_22, w_m8, Option.bind_some, Bool.cond_decide, am_oI_some, am_oV_some, am_oI_ite, am_oV_ite, am_bind_ite, Int.toNat_natCast, Int.toNat_zero, Int.reduceToNat, ite_true, ite_false, not_true_eq_false, not_false_eq_true, decide_true, decide_false, decide_eq_true_eq, Bool.false_eq_true, Nat.add_zero, am_rok1_0, am_rok1_1, cond_true, cond_false, am_w_nat1, true_or, or_true, false_or, or_false, true_and, and_true, false_and, and_false, Int.reduceEq, Int.reduceNeg, Int.reduceLT, Int.reduceLE, or_self, and_self, if_pos, if_neg, Int.add_zero]
  · simp (disch := omega) only [e, bk_10_22, w_m8, w_p1, Option.bind_some, Bool.cond_decide, am_oI_some, am_oV_some, am_oI_ite, am_oV_ite, am_bind_ite, Int.toNat_natCast, Int.toNat_zero, Int.reduceToNat, ite_true, ite_false, not_true_eq_false, not_false_eq_true, decide_true, decide_false, decide_eq_true_eq, Bool.false_eq_true, Nat.add_zero, am_rok1_0, am_rok1_1, cond_true, cond_false, am_w_nat1, true_or, or_true, false_or, or_false, true_and, and_true, false_and, and_false, Int.reduceEq, Int.reduceNeg, Int.reduceLT, Int.reduceLE, or_self, and_self, if_pos, if_neg]
theorem t_in (v : Int) (h : am_H) : am_cI 10 [am_I v] h = some (nb v, h) := by
  have h1 := nbt_r v 24
  have h2 := nbt_r v 16
  have h3 := nbt_r v 8
  have h4 := nbt_r v 0
  unfold nb
  rw [am_cI, en_10, bk_10_0, t_in1 v (c := 0) (s := 24) (s' := 16) (by omega) (by omega) (by omega), Int.zero_add, t_in1 v (c := nbt v 24) (s := 16) (s' := 8) (by omega) (by omega) (by omega), t_in1 v (c := nbt v 24 + nbt v 16) (s := 8) (s' := 0) (by omega) (by omega) (by omega), t_in1 v (c := nbt v 24 + nbt v 16 + nbt v 8) (s := 0) (s' := -8) (by omega) (by omega) (by omega), bk_10_5]
  simp (disch := omega) only [bk_10_28, Option.bind_some, Bool.cond_decide, am_oI_some, am_oV_some, am_oI_ite, am_oV_ite, am_bind_ite, Int.toNat_natCast, Int.toNat_zero, Int.reduceToNat, ite_true, ite_false, not_true_eq_false, not_false_eq_true, decide_true, decide_false, decide_eq_true_eq, Bool.false_eq_true, Nat.add_zero, am_rok1_0, am_rok1_1, cond_true, cond_false, am_w_nat1, true_or, or_true, false_or, or_false, true_and, and_true, false_and, and_false, Int.reduceEq, Int.reduceNeg, Int.reduceLT, Int.reduceLE, or_self, and_self, if_pos, if_neg]
theorem m_in1 (v : Int) {c k k' s : Int} (hk : 0 ≤ k ∧ k < 4) (hw : am_w (8 * k) = s) (hs : s = 0 ∨ s = 8 ∨ s = 16 ∨ s = 24) (hc : 0 ≤ c ∧ c ≤ 4) (hk' : k' = k + 1) : am_run am_ms 13 4 [am_I v, am_I c, am_I k] [] h = am_run am_ms 13 4 [am_I v, am_I (c + nbt v s), am_I k'] [] h := by
  rw [hk', bk_13_4, hw, tb_shr v hs]
  clear hw
  unfold nbt
  generalize tb v s = B
  by_cases e : B = 0
  · simp (disch := omega) only [e, bk_13_27, bk_13_28, w_p0, w_p1, Option.bind_some, Bool.cond_decide, am_oI_some, am_oV_some, am_oI_ite, am_oV_ite, am_bind_ite, Int.toNat_natCast, Int.toNat_zero, Int.reduceToNat, ite_true, ite_false, not_true_eq_false, not_false_eq_true, decide_true, decide_false, decide_eq_true_eq, Bool.false_eq_true, Nat.add_zero, am_rok1_0, am_rok1_1, cond_true, cond_false, am_w_nat1, true_or, or_true, false_or, or_false, true_and, and_true, false_and, and_false, Int.reduceEq, Int.reduceNeg, Int.reduceLT, Int.reduceLE, or_self, and_self, if_pos, if_neg, Int.add_zero]
  · simp (disch := omega) only [e, bk_13_27, bk_13_28, w_p1, Option.bind_some, Bool.cond_decide, am_oI_some, am_oV_some, am_oI_ite, am_oV_ite, am_bind_ite, Int.toNat_natCast, Int.toNat_zero, Int.reduceToNat, ite_true, ite_false, not_true_eq_false, not_false_eq_true, decide_true, decide_false, decide_eq_true_eq, Bool.false_eq_true, Nat.add_zero, am_rok1_0, am_rok1_1, cond_true, cond_false, am_w_nat1, true_or, or_true, false_or, or_false, true_and, and_true, false_and, and_false, Int.reduceEq, Int.reduceNeg, Int.reduceLT, Int.reduceLE, or_self, and_self, if_pos, if_neg]
theorem m_in (v : Int) (h : am_H) : am_cI 13 [am_I v] h = some (nb v, h) := by
  have h1 := nbt_r v 24
  have h2 := nbt_r v 16
  have h3 := nbt_r v 8
  have h4 := nbt_r v 0
  have en : nb v = nbt v 0 + nbt v 8 + nbt v 16 + nbt v 24 := by unfold nb; omega
  rw [en, am_cI, en_13, bk_13_0, m_in1 v (c := 0) (k := 0) (k' := 1) (s := 0) (by omega) (by decide) (by omega) (by omega) (by omega), Int.zero_add, m_in1 v (c := nbt v 0) (k := 1) (k' := 2) (s := 8) (by omega) (by decide) (by omega) (by omega) (by omega), m_in1 v (c := nbt v 0 + nbt v 8) (k := 2) (k' := 3) (s := 16) (by omega) (by decide) (by omega) (by omega) (by omega), m_in1 v (c := nbt v 0 + nbt v 8 + nbt v 16) (k := 3) (k' := 4) (s := 24) (by omega) (by decide) (by omega) (by omega) (by omega), bk_13_4]
  simp (disch := omega) only [bk_13_36, Option.bind_some, Bool.cond_decide, am_oI_some, am_oV_some, am_oI_ite, am_oV_ite, am_bind_ite, Int.toNat_natCast, Int.toNat_zero, Int.reduceToNat, ite_true, ite_false, not_true_eq_false, not_false_eq_true, decide_true, decide_false, decide_eq_true_eq, Bool.false_eq_true, Nat.add_zero, am_rok1_0, am_rok1_1, cond_true, cond_false, am_w_nat1, true_or, or_true, false_or, or_false, true_and, and_true, false_and, and_false, Int.reduceEq, Int.reduceNeg, Int.reduceLT, Int.reduceLE, or_self, and_self, if_pos, if_neg]
/-- a sign more -/
def tp1 (S : Nat → Nat → Int) (b : Int) : Nat → Nat → Int := if b = 0 then S else dup (dup S 1 (S 0 2).toNat b) 0 2 (S 0 2 + 1)
def mt1 (M : Nat → Nat → Int) (b : Int) : Nat → Nat → Int := if b = 0 then M else dup (dup M 1 (M 0 2).toNat (am_i2b b)) 0 2 (M 0 2 + 1)
def tp4 (S : Nat → Nat → Int) (v : Int) : Nat → Nat → Int := tp1 (tp1 (tp1 (tp1 S (tb v 24)) (tb v 16)) (tb v 8)) (tb v 0)
def mt4 (M : Nat → Nat → Int) (v : Int) : Nat → Nat → Int := mt1 (mt1 (mt1 (mt1 M (tb v 24)) (tb v 16)) (tb v 8)) (tb v 0)
theorem tp1_n (S : Nat → Nat → Int) (v s : Int) : tp1 S (tb v s) 0 2 = S 0 2 + nbt v s := by
  unfold tp1 nbt
  by_cases e : tb v s = 0
  · rw [if_pos e, if_pos e, Int.add_zero]
  · rw [if_neg e, if_neg e, dup_t, va_up_self]
theorem mt1_n (M : Nat → Nat → Int) (v s : Int) : mt1 M (tb v s) 0 2 = M 0 2 + nbt v s := by
  unfold mt1 nbt
  by_cases e : tb v s = 0
  · rw [if_pos e, if_pos e, Int.add_zero]
  · rw [if_neg e, if_neg e, dup_t, va_up_self]
theorem tp4_n (S : Nat → Nat → Int) (v : Int) : tp4 S v 0 2 = S 0 2 + nb v := by
  unfold tp4 nb
  rw [tp1_n, tp1_n, tp1_n, tp1_n]
  omega
theorem t_ad1 (v : Int) {s s' : Int} (y : am_V) (hs : 0 ≤ s ∧ s ≤ 24) (hs' : s' = s - 8) (h0 : 0 ≤ S 0 2) (h1 : S 0 2 + nbt v s ≤ 240) : am_run am_ms 11 3 [am_R (x + 1), am_I v, am_I s, y] [] (zv x N P K T S m A h) = am_run am_ms 11 3 [am_R (x + 1), am_I v, am_I s', am_I (tb v s)] [] (zv x N P K T (tp1 S (tb v s)) m A h) := by
  rw [hs', bk_11_3]
  unfold nbt at h1
  unfold tp1
  have et : am_and (am_ushr v s) 255 = tb v s := rfl
  rw [et]
  generalize tb v s = B at h1 ⊢
  clear et
  by_cases e : B = 0
  · simp (disch := omega) only [e, bk_11_49, w_m8, zv_c0, zv_f0_0, zv_f0_1, zv_f0_2, zv_f0_3, zv_f0_4, zv_f0_5, zv_f0_6, zv_f0_7, zv_f0_8, zv_f0_9, zv_f0_10, zv_f0_11, zv_c1, zv_f1_0, zv_f1_1, zv_c3, zv_f3_0, zv_f3_1, zv_f3_2, zv_f3_3, zv_f3_4, zv_f3_5, zv_f3_6, zv_f3_7, zv_f3_8, zv_f3_9, zv_c7, zv_f7_0, zv_f7_1, zv_f7_2, zv_f7_3, zv_c67, zv_f67_0, zv_f67_1, zv_f67_2, zv_f67_3, zv_f67_4, zv_f67_5, zv_f67_6, zv_f67_7, zv_c86, zv_f86_0, zv_c87, zv_f87_0, zv_f87_1, zv_f87_2, zv_c89, zv_f89_0, zv_c91, zv_f91_0, zv_f91_1, zv_f91_2, zv_f91_3, zv_c95, zv_f95_0, zv_f95_1, zv_f95_2, zv_f95_3, zv_c99, zv_f99_0, zv_f99_1, zv_f99_2, zv_f99_3, zv_c103, zv_f103_0, zv_f103_1, zv_f103_2, zv_f103_3, zv_r1, zv_r2, zv_r3, zv_r4, zv_r5, zv_r6, zv_r7, zv_r8, zv_r9, zv_r10, zv_r11, zv_r12, zv_r13, zv_r14, zv_r15, zv_r16, zv_r17, zv_r18, zv_r19, zv_r20, zv_r21, zv_l1, zv_l2, zv_l3, zv_l4, zv_l5, zv_l6, zv_l7, zv_l8, zv_l9, zv_l10, zv_l11, zv_l12, zv_l13, zv_l14, zv_l15, zv_l16, zv_l17, zv_l18, zv_l19, zv_l20, zv_l21, zv_p0_3, zv_p0_7, zv_p1_1, zv_w1, zv_p3_3, zv_p3_7, zv_p3_8, zv_p3_9, zv_w2, zv_w3, zv_w4, zv_p7_3, zv_w5, zv_w6, zv_w7, zv_w8, zv_p67_3, zv_p67_4, zv_p67_5, zv_p67_6, zv_p67_7, zv_p86_0, zv_p87_1, zv_p87_2, zv_p89_0, zv_w9, zv_p91_3, zv_w10, zv_w11, zv_w12, zv_p95_3, zv_w13, zv_w14, zv_w15, zv_p99_3, zv_w16, zv_w17, zv_w18, zv_p103_3, zv_w19, zv_w20, zv_w21, zN_c, zN_cL, zN_f0, zN_f1, zN_f2, zN_f3, zN_f4, zN_f5, zN_f6, zN_f7, zN_f8, zN_f9, zN_f10, zN_f11, zN_f12, zN_f13, zN_i1, zN_r0, zN_r1, zN_r2, zN_r3, zN_r4, zN_r5, zN_r6, zN_r7, zN_r8, zN_r9, zN_r10, zN_r11, zN_r12, zN_w0, zP_c, zK_c, zT_c, zT_cL, zT_f0, zT_f1, zT_f2, zT_f3, zT_f4, zT_f5, zT_f6, zT_f7, zT_f8, zT_f9, zT_f10, zT_f11, zT_f12, zT_f13, zT_i1, zT_r0, zT_r1, zT_r2, zT_r3, zT_r4, zT_r5, zT_r6, zT_r7, zT_r8, zT_r9, zT_r10, zT_r11, zT_r12, zT_w0, dup_t, dup_o, va_up_self, va_up_ne, drow_t, drow_o, Option.bind_some, Bool.cond_decide, am_oI_some, am_oV_some, am_oI_ite, am_oV_ite, am_bind_ite, Int.toNat_natCast, Int.toNat_zero, Int.reduceToNat, ite_true, ite_false, not_true_eq_false, not_false_eq_true, decide_true, decide_false, decide_eq_true_eq, Bool.false_eq_true, Nat.add_zero, am_rok1_0, am_rok1_1, cond_true, cond_false, am_w_nat1, true_or, or_true, false_or, or_false, true_and, and_true, false_and, and_false, Int.reduceEq, Int.reduceNeg, Int.reduceLT, Int.reduceLE, or_self, and_self, if_pos, if_neg]
  · rw [if_neg e] at h1
    simp (disch := omega) only [e, bk_11_29, bk_11_49, w_m8, w_p1, zv_c0, zv_f0_0, zv_f0_1, zv_f0_2, zv_f0_3, zv_f0_4, zv_f0_5, zv_f0_6, zv_f0_7, zv_f0_8, zv_f0_9, zv_f0_10, zv_f0_11, zv_c1, zv_f1_0, zv_f1_1, zv_c3, zv_f3_0, zv_f3_1, zv_f3_2, zv_f3_3, zv_f3_4, zv_f3_5, zv_f3_6, zv_f3_7, zv_f3_8, zv_f3_9, zv_c7, zv_f7_0, zv_f7_1, zv_f7_2, zv_f7_3, zv_c67, zv_f67_0, zv_f67_1, zv_f67_2, zv_f67_3, zv_f67_4, zv_f67_5, zv_f67_6, zv_f67_7, zv_c86, zv_f86_0, zv_c87, zv_f87_0, zv_f87_1, zv_f87_2, zv_c89, zv_f89_0, zv_c91, zv_f91_0, zv_f91_1, zv_f91_2, zv_f91_3, zv_c95, zv_f95_0, zv_f95_1, zv_f95_2, zv_f95_3, zv_c99, zv_f99_0, zv_f99_1, zv_f99_2, zv_f99_3, zv_c103, zv_f103_0, zv_f103_1, zv_f103_2, zv_f103_3, zv_r1, zv_r2, zv_r3, zv_r4, zv_r5, zv_r6, zv_r7, zv_r8, zv_r9, zv_r10, zv_r11, zv_r12, zv_r13, zv_r14, zv_r15, zv_r16, zv_r17, zv_r18, zv_r19, zv_r20, zv_r21, zv_l1, zv_l2, zv_l3, zv_l4, zv_l5, zv_l6, zv_l7, zv_l8, zv_l9, zv_l10, zv_l11, zv_l12, zv_l13, zv_l14, zv_l15, zv_l16, zv_l17, zv_l18, zv_l19, zv_l20, zv_l21, zv_p0_3, zv_p0_7, zv_p1_1, zv_w1, zv_p3_3, zv_p3_7, zv_p3_8, zv_p3_9, zv_w2, zv_w3, zv_w4, zv_p7_3, zv_w5, zv_w6, zv_w7, zv_w8, zv_p67_3, zv_p67_4, zv_p67_5, zv_p67_6, zv_p67_7, zv_p86_0, zv_p87_1, zv_p87_2, zv_p89_0, zv_w9, zv_p91_3, zv_w10, zv_w11, zv_w12, zv_p95_3, zv_w13, zv_w14, zv_w15, zv_p99_3, zv_w16, zv_w17, zv_w18, zv_p103_3, zv_w19, zv_w20, zv_w21, zN_c, zN_cL, zN_f0, zN_f1, zN_f2, zN_f3, zN_f4, zN_f5, zN_f6, zN_f7, zN_f8, zN_f9, zN_f10, zN_f11, zN_f12, zN_f13, zN_i1, zN_r0, zN_r1, zN_r2, zN_r3, zN_r4, zN_r5, zN_r6, zN_r7, zN_r8, zN_r9, zN_r10, zN_r11, zN_r12, zN_w0, zP_c, zK_c, zT_c, zT_cL, zT_f0, zT_f1, zT_f2, zT_f3, zT_f4, zT_f5, zT_f6, zT_f7, zT_f8, zT_f9, zT_f10, zT_f11, zT_f12, zT_f13, zT_i1, zT_r0, zT_r1, zT_r2, zT_r3, zT_r4, zT_r5, zT_r6, zT_r7, zT_r8, zT_r9, zT_r10, zT_r11, zT_r12, zT_w0, dup_t, dup_o, va_up_self, va_up_ne, drow_t, drow_o, Option.bind_some, Bool.cond_decide, am_oI_some, am_oV_some, am_oI_ite, am_oV_ite, am_bind_ite, Int.toNat_natCast, Int.toNat_zero, Int.reduceToNat, ite_true, ite_false, not_true_eq_false, not_false_eq_true, decide_true, decide_false, decide_eq_true_eq, Bool.false_eq_true, Nat.add_zero, am_rok1_0, am_rok1_1, cond_true, cond_false, am_w_nat1, true_or, or_true, false_or, or_false, true_and, and_true, false_and, and_false, Int.reduceEq, Int.reduceNeg, Int.reduceLT, Int.reduceLE, or_self, and_self, if_pos, if_neg]
theorem t_add (v : Int) (h0 : 0 ≤ S 0 2) (h1 : S 0 2 + nb v ≤ 240) : am_cV 11 [am_R (x + 1), am_I v] (zv x N P K T S m A h) = some (zv x N P K T (tp4 S v) m A h) := by
  have b1 := nbt_r v 24
  have b2 := nbt_r v 16
  have b3 := nbt_r v 8
  have b4 := nbt_r v 0
  unfold nb at h1
  have n1 := tp1_n S v 24
  have n2 := tp1_n (tp1 S (tb v 24)) v 16
  have n3 := tp1_n (tp1 (tp1 S (tb v 24)) (tb v 16)) v 8
  unfold tp4
  rw [am_cV, en_11, bk_11_0, t_ad1 v (s := 24) (s' := 16) _ (by omega) (by omega) (by omega) (by omega), t_ad1 v (s := 16) (s' := 8) _ (by omega) (by omega) (by omega) (by omega), t_ad1 v (s := 8) (s' := 0) _ (by omega) (by omega) (by omega) (by omega), t_ad1 v (s := 0) (s' := -8) _ (by omega) (by omega) (by omega) (by omega), bk_11_3]
  simp (disch := omega) only [bk_11_55, Option.bind_some, Bool.cond_decide, am_oI_some, am_oV_some, am_oI_ite, am_oV_ite, am_bind_ite, Int.toNat_natCast, Int.toNat_zero, Int.reduceToNat, ite_true, ite_false, not_true_eq_false, not_false_eq_true, decide_true, decide_false, decide_eq_true_eq, Bool.false_eq_true, Nat.add_zero, am_rok1_0, am_rok1_1, cond_true, cond_false, am_w_nat1, true_or, or_true, false_or, or_false, true_and, and_true, false_and, and_false, Int.reduceEq, Int.reduceNeg, Int.reduceLT, Int.reduceLE, or_self, and_self, if_pos, if_neg]
theorem m_ad1 (v : Int) {s s' : Int} (y : am_V) (hs : s = 0 ∨ s = 8 ∨ s = 16 ∨ s = 24) (hs' : s' = s - 8) (h0 : 0 ≤ M 0 2) (h1 : M 0 2 + nbt v s ≤ 240) : am_run am_ms 14 3 [am_R mo, am_I v, am_I s, y] [] (mv mo M g) = am_run am_ms 14 3 [am_R mo, am_I v, am_I s', am_I (tb v s)] [] (mv mo (mt1 M (tb v s)) g) := by
  rw [hs', bk_14_3, tb_shr v hs]
  unfold nbt at h1
  unfold mt1
  have hr := tb_r v s
  generalize tb v s = B at h1 hr ⊢
  have hi := i2b_2 hr.1 hr.2
  by_cases e : B = 0
  · simp (disch := omega) only [e, bk_14_43, w_m8, Option.bind_some, Bool.cond_decide, am_oI_some, am_oV_some, am_oI_ite, am_oV_ite, am_bind_ite, Int.toNat_natCast, Int.toNat_zero, Int.reduceToNat, ite_true, ite_false, not_true_eq_false, not_false_eq_true, decide_true, decide_false, decide_eq_true_eq, Bool.false_eq_true, Nat.add_zero, am_rok1_0, am_rok1_1, cond_true, cond_false, am_w_nat1, true_or, or_true, false_or, or_false, true_and, and_true, false_and, and_false, Int.reduceEq, Int.reduceNeg, Int.reduceLT, Int.reduceLE, or_self, and_self, if_pos, if_neg]
  · rw [if_neg e] at h1
    simp (disch := omega) only [e, bk_14_22, bk_14_43, hi, mv_f0_1, mv_f0_2, mv_w1, mv_p0_2, dup_t, dup_o, va_up_self, va_up_ne, w_m8, w_p1, Option.bind_some, Bool.cond_decide, am_oI_some, am_oV_some, am_oI_ite, am_oV_ite, am_bind_ite, Int.toNat_natCast, Int.toNat_zero, Int.reduceToNat, ite_true, ite_false, not_true_eq_false, not_false_eq_true, decide_true, decide_false, decide_eq_true_eq, Bool.false_eq_true, Nat.add_zero, am_rok1_0, am_rok1_1, cond_true, cond_false, am_w_nat1, true_or, or_true, false_or, or_false, true_and, and_true, false_and, and_false, Int.reduceEq, Int.reduceNeg, Int.reduceLT, Int.reduceLE, or_self, and_self, if_pos, if_neg]
theorem m_add (v : Int) (h0 : 0 ≤ M 0 2) (h1 : M 0 2 + nb v ≤ 240) : am_cV 14 [am_R mo, am_I v] (mv mo M g) = some (mv mo (mt4 M v) g) := by
  have b1 := nbt_r v 24
  have b2 := nbt_r v 16
  have b3 := nbt_r v 8
  have b4 := nbt_r v 0
  unfold nb at h1
  have n1 := mt1_n M v 24
  have n2 := mt1_n (mt1 M (tb v 24)) v 16
  have n3 := mt1_n (mt1 (mt1 M (tb v 24)) (tb v 16)) v 8
  unfold mt4
  rw [am_cV, en_14, bk_14_0, m_ad1 v (s := 24) (s' := 16) _ (by omega) (by omega) (by omega) (by omega), m_ad1 v (s := 16) (s' := 8) _ (by omega) (by omega) (by omega) (by omega), m_ad1 v (s := 8) (s' := 0) _ (by omega) (by omega) (by omega) (by omega), m_ad1 v (s := 0) (s' := -8) _ (by omega) (by omega) (by omega) (by omega), bk_14_3]
  simp (disch := omega) only [bk_14_49, Option.bind_some, Bool.cond_decide, am_oI_some, am_oV_some, am_oI_ite, am_oV_ite, am_bind_ite, Int.toNat_natCast, Int.toNat_zero, Int.reduceToNat, ite_true, ite_false, not_true_eq_false, not_false_eq_true, decide_true, decide_false, decide_eq_true_eq, Bool.false_eq_true, Nat.add_zero, am_rok1_0, am_rok1_1, cond_true, cond_false, am_w_nat1, true_or, or_true, false_or, or_false, true_and, and_true, false_and, and_false, Int.reduceEq, Int.reduceNeg, Int.reduceLT, Int.reduceLE, or_self, and_self, if_pos, if_neg]
/-- what the texts leave as it was -/
def SF (S S' : Nat → Nat → Int) : Prop := (∀ j, j = 0 ∨ j = 1 ∨ 14 ≤ j → S' 0 j = S 0 j) ∧ ∀ r, 9 ≤ r → S' r = S r
def MX (M M' : Nat → Nat → Int) : Prop := (∀ r, r = 3 ∨ r = 7 ∨ r = 8 ∨ r = 11 ∨ r = 12 → M' r = M r) ∧ (∀ j, j < 192 → M' 5 j = M 5 j) ∧ (∀ j, j < 4 → M' 6 j = M 6 j) ∧ ∀ j, j = 12 ∨ j = 14 ∨ 20 ≤ j ∧ j ≤ 25 → M' 0 j = M 0 j
theorem SF_refl (S : Nat → Nat → Int) : SF S S := ⟨fun _ _ => rfl, fun _ _ => rfl⟩
theorem MX_refl (M : Nat → Nat → Int) : MX M M := ⟨fun _ _ => rfl, fun _ _ => rfl, fun _ _ => rfl, fun _ _ => rfl⟩
theorem SF_trans {S S' S'' : Nat → Nat → Int} (a : SF S S') (b : SF S' S'') : SF S S'' := ⟨fun j h => (b.1 j h).trans (a.1 j h), fun r h => (b.2 r h).trans (a.2 r h)⟩
theorem MX_trans {M M' M'' : Nat → Nat → Int} (a : MX M M') (b : MX M' M'') : MX M M'' := ⟨fun r h => (b.1 r h).trans (a.1 r h), fun j h => (b.2.1 j h).trans (a.2.1 j h), fun j h => (b.2.2.1 j h).trans (a.2.2.1 j h), fun j h => (b.2.2.2 j h).trans (a.2.2.2 j h)⟩
theorem SF_f (S : Nat → Nat → Int) {j : Nat} (hj : 2 ≤ j ∧ j ≤ 13) (v : Int) : SF S (dup S 0 j v) := ⟨fun i h => by rw [dup_t, va_up_ne _ _ (by omega)], fun r h => dup_o _ _ _ (by omega)⟩
theorem SF_r (S : Nat → Nat → Int) {r : Nat} (hr : 1 ≤ r ∧ r ≤ 8) (j : Nat) (v : Int) : SF S (dup S r j v) := ⟨fun i h => by rw [dup_o _ _ _ (by omega)], fun q h => dup_o _ _ _ (by omega)⟩
theorem MX_f (M : Nat → Nat → Int) {j : Nat} (hj : j = 0 ∨ j = 2 ∨ j = 3 ∨ j = 4 ∨ j = 11 ∨ j = 13) (v : Int) : MX M (dup M 0 j v) := ⟨fun r h => dup_o _ _ _ (by omega), fun i h => by rw [dup_o _ _ _ (by omega)], fun i h => by rw [dup_o _ _ _ (by omega)], fun i h => by rw [dup_t, va_up_ne _ _ (by omega)]⟩
theorem MX_r (M : Nat → Nat → Int) {r : Nat} (hr : r = 1 ∨ r = 2 ∨ r = 4) (j : Nat) (v : Int) : MX M (dup M r j v) := ⟨fun q h => dup_o _ _ _ (by omega), fun i h => by rw [dup_o _ _ _ (by omega)], fun i h => by rw [dup_o _ _ _ (by omega)], fun i h => by rw [dup_o _ _ _ (by omega)]⟩
theorem MX_5 (M : Nat → Nat → Int) {j : Nat} (hj : 192 ≤ j) (v : Int) : MX M (dup M 5 j v) := ⟨fun q h => dup_o _ _ _ (by omega), fun i h => by rw [dup_t, va_up_ne _ _ (by omega)], fun i h => by rw [dup_o _ _ _ (by omega)], fun i h => by rw [dup_o _ _ _ (by omega)]⟩
theorem MX_6 (M : Nat → Nat → Int) {j : Nat} (hj : 4 ≤ j) (v : Int) : MX M (dup M 6 j v) := ⟨fun q h => dup_o _ _ _ (by omega), fun i h => by rw [dup_o _ _ _ (by omega)], fun i h => by rw [dup_t, va_up_ne _ _ (by omega)], fun i h => by rw [dup_o _ _ _ (by omega)]⟩
theorem WR_tp (w : WR n m N K S HD M) (hS : SF S S') (hM : MX M M') (wt : WT S' M') : WR n m N K S' HD M' := by
  obtain ⟨a, b, c, d, e⟩ := w
  obtain ⟨s0, s9⟩ := hS
  obtain ⟨r, r5, r6, f⟩ := hM
  refine ⟨wt, ?_, ?_, ?_, ?_⟩
  · obtain ⟨b1, b2⟩ := b
    refine ⟨?_, ?_⟩
    · rw [s0 0 (by omega), f 12 (by omega)]; exact b1
    · intro s hs
      rw [s0 0 (by omega)] at hs
      have hs4 : s < 4 := by omega
      obtain ⟨c1, c2⟩ := b2 s hs
      rw [s0 (17 + s) (by omega), r6 s (by omega), s9 (10 + 3 * s) (by omega), s9 (11 + 3 * s) (by omega), s9 (12 + 3 * s) (by omega)]
      refine ⟨c1, fun i hi => ?_⟩
      rw [r5 (48 * s + 3 * i) (by omega), r5 (48 * s + 3 * i + 1) (by omega), r5 (48 * s + 3 * i + 2) (by omega)]
      exact c2 i hi
  · intro j hj
    rw [r 7 (by omega), s9 9 (by omega)]
    exact c j hj
  · unfold WH at d ⊢
    rw [s0 14 (by omega), s0 15 (by omega), s0 1 (by omega), f 20 (by omega), f 21 (by omega), f 22 (by omega)]
    exact d
  · rcases e with e | ⟨Z, e⟩
    · left
      unfold W0 at e ⊢
      rw [f 14 (by omega), r 8 (by omega), s0 1 (by omega), s0 15 (by omega)]
      exact e
    · right
      refine ⟨Z, ?_⟩
      have em : ∀ i, mslot M' i = mslot M i := by intro i; unfold mslot; rw [f 20 (by omega)]
      have eh : ∀ i : Int, hslot S' i = hslot S i := by intro i; unfold hslot; rw [s0 14 (by omega)]
      unfold WD RU at e ⊢
      rw [f 14 (by omega), f 23 (by omega), f 24 (by omega), f 25 (by omega), r 3 (by omega), r 8 (by omega), r 11 (by omega), r 12 (by omega), s0 1 (by omega), s0 15 (by omega)]
      refine ⟨e.1, e.2.1, e.2.2.1, e.2.2.2.1, fun i hi => ?_⟩
      rw [em, eh]
      exact e.2.2.2.2 i hi
theorem WT_0 (w : WT S M) : WT S (dup M 0 0 0) := by
  unfold WT at w ⊢
  rw [dup_o _ _ _ (show (1 : Nat) ≠ 0 by omega), dup_t, va_up_ne _ _ (by omega)]
  exact w
theorem WT_1 {b : Int} (hb : 0 ≤ b ∧ b ≤ 255) (w : WT S M) (hn : b ≠ 0 → S 0 2 < 240) : WT (tp1 S b) (mt1 M b) := by
  unfold tp1 mt1
  by_cases e : b = 0
  · rw [if_pos e, if_pos e]; exact w
  · rw [if_neg e, if_neg e]
    have h240 := hn e
    obtain ⟨⟨w1, w2, w3⟩, w4⟩ := w
    have s2 : dup (dup S 1 (S 0 2).toNat b) 0 2 (S 0 2 + 1) 0 2 = S 0 2 + 1 := by rw [dup_t, va_up_self]
    have m2 : dup (dup M 1 (M 0 2).toNat (am_i2b b)) 0 2 (M 0 2 + 1) 0 2 = M 0 2 + 1 := by rw [dup_t, va_up_self]
    have s1 : dup (dup S 1 (S 0 2).toNat b) 0 2 (S 0 2 + 1) 1 = va_up (S 1) (S 0 2).toNat b := by rw [dup_o _ _ _ (by omega), dup_t]
    have m1 : dup (dup M 1 (M 0 2).toNat (am_i2b b)) 0 2 (M 0 2 + 1) 1 = va_up (M 1) (M 0 2).toNat (am_i2b b) := by rw [dup_o _ _ _ (by omega), dup_t]
    unfold WT
    rw [s2, m2, s1, m1]
    refine ⟨⟨by omega, by omega, by omega⟩, fun i hi => ?_⟩
    rw [w3]
    by_cases ei : i = (S 0 2).toNat
    · rw [ei, va_up_self, va_up_self]
      exact ⟨⟨by omega, by omega⟩, rfl⟩
    · rw [va_up_ne _ _ ei, va_up_ne _ _ ei]
      exact w4 i (by omega)
theorem WT_4 (v : Int) (w : WT S M) (hn : S 0 2 + nb v ≤ 240) : WT (tp4 S v) (mt4 M v) := by
  have b1 := nbt_r v 24
  have b2 := nbt_r v 16
  have b3 := nbt_r v 8
  have b4 := nbt_r v 0
  unfold nb at hn
  have n1 := tp1_n S v 24
  have n2 := tp1_n (tp1 S (tb v 24)) v 16
  have n3 := tp1_n (tp1 (tp1 S (tb v 24)) (tb v 16)) v 8
  have nz : ∀ s : Int, tb v s ≠ 0 → nbt v s = 1 := fun s q => if_neg q
  unfold tp4 mt4
  refine WT_1 (tb_r _ _) (WT_1 (tb_r _ _) (WT_1 (tb_r _ _) (WT_1 (tb_r _ _) w ?_) ?_) ?_) ?_
  · intro q; have := nz 24 q; omega
  · intro q; have := nz 16 q; omega
  · intro q; have := nz 8 q; omega
  · intro q; have := nz 0 q; omega
theorem tp1_SF (S : Nat → Nat → Int) (b : Int) : SF S (tp1 S b) := by
  unfold tp1
  split
  · exact SF_refl S
  · exact SF_trans (SF_r S (r := 1) (by omega) _ _) (SF_f _ (j := 2) (by omega) _)
theorem mt1_MX (M : Nat → Nat → Int) (b : Int) : MX M (mt1 M b) := by
  unfold mt1
  split
  · exact MX_refl M
  · exact MX_trans (MX_r M (r := 1) (by omega) _ _) (MX_f _ (j := 2) (by omega) _)
theorem tp4_SF (S : Nat → Nat → Int) (v : Int) : SF S (tp4 S v) := SF_trans (SF_trans (SF_trans (tp1_SF S _) (tp1_SF _ _)) (tp1_SF _ _)) (tp1_SF _ _)
theorem mt4_MX (M : Nat → Nat → Int) (v : Int) : MX M (mt4 M v) := MX_trans (MX_trans (MX_trans (mt1_MX M _) (mt1_MX _ _)) (mt1_MX _ _)) (mt1_MX _ _)
theorem cl_end (w : WR n m N K S HD M) (hs : HS lo m A HD h) (a : Int) : CL 16 17 [am_I a] x mo lo n m A N P K T S M h g := by
  have wt := w.1
  obtain ⟨⟨w1, w2, w3⟩, w4⟩ := wt
  have m2 : dup M 0 0 0 0 2 = S 0 2 := by rw [dup_t, va_up_ne _ _ (by omega)]; exact w3
  have wr0 : WR n m N K S HD (dup M 0 0 0) := WR_tp w (SF_refl S) (MX_f M (by omega) 0) (WT_0 w.1)
  by_cases e : 0 ≤ a ∧ a ≤ S 0 2
  · refine ⟨1, N, P, K, T, dup S 0 2 a, dup (dup M 0 0 0) 0 2 a, m, A, h, HD, ?_, ?_, ?_, hs, FR_refl lo m h⟩
    · rw [am_cI]; simp (disch := omega) only [en_16, bk_16_0, bk_16_15, bk_16_17, zv_c0, zv_f0_0, zv_f0_1, zv_f0_2, zv_f0_3, zv_f0_4, zv_f0_5, zv_f0_6, zv_f0_7, zv_f0_8, zv_f0_9, zv_f0_10, zv_f0_11, zv_c1, zv_f1_0, zv_f1_1, zv_c3, zv_f3_0, zv_f3_1, zv_f3_2, zv_f3_3, zv_f3_4, zv_f3_5, zv_f3_6, zv_f3_7, zv_f3_8, zv_f3_9, zv_c7, zv_f7_0, zv_f7_1, zv_f7_2, zv_f7_3, zv_c67, zv_f67_0, zv_f67_1, zv_f67_2, zv_f67_3, zv_f67_4, zv_f67_5, zv_f67_6, zv_f67_7, zv_c86, zv_f86_0, zv_c87, zv_f87_0, zv_f87_1, zv_f87_2, zv_c89, zv_f89_0, zv_c91, zv_f91_0, zv_f91_1, zv_f91_2, zv_f91_3, zv_c95, zv_f95_0, zv_f95_1, zv_f95_2, zv_f95_3, zv_c99, zv_f99_0, zv_f99_1, zv_f99_2, zv_f99_3, zv_c103, zv_f103_0, zv_f103_1, zv_f103_2, zv_f103_3, zv_r1, zv_r2, zv_r3, zv_r4, zv_r5, zv_r6, zv_r7, zv_r8, zv_r9, zv_r10, zv_r11, zv_r12, zv_r13, zv_r14, zv_r15, zv_r16, zv_r17, zv_r18, zv_r19, zv_r20, zv_r21, zv_l1, zv_l2, zv_l3, zv_l4, zv_l5, zv_l6, zv_l7, zv_l8, zv_l9, zv_l10, zv_l11, zv_l12, zv_l13, zv_l14, zv_l15, zv_l16, zv_l17, zv_l18, zv_l19, zv_l20, zv_l21, zv_p0_3, zv_p0_7, zv_p1_1, zv_w1, zv_p3_3, zv_p3_7, zv_p3_8, zv_p3_9, zv_w2, zv_w3, zv_w4, zv_p7_3, zv_w5, zv_w6, zv_w7, zv_w8, zv_p67_3, zv_p67_4, zv_p67_5, zv_p67_6, zv_p67_7, zv_p86_0, zv_p87_1, zv_p87_2, zv_p89_0, zv_w9, zv_p91_3, zv_w10, zv_w11, zv_w12, zv_p95_3, zv_w13, zv_w14, zv_w15, zv_p99_3, zv_w16, zv_w17, zv_w18, zv_p103_3, zv_w19, zv_w20, zv_w21, zN_c, zN_cL, zN_f0, zN_f1, zN_f2, zN_f3, zN_f4, zN_f5, zN_f6, zN_f7, zN_f8, zN_f9, zN_f10, zN_f11, zN_f12, zN_f13, zN_i1, zN_r0, zN_r1, zN_r2, zN_r3, zN_r4, zN_r5, zN_r6, zN_r7, zN_r8, zN_r9, zN_r10, zN_r11, zN_r12, zN_w0, zP_c, zK_c, zT_c, zT_cL, zT_f0, zT_f1, zT_f2, zT_f3, zT_f4, zT_f5, zT_f6, zT_f7, zT_f8, zT_f9, zT_f10, zT_f11, zT_f12, zT_f13, zT_i1, zT_r0, zT_r1, zT_r2, zT_r3, zT_r4, zT_r5, zT_r6, zT_r7, zT_r8, zT_r9, zT_r10, zT_r11, zT_r12, zT_w0, dup_t, dup_o, va_up_self, va_up_ne, drow_t, drow_o, Option.bind_some, Bool.cond_decide, am_oI_some, am_oV_some, am_oI_ite, am_oV_ite, am_bind_ite, Int.toNat_natCast, Int.toNat_zero, Int.reduceToNat, ite_true, ite_false, not_true_eq_false, not_false_eq_true, decide_true, decide_false, decide_eq_true_eq, Bool.false_eq_true, Nat.add_zero, am_rok1_0, am_rok1_1, cond_true, cond_false, am_w_nat1, true_or, or_true, false_or, or_false, true_and, and_true, false_and, and_false, Int.reduceEq, Int.reduceNeg, Int.reduceLT, Int.reduceLE, or_self, and_self, if_pos, if_neg]
    · rw [am_cI]; simp (disch := omega) only [en_17, bk_17_0, bk_17_17, bk_17_19, mv_p0_0, mv_f0_2, mv_p0_2, m2, Option.bind_some, Bool.cond_decide, am_oI_some, am_oV_some, am_oI_ite, am_oV_ite, am_bind_ite, Int.toNat_natCast, Int.toNat_zero, Int.reduceToNat, ite_true, ite_false, not_true_eq_false, not_false_eq_true, decide_true, decide_false, decide_eq_true_eq, Bool.false_eq_true, Nat.add_zero, am_rok1_0, am_rok1_1, cond_true, cond_false, am_w_nat1, true_or, or_true, false_or, or_false, true_and, and_true, false_and, and_false, Int.reduceEq, Int.reduceNeg, Int.reduceLT, Int.reduceLE, or_self, and_self, if_pos, if_neg]
    · refine WR_tp wr0 (SF_f S (by omega) a) (MX_f _ (by omega) a) ?_
      have s2 : dup S 0 2 a 0 2 = a := by rw [dup_t, va_up_self]
      have k2 : dup (dup M 0 0 0) 0 2 a 0 2 = a := by rw [dup_t, va_up_self]
      unfold WT
      rw [s2, k2, dup_o S _ _ (show (1 : Nat) ≠ 0 by omega), dup_o _ _ _ (show (1 : Nat) ≠ 0 by omega), dup_o M _ _ (show (1 : Nat) ≠ 0 by omega)]
      exact ⟨⟨by omega, by omega, rfl⟩, fun i hi => w4 i (by omega)⟩
  · refine ⟨0, N, P, K, T, S, dup M 0 0 0, m, A, h, HD, ?_, ?_, wr0, hs, FR_refl lo m h⟩
    · by_cases e0 : a < 0
      · rw [am_cI]; simp (disch := omega) only [en_16, bk_16_0, bk_16_15, bk_16_17, zv_c0, zv_f0_0, zv_f0_1, zv_f0_2, zv_f0_3, zv_f0_4, zv_f0_5, zv_f0_6, zv_f0_7, zv_f0_8, zv_f0_9, zv_f0_10, zv_f0_11, zv_c1, zv_f1_0, zv_f1_1, zv_c3, zv_f3_0, zv_f3_1, zv_f3_2, zv_f3_3, zv_f3_4, zv_f3_5, zv_f3_6, zv_f3_7, zv_f3_8, zv_f3_9, zv_c7, zv_f7_0, zv_f7_1, zv_f7_2, zv_f7_3, zv_c67, zv_f67_0, zv_f67_1, zv_f67_2, zv_f67_3, zv_f67_4, zv_f67_5, zv_f67_6, zv_f67_7, zv_c86, zv_f86_0, zv_c87, zv_f87_0, zv_f87_1, zv_f87_2, zv_c89, zv_f89_0, zv_c91, zv_f91_0, zv_f91_1, zv_f91_2, zv_f91_3, zv_c95, zv_f95_0, zv_f95_1, zv_f95_2, zv_f95_3, zv_c99, zv_f99_0, zv_f99_1, zv_f99_2, zv_f99_3, zv_c103, zv_f103_0, zv_f103_1, zv_f103_2, zv_f103_3, zv_r1, zv_r2, zv_r3, zv_r4, zv_r5, zv_r6, zv_r7, zv_r8, zv_r9, zv_r10, zv_r11, zv_r12, zv_r13, zv_r14, zv_r15, zv_r16, zv_r17, zv_r18, zv_r19, zv_r20, zv_r21, zv_l1, zv_l2, zv_l3, zv_l4, zv_l5, zv_l6, zv_l7, zv_l8, zv_l9, zv_l10, zv_l11, zv_l12, zv_l13, zv_l14, zv_l15, zv_l16, zv_l17, zv_l18, zv_l19, zv_l20, zv_l21, zv_p0_3, zv_p0_7, zv_p1_1, zv_w1, zv_p3_3, zv_p3_7, zv_p3_8, zv_p3_9, zv_w2, zv_w3, zv_w4, zv_p7_3, zv_w5, zv_w6, zv_w7, zv_w8, zv_p67_3, zv_p67_4, zv_p67_5, zv_p67_6, zv_p67_7, zv_p86_0, zv_p87_1, zv_p87_2, zv_p89_0, zv_w9, zv_p91_3, zv_w10, zv_w11, zv_w12, zv_p95_3, zv_w13, zv_w14, zv_w15, zv_p99_3, zv_w16, zv_w17, zv_w18, zv_p103_3, zv_w19, zv_w20, zv_w21, zN_c, zN_cL, zN_f0, zN_f1, zN_f2, zN_f3, zN_f4, zN_f5, zN_f6, zN_f7, zN_f8, zN_f9, zN_f10, zN_f11, zN_f12, zN_f13, zN_i1, zN_r0, zN_r1, zN_r2, zN_r3, zN_r4, zN_r5, zN_r6, zN_r7, zN_r8, zN_r9, zN_r10, zN_r11, zN_r12, zN_w0, zP_c, zK_c, zT_c, zT_cL, zT_f0, zT_f1, zT_f2, zT_f3, zT_f4, zT_f5, zT_f6, zT_f7, zT_f8, zT_f9, zT_f10, zT_f11, zT_f12, zT_f13, zT_i1, zT_r0, zT_r1, zT_r2, zT_r3, zT_r4, zT_r5, zT_r6, zT_r7, zT_r8, zT_r9, zT_r10, zT_r11, zT_r12, zT_w0, dup_t, dup_o, va_up_self, va_up_ne, drow_t, drow_o, Option.bind_some, Bool.cond_decide, am_oI_some, am_oV_some, am_oI_ite, am_oV_ite, am_bind_ite, Int.toNat_natCast, Int.toNat_zero, Int.reduceToNat, ite_true, ite_false, not_true_eq_false, not_false_eq_true, decide_true, decide_false, decide_eq_true_eq, Bool.false_eq_true, Nat.add_zero, am_rok1_0, am_rok1_1, cond_true, cond_false, am_w_nat1, true_or, or_true, false_or, or_false, true_and, and_true, false_and, and_false, Int.reduceEq, Int.reduceNeg, Int.reduceLT, Int.reduceLE, or_self, and_self, if_pos, if_neg]
      · rw [am_cI]; simp (disch := omega) only [en_16, bk_16_0, bk_16_15, bk_16_17, zv_c0, zv_f0_0, zv_f0_1, zv_f0_2, zv_f0_3, zv_f0_4, zv_f0_5, zv_f0_6, zv_f0_7, zv_f0_8, zv_f0_9, zv_f0_10, zv_f0_11, zv_c1, zv_f1_0, zv_f1_1, zv_c3, zv_f3_0, zv_f3_1, zv_f3_2, zv_f3_3, zv_f3_4, zv_f3_5, zv_f3_6, zv_f3_7, zv_f3_8, zv_f3_9, zv_c7, zv_f7_0, zv_f7_1, zv_f7_2, zv_f7_3, zv_c67, zv_f67_0, zv_f67_1, zv_f67_2, zv_f67_3, zv_f67_4, zv_f67_5, zv_f67_6, zv_f67_7, zv_c86, zv_f86_0, zv_c87, zv_f87_0, zv_f87_1, zv_f87_2, zv_c89, zv_f89_0, zv_c91, zv_f91_0, zv_f91_1, zv_f91_2, zv_f91_3, zv_c95, zv_f95_0, zv_f95_1, zv_f95_2, zv_f95_3, zv_c99, zv_f99_0, zv_f99_1, zv_f99_2, zv_f99_3, zv_c103, zv_f103_0, zv_f103_1, zv_f103_2, zv_f103_3, zv_r1, zv_r2, zv_r3, zv_r4, zv_r5, zv_r6, zv_r7, zv_r8, zv_r9, zv_r10, zv_r11, zv_r12, zv_r13, zv_r14, zv_r15, zv_r16, zv_r17, zv_r18, zv_r19, zv_r20, zv_r21, zv_l1, zv_l2, zv_l3, zv_l4, zv_l5, zv_l6, zv_l7, zv_l8, zv_l9, zv_l10, zv_l11, zv_l12, zv_l13, zv_l14, zv_l15, zv_l16, zv_l17, zv_l18, zv_l19, zv_l20, zv_l21, zv_p0_3, zv_p0_7, zv_p1_1, zv_w1, zv_p3_3, zv_p3_7, zv_p3_8, zv_p3_9, zv_w2, zv_w3, zv_w4, zv_p7_3, zv_w5, zv_w6, zv_w7, zv_w8, zv_p67_3, zv_p67_4, zv_p67_5, zv_p67_6, zv_p67_7, zv_p86_0, zv_p87_1, zv_p87_2, zv_p89_0, zv_w9, zv_p91_3, zv_w10, zv_w11, zv_w12, zv_p95_3, zv_w13, zv_w14, zv_w15, zv_p99_3, zv_w16, zv_w17, zv_w18, zv_p103_3, zv_w19, zv_w20, zv_w21, zN_c, zN_cL, zN_f0, zN_f1, zN_f2, zN_f3, zN_f4, zN_f5, zN_f6, zN_f7, zN_f8, zN_f9, zN_f10, zN_f11, zN_f12, zN_f13, zN_i1, zN_r0, zN_r1, zN_r2, zN_r3, zN_r4, zN_r5, zN_r6, zN_r7, zN_r8, zN_r9, zN_r10, zN_r11, zN_r12, zN_w0, zP_c, zK_c, zT_c, zT_cL, zT_f0, zT_f1, zT_f2, zT_f3, zT_f4, zT_f5, zT_f6, zT_f7, zT_f8, zT_f9, zT_f10, zT_f11, zT_f12, zT_f13, zT_i1, zT_r0, zT_r1, zT_r2, zT_r3, zT_r4, zT_r5, zT_r6, zT_r7, zT_r8, zT_r9, zT_r10, zT_r11, zT_r12, zT_w0, dup_t, dup_o, va_up_self, va_up_ne, drow_t, drow_o, Option.bind_some, Bool.cond_decide, am_oI_some, am_oV_some, am_oI_ite, am_oV_ite, am_bind_ite, Int.toNat_natCast, Int.toNat_zero, Int.reduceToNat, ite_true, ite_false, not_true_eq_false, not_false_eq_true, decide_true, decide_false, decide_eq_true_eq, Bool.false_eq_true, Nat.add_zero, am_rok1_0, am_rok1_1, cond_true, cond_false, am_w_nat1, true_or, or_true, false_or, or_false, true_and, and_true, false_and, and_false, Int.reduceEq, Int.reduceNeg, Int.reduceLT, Int.reduceLE, or_self, and_self, if_pos, if_neg]
    · by_cases e0 : a < 0
      · rw [am_cI]; simp (disch := omega) only [en_17, bk_17_0, bk_17_17, bk_17_19, mv_p0_0, mv_f0_2, mv_p0_2, m2, Option.bind_some, Bool.cond_decide, am_oI_some, am_oV_some, am_oI_ite, am_oV_ite, am_bind_ite, Int.toNat_natCast, Int.toNat_zero, Int.reduceToNat, ite_true, ite_false, not_true_eq_false, not_false_eq_true, decide_true, decide_false, decide_eq_true_eq, Bool.false_eq_true, Nat.add_zero, am_rok1_0, am_rok1_1, cond_true, cond_false, am_w_nat1, true_or, or_true, false_or, or_false, true_and, and_true, false_and, and_false, Int.reduceEq, Int.reduceNeg, Int.reduceLT, Int.reduceLE, or_self, and_self, if_pos, if_neg]
      · rw [am_cI]; simp (disch := omega) only [en_17, bk_17_0, bk_17_17, bk_17_19, mv_p0_0, mv_f0_2, mv_p0_2, m2, Option.bind_some, Bool.cond_decide, am_oI_some, am_oV_some, am_oI_ite, am_oV_ite, am_bind_ite, Int.toNat_natCast, Int.toNat_zero, Int.reduceToNat, ite_true, ite_false, not_true_eq_false, not_false_eq_true, decide_true, decide_false, decide_eq_true_eq, Bool.false_eq_true, Nat.add_zero, am_rok1_0, am_rok1_1, cond_true, cond_false, am_w_nat1, true_or, or_true, false_or, or_false, true_and, and_true, false_and, and_false, Int.reduceEq, Int.reduceNeg, Int.reduceLT, Int.reduceLE, or_self, and_self, if_pos, if_neg]
theorem w_5 {a b c d e : Int} (ha : 0 ≤ a ∧ a ≤ 4) (hb : 0 ≤ b ∧ b ≤ 4) (hc : 0 ≤ c ∧ c ≤ 4) (hd : 0 ≤ d ∧ d ≤ 4) (he : 0 ≤ e ∧ e ≤ 4) : am_w (am_w (am_w (am_w (a + b) + c) + d) + e) = a + b + c + d + e := by
  rw [am_w_id (x := a + b) (by omega) (by omega), am_w_id (x := a + b + c) (by omega) (by omega), am_w_id (x := a + b + c + d) (by omega) (by omega), am_w_id (by omega) (by omega)]
theorem w_6 {f a b c d e : Int} (hf : 0 ≤ f ∧ f ≤ 240) (ha : 0 ≤ a ∧ a ≤ 4) (hb : 0 ≤ b ∧ b ≤ 4) (hc : 0 ≤ c ∧ c ≤ 4) (hd : 0 ≤ d ∧ d ≤ 4) (he : 0 ≤ e ∧ e ≤ 4) : am_w (am_w (am_w (am_w (am_w (f + a) + b) + c) + d) + e) = f + (a + b + c + d + e) := by
  rw [am_w_id (x := f + a) (by omega) (by omega), am_w_id (x := f + a + b) (by omega) (by omega), am_w_id (x := f + a + b + c) (by omega) (by omega), am_w_id (x := f + a + b + c + d) (by omega) (by omega), am_w_id (by omega) (by omega)]
  omega
theorem w_2 {f a : Int} (hf : 0 ≤ f ∧ f ≤ 240) (ha : 0 ≤ a ∧ a ≤ 20) : am_w (f + a) = f + a := am_w_id (by omega) (by omega)
theorem cl_feed (w : WR n m N K S HD M) (hs : HS lo m A HD h) (a b c d e : Int) : CL 12 15 [am_I a, am_I b, am_I c, am_I d, am_I e] x mo lo n m A N P K T S M h g := by
  have wt := w.1
  obtain ⟨⟨w1, w2, w3⟩, w4⟩ := wt
  have m2 : dup M 0 0 0 0 2 = S 0 2 := by rw [dup_t, va_up_ne _ _ (by omega)]; exact w3
  have wr0 : WR n m N K S HD (dup M 0 0 0) := WR_tp w (SF_refl S) (MX_f M (by omega) 0) (WT_0 w.1)
  have ra := nb_r a
  have rb := nb_r b
  have rc := nb_r c
  have rd := nb_r d
  have re := nb_r e
  have e5 := w_5 ra rb rc rd re
  have e6 := w_6 ⟨w1, w2⟩ ra rb rc rd re
  have e2 := w_2 ⟨w1, w2⟩ (a := nb a + nb b + nb c + nb d + nb e) ⟨by omega, by omega⟩
  by_cases hn : S 0 2 + (nb a + nb b + nb c + nb d + nb e) ≤ 240
  · have h1 := tp4_n S a
    have h2 := tp4_n (tp4 S a) b
    have h3 := tp4_n (tp4 (tp4 S a) b) c
    have h4 := tp4_n (tp4 (tp4 (tp4 S a) b) c) d
    have h5 := tp4_n (tp4 (tp4 (tp4 (tp4 S a) b) c) d) e
    have t1 := WT_4 a wr0.1 (by omega)
    have t2 := WT_4 b t1 (by omega)
    have t3 := WT_4 c t2 (by omega)
    have t4 := WT_4 d t3 (by omega)
    have t5 := WT_4 e t4 (by omega)
    have k1 := t1.1.2.2
    have k2 := t2.1.2.2
    have k3 := t3.1.2.2
    have k4 := t4.1.2.2
    have k5 := t5.1.2.2
    have c1 := t_add (x := x) (N := N) (P := P) (K := K) (T := T) (S := S) (m := m) (A := A) (h := h) a (by omega) (by omega)
    have c2 := t_add (x := x) (N := N) (P := P) (K := K) (T := T) (S := tp4 S a) (m := m) (A := A) (h := h) b (by omega) (by omega)
    have c3 := t_add (x := x) (N := N) (P := P) (K := K) (T := T) (S := tp4 (tp4 S a) b) (m := m) (A := A) (h := h) c (by omega) (by omega)
    have c4 := t_add (x := x) (N := N) (P := P) (K := K) (T := T) (S := tp4 (tp4 (tp4 S a) b) c) (m := m) (A := A) (h := h) d (by omega) (by omega)
    have c5 := t_add (x := x) (N := N) (P := P) (K := K) (T := T) (S := tp4 (tp4 (tp4 (tp4 S a) b) c) d) (m := m) (A := A) (h := h) e (by omega) (by omega)
    have d1 := m_add (mo := mo) (M := dup M 0 0 0) (g := g) a (by omega) (by omega)
    have d2 := m_add (mo := mo) (M := mt4 (dup M 0 0 0) a) (g := g) b (by omega) (by omega)
    have d3 := m_add (mo := mo) (M := mt4 (mt4 (dup M 0 0 0) a) b) (g := g) c (by omega) (by omega)
    have d4 := m_add (mo := mo) (M := mt4 (mt4 (mt4 (dup M 0 0 0) a) b) c) (g := g) d (by omega) (by omega)
    have d5 := m_add (mo := mo) (M := mt4 (mt4 (mt4 (mt4 (dup M 0 0 0) a) b) c) d) (g := g) e (by omega) (by omega)
    refine ⟨tp4 (tp4 (tp4 (tp4 (tp4 S a) b) c) d) e 0 2, N, P, K, T, tp4 (tp4 (tp4 (tp4 (tp4 S a) b) c) d) e, mt4 (mt4 (mt4 (mt4 (mt4 (dup M 0 0 0) a) b) c) d) e, m, A, h, HD, ?_, ?_, ?_, hs, FR_refl lo m h⟩
    · rw [am_cI]; simp only [en_12, bk_12_0, bk_12_26, bk_12_46, bk_12_74, t_in, e5, e2, hn, zv_f0_0, zv_f1_1, zv_c1, c1, c2, c3, c4, c5, Option.bind_some, Bool.cond_decide, am_oI_some, am_oV_some, am_oI_ite, am_oV_ite, am_bind_ite, Int.toNat_natCast, Int.toNat_zero, Int.reduceToNat, ite_true, ite_false, not_true_eq_false, not_false_eq_true, decide_true, decide_false, decide_eq_true_eq, Bool.false_eq_true, Nat.add_zero, am_rok1_0, am_rok1_1, cond_true, cond_false, am_w_nat1, true_or, or_true, false_or, or_false, true_and, and_true, false_and, and_false, Int.reduceEq, Int.reduceNeg, Int.reduceLT, Int.reduceLE, or_self, and_self]
    · rw [am_cI]; simp only [en_15, bk_15_0, bk_15_24, bk_15_44, bk_15_68, m_in, mv_p0_0, mv_c0, m2, mv_f0_2, e6, hn, d1, d2, d3, d4, d5, k5, Option.bind_some, Bool.cond_decide, am_oI_some, am_oV_some, am_oI_ite, am_oV_ite, am_bind_ite, Int.toNat_natCast, Int.toNat_zero, Int.reduceToNat, ite_true, ite_false, not_true_eq_false, not_false_eq_true, decide_true, decide_false, decide_eq_true_eq, Bool.false_eq_true, Nat.add_zero, am_rok1_0, am_rok1_1, cond_true, cond_false, am_w_nat1, true_or, or_true, false_or, or_false, true_and, and_true, false_and, and_false, Int.reduceEq, Int.reduceNeg, Int.reduceLT, Int.reduceLE, or_self, and_self]
    · exact WR_tp wr0 (SF_trans (SF_trans (SF_trans (SF_trans (tp4_SF S a) (tp4_SF _ b)) (tp4_SF _ c)) (tp4_SF _ d)) (tp4_SF _ e)) (MX_trans (MX_trans (MX_trans (MX_trans (mt4_MX _ a) (mt4_MX _ b)) (mt4_MX _ c)) (mt4_MX _ d)) (mt4_MX _ e)) t5
  · refine ⟨-1, N, P, K, T, S, dup M 0 0 0, m, A, h, HD, ?_, ?_, wr0, hs, FR_refl lo m h⟩
    · rw [am_cI]; simp only [en_12, bk_12_0, bk_12_26, bk_12_46, bk_12_74, t_in, e5, e2, hn, zv_f0_0, zv_f1_1, Option.bind_some, Bool.cond_decide, am_oI_some, am_oV_some, am_oI_ite, am_oV_ite, am_bind_ite, Int.toNat_natCast, Int.toNat_zero, Int.reduceToNat, ite_true, ite_false, not_true_eq_false, not_false_eq_true, decide_true, decide_false, decide_eq_true_eq, Bool.false_eq_true, Nat.add_zero, am_rok1_0, am_rok1_1, cond_true, cond_false, am_w_nat1, true_or, or_true, false_or, or_false, true_and, and_true, false_and, and_false, Int.reduceEq, Int.reduceNeg, Int.reduceLT, Int.reduceLE, or_self, and_self]
    · rw [am_cI]; simp only [en_15, bk_15_0, bk_15_24, bk_15_44, bk_15_68, m_in, mv_p0_0, m2, mv_f0_2, e6, hn, Option.bind_some, Bool.cond_decide, am_oI_some, am_oV_some, am_oI_ite, am_oV_ite, am_bind_ite, Int.toNat_natCast, Int.toNat_zero, Int.reduceToNat, ite_true, ite_false, not_true_eq_false, not_false_eq_true, decide_true, decide_false, decide_eq_true_eq, Bool.false_eq_true, Nat.add_zero, am_rok1_0, am_rok1_1, cond_true, cond_false, am_w_nat1, true_or, or_true, false_or, or_false, true_and, and_true, false_and, and_false, Int.reduceEq, Int.reduceNeg, Int.reduceLT, Int.reduceLE, or_self, and_self]
end TAPE
