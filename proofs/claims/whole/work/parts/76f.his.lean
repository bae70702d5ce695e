/-! ===== the history ===== -/
/-- nothing below lo is changed; drives made between m and m' -/
def FR (lo m m' : Nat) (h h' : am_H) : Prop := (∀ q, q < lo → h'.1 q = h.1 q) ∧ (h'.2.1 = h.2.1 + 18 * (m' - m) ∧ h'.2.2.1 = h.2.2.1 + 729 * (m' - m) ∧ h'.2.2.2 = h.2.2.2) ∧ m ≤ m'
theorem FR_refl (lo m : Nat) (h : am_H) : FR lo m m h h := ⟨fun _ _ => rfl, ⟨by omega, by omega, rfl⟩, Nat.le_refl _⟩
theorem FR_trans {lo m m' m'' : Nat} {h h' h'' : am_H} (a : FR lo m m' h h') (b : FR lo m' m'' h' h'') : FR lo m m'' h h'' := by
  obtain ⟨a1, ⟨a2, a3, a4⟩, a5⟩ := a
  obtain ⟨b1, ⟨b2, b3, b4⟩, b5⟩ := b
  exact ⟨fun q hq => (b1 q hq).trans (a1 q hq), ⟨by omega, by omega, b4.trans a4⟩, by omega⟩
section HIS
variable {x lo : Nat} {N P K T S : Nat → Nat → Int} {m : Nat} {A : Nat → Nat} {h : am_H} {HD : Nat → Nat → Nat → Int}
theorem zv_rr {j : Int} (h0 : 0 ≤ j) (h1 : j < 41) : am_rr (zv x N P K T S m A h) (x + 88) j = some (if j.toNat < m then some (A j.toNat) else none) := by
  unfold am_rr
  rw [zv_in (i := 88) (by omega)]
  show (if 0 ≤ j ∧ j < (41 : Nat) then some (if j.toNat < m then some (A j.toNat) else none) else none) = _
  rw [if_pos ⟨h0, by omega⟩]
theorem zv_grw (c k : Nat) : grw (zv x N P K T S m A h) c k = zv x N P K T S m A (grw h c k) := rfl
theorem zv_wrr {b : Nat} {fs : List am_V} (hm : m < 41) (hb : x + 107 ≤ b) (ho : h.1 b = am_ob 1 fs) : am_wrr (zv x N P K T S m A h) (x + 88) (m : Int) b = some (zv x N P K T S (m + 1) (fun i => if i = m then b else A i) h) := by
  unfold am_wrr
  rw [zv_in (i := 88) (by omega), zv_out (by omega), ho]
  show (if 1 = am_ofc 4 ∧ (0 : Int) ≤ m ∧ (m : Int) < (41 : Nat) then some (am_set (zv x N P K T S m A h) (x + 88) (am_ra 4 41 (va_up (fun j => if j < m then some (A j) else none) (m : Int).toNat (some b)))) else none) = _
  rw [if_pos ⟨rfl, by omega, by omega⟩, Int.toNat_natCast]
  congr 1
  have ef : va_up (fun j => if j < m then some (A j) else none) m (some b) = (fun j => if j < m + 1 then some ((fun i => if i = m then b else A i) j) else none) := by
    funext j
    unfold va_up
    by_cases e : j = m
    · rw [if_pos e, if_pos (by omega)]
      dsimp only
      rw [if_pos e]
    · rw [if_neg e]
      dsimp only
      by_cases e2 : j < m
      · rw [if_pos e2, if_pos (by omega), if_neg e]
      · rw [if_neg e2, if_neg (by omega)]
  rw [ef]
  show (_, _) = (_, _)
  congr 1
  funext k
  show (if k = x + 88 then am_ra 4 41 (fun j => if j < m + 1 then some ((fun i => if i = m then b else A i) j) else none) else (if x ≤ k ∧ k < x + 107 then zvc x N P K T S m A (k - x) else h.1 k)) = (if x ≤ k ∧ k < x + 107 then zvc x N P K T S (m + 1) (fun i => if i = m then b else A i) (k - x) else h.1 k)
  by_cases e : k = x + 88
  · rw [if_pos e, if_pos (by omega), e, Nat.add_sub_cancel_left]
    rfl
  · rw [if_neg e]
    by_cases a : x ≤ k ∧ k < x + 107
    · rw [if_pos a, if_pos a]
      obtain ⟨i, rfl⟩ : ∃ i, k = x + i := ⟨k - x, by omega⟩
      rw [Nat.add_sub_cancel_left]
      have hi : i < 107 := by omega
      have hne : i ≠ 88 := by omega
      revert hi hne
      match i with
      | 0 => intro _ _; rfl
      | 1 => intro _ _; rfl
      | 2 => intro _ _; rfl
      | 3 => intro _ _; rfl
      | 4 => intro _ _; rfl
      | 5 => intro _ _; rfl
      | 6 => intro _ _; rfl
      | 7 => intro _ _; rfl
      | 8 => intro _ _; rfl
      | 9 => intro _ _; rfl
      | 10 => intro _ _; rfl
      | 11 => intro _ _; rfl
      | 12 => intro _ _; rfl
      | 13 => intro _ _; rfl
      | 14 => intro _ _; rfl
      | 15 => intro _ _; rfl
      | 16 => intro _ _; rfl
      | 17 => intro _ _; rfl
      | 18 => intro _ _; rfl
      | 19 => intro _ _; rfl
      | 20 => intro _ _; rfl
      | 21 => intro _ _; rfl
      | 22 => intro _ _; rfl
      | 23 => intro _ _; rfl
      | 24 => intro _ _; rfl
      | 25 => intro _ _; rfl
      | 26 => intro _ _; rfl
      | 27 => intro _ _; rfl
      | 28 => intro _ _; rfl
      | 29 => intro _ _; rfl
      | 30 => intro _ _; rfl
      | 31 => intro _ _; rfl
      | 32 => intro _ _; rfl
      | 33 => intro _ _; rfl
      | 34 => intro _ _; rfl
      | 35 => intro _ _; rfl
      | 36 => intro _ _; rfl
      | 37 => intro _ _; rfl
      | 38 => intro _ _; rfl
      | 39 => intro _ _; rfl
      | 40 => intro _ _; rfl
      | 41 => intro _ _; rfl
      | 42 => intro _ _; rfl
      | 43 => intro _ _; rfl
      | 44 => intro _ _; rfl
      | 45 => intro _ _; rfl
      | 46 => intro _ _; rfl
      | 47 => intro _ _; rfl
      | 48 => intro _ _; rfl
      | 49 => intro _ _; rfl
      | 50 => intro _ _; rfl
      | 51 => intro _ _; rfl
      | 52 => intro _ _; rfl
      | 53 => intro _ _; rfl
      | 54 => intro _ _; rfl
      | 55 => intro _ _; rfl
      | 56 => intro _ _; rfl
      | 57 => intro _ _; rfl
      | 58 => intro _ _; rfl
      | 59 => intro _ _; rfl
      | 60 => intro _ _; rfl
      | 61 => intro _ _; rfl
      | 62 => intro _ _; rfl
      | 63 => intro _ _; rfl
      | 64 => intro _ _; rfl
      | 65 => intro _ _; rfl
      | 66 => intro _ _; rfl
      | 67 => intro _ _; rfl
      | 68 => intro _ _; rfl
      | 69 => intro _ _; rfl
      | 70 => intro _ _; rfl
      | 71 => intro _ _; rfl
      | 72 => intro _ _; rfl
      | 73 => intro _ _; rfl
      | 74 => intro _ _; rfl
      | 75 => intro _ _; rfl
      | 76 => intro _ _; rfl
      | 77 => intro _ _; rfl
      | 78 => intro _ _; rfl
      | 79 => intro _ _; rfl
      | 80 => intro _ _; rfl
      | 81 => intro _ _; rfl
      | 82 => intro _ _; rfl
      | 83 => intro _ _; rfl
      | 84 => intro _ _; rfl
      | 85 => intro _ _; rfl
      | 86 => intro _ _; rfl
      | 87 => intro _ _; rfl
      | 88 => intro _ hne; exact absurd rfl hne
      | 89 => intro _ _; rfl
      | 90 => intro _ _; rfl
      | 91 => intro _ _; rfl
      | 92 => intro _ _; rfl
      | 93 => intro _ _; rfl
      | 94 => intro _ _; rfl
      | 95 => intro _ _; rfl
      | 96 => intro _ _; rfl
      | 97 => intro _ _; rfl
      | 98 => intro _ _; rfl
      | 99 => intro _ _; rfl
      | 100 => intro _ _; rfl
      | 101 => intro _ _; rfl
      | 102 => intro _ _; rfl
      | 103 => intro _ _; rfl
      | 104 => intro _ _; rfl
      | 105 => intro _ _; rfl
      | 106 => intro _ _; rfl
      | i + 107 => intro hi _; exact absurd hi (by omega)
    · rw [if_neg a, if_neg a]
/-- the slot of the i-th act -/
def hslot (S : Nat → Nat → Int) (i : Int) : Nat := ((S 0 14 + i) % 41).toNat
theorem h_slot (h14 : 0 ≤ S 0 14 ∧ S 0 14 ≤ 40) {i : Int} (hi : 0 ≤ i ∧ i ≤ 41) : am_cI 158 [am_R (x + 87), am_I i] (zv x N P K T S m A h) = some ((hslot S i : Int), (zv x N P K T S m A h)) := by
  have e1 : am_w (S 0 14 + i) = S 0 14 + i := am_w_id (by omega) (by omega)
  have e2 : am_rem (S 0 14 + i) 41 = (hslot S i : Int) := by
    rw [am_rem_of ⟨by omega, by omega⟩ ⟨by omega, by omega⟩ (by omega) (by omega)]
    unfold hslot
    omega
  rw [am_cI]; simp (disch := omega) only [en_158, bk_158_0, e1, e2, zv_c0, zv_f0_0, zv_f0_1, zv_f0_2, zv_f0_3, zv_f0_4, zv_f0_5, zv_f0_6, zv_f0_7, zv_f0_8, zv_f0_9, zv_f0_10, zv_f0_11, zv_c1, zv_f1_0, zv_f1_1, zv_c3, zv_f3_0, zv_f3_1, zv_f3_2, zv_f3_3, zv_f3_4, zv_f3_5, zv_f3_6, zv_f3_7, zv_f3_8, zv_f3_9, zv_c7, zv_f7_0, zv_f7_1, zv_f7_2, zv_f7_3, zv_c67, zv_f67_0, zv_f67_1, zv_f67_2, zv_f67_3, zv_f67_4, zv_f67_5, zv_f67_6, zv_f67_7, zv_c86, zv_f86_0, zv_c87, zv_f87_0, zv_f87_1, zv_f87_2, zv_c89, zv_f89_0, zv_c91, zv_f91_0, zv_f91_1, zv_f91_2, zv_f91_3, zv_c95, zv_f95_0, zv_f95_1, zv_f95_2, zv_f95_3, zv_c99, zv_f99_0, zv_f99_1, zv_f99_2, zv_f99_3, zv_c103, zv_f103_0, zv_f103_1, zv_f103_2, zv_f103_3, zv_r1, zv_r2, zv_r3, zv_r4, zv_r5, zv_r6, zv_r7, zv_r8, zv_r9, zv_r10, zv_r11, zv_r12, zv_r13, zv_r14, zv_r15, zv_r16, zv_r17, zv_r18, zv_r19, zv_r20, zv_r21, zv_l1, zv_l2, zv_l3, zv_l4, zv_l5, zv_l6, zv_l7, zv_l8, zv_l9, zv_l10, zv_l11, zv_l12, zv_l13, zv_l14, zv_l15, zv_l16, zv_l17, zv_l18, zv_l19, zv_l20, zv_l21, zv_p0_3, zv_p0_7, zv_p1_1, zv_w1, zv_p3_3, zv_p3_7, zv_p3_8, zv_p3_9, zv_w2, zv_w3, zv_w4, zv_p7_3, zv_w5, zv_w6, zv_w7, zv_w8, zv_p67_3, zv_p67_4, zv_p67_5, zv_p67_6, zv_p67_7, zv_p86_0, zv_p87_1, zv_p87_2, zv_p89_0, zv_w9, zv_p91_3, zv_w10, zv_w11, zv_w12, zv_p95_3, zv_w13, zv_w14, zv_w15, zv_p99_3, zv_w16, zv_w17, zv_w18, zv_p103_3, zv_w19, zv_w20, zv_w21, zN_c, zN_cL, zN_f0, zN_f1, zN_f2, zN_f3, zN_f4, zN_f5, zN_f6, zN_f7, zN_f8, zN_f9, zN_f10, zN_f11, zN_f12, zN_f13, zN_i1, zN_r0, zN_r1, zN_r2, zN_r3, zN_r4, zN_r5, zN_r6, zN_r7, zN_r8, zN_r9, zN_r10, zN_r11, zN_r12, zN_w0, zP_c, zK_c, zT_c, zT_cL, zT_f0, zT_f1, zT_f2, zT_f3, zT_f4, zT_f5, zT_f6, zT_f7, zT_f8, zT_f9, zT_f10, zT_f11, zT_f12, zT_f13, zT_i1, zT_r0, zT_r1, zT_r2, zT_r3, zT_r4, zT_r5, zT_r6, zT_r7, zT_r8, zT_r9, zT_r10, zT_r11, zT_r12, zT_w0, dup_t, dup_o, va_up_self, va_up_ne, drow_t, drow_o, Option.bind_some, Bool.cond_decide, am_oI_some, am_oV_some, am_oI_ite, am_oV_ite, am_bind_ite, Int.toNat_natCast, Int.toNat_zero, Int.reduceToNat, ite_true, ite_false, not_true_eq_false, not_false_eq_true, decide_true, decide_false, decide_eq_true_eq, Bool.false_eq_true, Nat.add_zero, am_rok1_0, am_rok1_1, cond_true, cond_false, am_w_nat1, true_or, or_true, false_or, or_false, true_and, and_true, false_and, and_false, Int.reduceEq, Int.reduceNeg, Int.reduceLT, Int.reduceLE, or_self, and_self, if_pos, if_neg]
def hcm (S : Nat → Nat → Int) : Nat → Nat → Int := if S 0 15 < 40 then dup S 0 15 (S 0 15 + 1) else dup S 0 14 (hslot S 1)
theorem h_commit (h14 : 0 ≤ S 0 14 ∧ S 0 14 ≤ 40) (h15 : 0 ≤ S 0 15 ∧ S 0 15 ≤ 40) : am_cV 159 [am_R (x + 87)] (zv x N P K T S m A h) = some (zv x N P K T (hcm S) m A h) := by
  have c1 := h_slot (x := x) (N := N) (P := P) (K := K) (T := T) (S := S) (m := m) (A := A) (h := h) h14 (i := 1) (by omega)
  have e1 : am_w (S 0 15 + 1) = S 0 15 + 1 := am_w_id (by omega) (by omega)
  unfold hcm
  by_cases e : S 0 15 < 40
  · rw [am_cV]; simp (disch := omega) only [en_159, bk_159_0, bk_159_22, bk_159_31, e1, zv_c0, zv_f0_0, zv_f0_1, zv_f0_2, zv_f0_3, zv_f0_4, zv_f0_5, zv_f0_6, zv_f0_7, zv_f0_8, zv_f0_9, zv_f0_10, zv_f0_11, zv_c1, zv_f1_0, zv_f1_1, zv_c3, zv_f3_0, zv_f3_1, zv_f3_2, zv_f3_3, zv_f3_4, zv_f3_5, zv_f3_6, zv_f3_7, zv_f3_8, zv_f3_9, zv_c7, zv_f7_0, zv_f7_1, zv_f7_2, zv_f7_3, zv_c67, zv_f67_0, zv_f67_1, zv_f67_2, zv_f67_3, zv_f67_4, zv_f67_5, zv_f67_6, zv_f67_7, zv_c86, zv_f86_0, zv_c87, zv_f87_0, zv_f87_1, zv_f87_2, zv_c89, zv_f89_0, zv_c91, zv_f91_0, zv_f91_1, zv_f91_2, zv_f91_3, zv_c95, zv_f95_0, zv_f95_1, zv_f95_2, zv_f95_3, zv_c99, zv_f99_0, zv_f99_1, zv_f99_2, zv_f99_3, zv_c103, zv_f103_0, zv_f103_1, zv_f103_2, zv_f103_3, zv_r1, zv_r2, zv_r3, zv_r4, zv_r5, zv_r6, zv_r7, zv_r8, zv_r9, zv_r10, zv_r11, zv_r12, zv_r13, zv_r14, zv_r15, zv_r16, zv_r17, zv_r18, zv_r19, zv_r20, zv_r21, zv_l1, zv_l2, zv_l3, zv_l4, zv_l5, zv_l6, zv_l7, zv_l8, zv_l9, zv_l10, zv_l11, zv_l12, zv_l13, zv_l14, zv_l15, zv_l16, zv_l17, zv_l18, zv_l19, zv_l20, zv_l21, zv_p0_3, zv_p0_7, zv_p1_1, zv_w1, zv_p3_3, zv_p3_7, zv_p3_8, zv_p3_9, zv_w2, zv_w3, zv_w4, zv_p7_3, zv_w5, zv_w6, zv_w7, zv_w8, zv_p67_3, zv_p67_4, zv_p67_5, zv_p67_6, zv_p67_7, zv_p86_0, zv_p87_1, zv_p87_2, zv_p89_0, zv_w9, zv_p91_3, zv_w10, zv_w11, zv_w12, zv_p95_3, zv_w13, zv_w14, zv_w15, zv_p99_3, zv_w16, zv_w17, zv_w18, zv_p103_3, zv_w19, zv_w20, zv_w21, zN_c, zN_cL, zN_f0, zN_f1, zN_f2, zN_f3, zN_f4, zN_f5, zN_f6, zN_f7, zN_f8, zN_f9, zN_f10, zN_f11, zN_f12, zN_f13, zN_i1, zN_r0, zN_r1, zN_r2, zN_r3, zN_r4, zN_r5, zN_r6, zN_r7, zN_r8, zN_r9, zN_r10, zN_r11, zN_r12, zN_w0, zP_c, zK_c, zT_c, zT_cL, zT_f0, zT_f1, zT_f2, zT_f3, zT_f4, zT_f5, zT_f6, zT_f7, zT_f8, zT_f9, zT_f10, zT_f11, zT_f12, zT_f13, zT_i1, zT_r0, zT_r1, zT_r2, zT_r3, zT_r4, zT_r5, zT_r6, zT_r7, zT_r8, zT_r9, zT_r10, zT_r11, zT_r12, zT_w0, dup_t, dup_o, va_up_self, va_up_ne, drow_t, drow_o, Option.bind_some, Bool.cond_decide, am_oI_some, am_oV_some, am_oI_ite, am_oV_ite, am_bind_ite, Int.toNat_natCast, Int.toNat_zero, Int.reduceToNat, ite_true, ite_false, not_true_eq_false, not_false_eq_true, decide_true, decide_false, decide_eq_true_eq, Bool.false_eq_true, Nat.add_zero, am_rok1_0, am_rok1_1, cond_true, cond_false, am_w_nat1, true_or, or_true, false_or, or_false, true_and, and_true, false_and, and_false, Int.reduceEq, Int.reduceNeg, Int.reduceLT, Int.reduceLE, or_self, and_self, if_pos, if_neg]
  · rw [am_cV]; simp (disch := omega) only [en_159, bk_159_0, bk_159_22, bk_159_31, c1, zv_c0, zv_f0_0, zv_f0_1, zv_f0_2, zv_f0_3, zv_f0_4, zv_f0_5, zv_f0_6, zv_f0_7, zv_f0_8, zv_f0_9, zv_f0_10, zv_f0_11, zv_c1, zv_f1_0, zv_f1_1, zv_c3, zv_f3_0, zv_f3_1, zv_f3_2, zv_f3_3, zv_f3_4, zv_f3_5, zv_f3_6, zv_f3_7, zv_f3_8, zv_f3_9, zv_c7, zv_f7_0, zv_f7_1, zv_f7_2, zv_f7_3, zv_c67, zv_f67_0, zv_f67_1, zv_f67_2, zv_f67_3, zv_f67_4, zv_f67_5, zv_f67_6, zv_f67_7, zv_c86, zv_f86_0, zv_c87, zv_f87_0, zv_f87_1, zv_f87_2, zv_c89, zv_f89_0, zv_c91, zv_f91_0, zv_f91_1, zv_f91_2, zv_f91_3, zv_c95, zv_f95_0, zv_f95_1, zv_f95_2, zv_f95_3, zv_c99, zv_f99_0, zv_f99_1, zv_f99_2, zv_f99_3, zv_c103, zv_f103_0, zv_f103_1, zv_f103_2, zv_f103_3, zv_r1, zv_r2, zv_r3, zv_r4, zv_r5, zv_r6, zv_r7, zv_r8, zv_r9, zv_r10, zv_r11, zv_r12, zv_r13, zv_r14, zv_r15, zv_r16, zv_r17, zv_r18, zv_r19, zv_r20, zv_r21, zv_l1, zv_l2, zv_l3, zv_l4, zv_l5, zv_l6, zv_l7, zv_l8, zv_l9, zv_l10, zv_l11, zv_l12, zv_l13, zv_l14, zv_l15, zv_l16, zv_l17, zv_l18, zv_l19, zv_l20, zv_l21, zv_p0_3, zv_p0_7, zv_p1_1, zv_w1, zv_p3_3, zv_p3_7, zv_p3_8, zv_p3_9, zv_w2, zv_w3, zv_w4, zv_p7_3, zv_w5, zv_w6, zv_w7, zv_w8, zv_p67_3, zv_p67_4, zv_p67_5, zv_p67_6, zv_p67_7, zv_p86_0, zv_p87_1, zv_p87_2, zv_p89_0, zv_w9, zv_p91_3, zv_w10, zv_w11, zv_w12, zv_p95_3, zv_w13, zv_w14, zv_w15, zv_p99_3, zv_w16, zv_w17, zv_w18, zv_p103_3, zv_w19, zv_w20, zv_w21, zN_c, zN_cL, zN_f0, zN_f1, zN_f2, zN_f3, zN_f4, zN_f5, zN_f6, zN_f7, zN_f8, zN_f9, zN_f10, zN_f11, zN_f12, zN_f13, zN_i1, zN_r0, zN_r1, zN_r2, zN_r3, zN_r4, zN_r5, zN_r6, zN_r7, zN_r8, zN_r9, zN_r10, zN_r11, zN_r12, zN_w0, zP_c, zK_c, zT_c, zT_cL, zT_f0, zT_f1, zT_f2, zT_f3, zT_f4, zT_f5, zT_f6, zT_f7, zT_f8, zT_f9, zT_f10, zT_f11, zT_f12, zT_f13, zT_i1, zT_r0, zT_r1, zT_r2, zT_r3, zT_r4, zT_r5, zT_r6, zT_r7, zT_r8, zT_r9, zT_r10, zT_r11, zT_r12, zT_w0, dup_t, dup_o, va_up_self, va_up_ne, drow_t, drow_o, Option.bind_some, Bool.cond_decide, am_oI_some, am_oV_some, am_oI_ite, am_oV_ite, am_bind_ite, Int.toNat_natCast, Int.toNat_zero, Int.reduceToNat, ite_true, ite_false, not_true_eq_false, not_false_eq_true, decide_true, decide_false, decide_eq_true_eq, Bool.false_eq_true, Nat.add_zero, am_rok1_0, am_rok1_1, cond_true, cond_false, am_w_nat1, true_or, or_true, false_or, or_false, true_and, and_true, false_and, and_false, Int.reduceEq, Int.reduceNeg, Int.reduceLT, Int.reduceLE, or_self, and_self, if_pos, if_neg]
theorem h_forget : am_cV 61 [am_R (x + 87)] (zv x N P K T S m A h) = some (zv x N P K T (dup (dup S 0 14 0) 0 15 0) m A h) := by
  rw [am_cV]; simp (disch := omega) only [en_61, bk_61_0, zv_c0, zv_f0_0, zv_f0_1, zv_f0_2, zv_f0_3, zv_f0_4, zv_f0_5, zv_f0_6, zv_f0_7, zv_f0_8, zv_f0_9, zv_f0_10, zv_f0_11, zv_c1, zv_f1_0, zv_f1_1, zv_c3, zv_f3_0, zv_f3_1, zv_f3_2, zv_f3_3, zv_f3_4, zv_f3_5, zv_f3_6, zv_f3_7, zv_f3_8, zv_f3_9, zv_c7, zv_f7_0, zv_f7_1, zv_f7_2, zv_f7_3, zv_c67, zv_f67_0, zv_f67_1, zv_f67_2, zv_f67_3, zv_f67_4, zv_f67_5, zv_f67_6, zv_f67_7, zv_c86, zv_f86_0, zv_c87, zv_f87_0, zv_f87_1, zv_f87_2, zv_c89, zv_f89_0, zv_c91, zv_f91_0, zv_f91_1, zv_f91_2, zv_f91_3, zv_c95, zv_f95_0, zv_f95_1, zv_f95_2, zv_f95_3, zv_c99, zv_f99_0, zv_f99_1, zv_f99_2, zv_f99_3, zv_c103, zv_f103_0, zv_f103_1, zv_f103_2, zv_f103_3, zv_r1, zv_r2, zv_r3, zv_r4, zv_r5, zv_r6, zv_r7, zv_r8, zv_r9, zv_r10, zv_r11, zv_r12, zv_r13, zv_r14, zv_r15, zv_r16, zv_r17, zv_r18, zv_r19, zv_r20, zv_r21, zv_l1, zv_l2, zv_l3, zv_l4, zv_l5, zv_l6, zv_l7, zv_l8, zv_l9, zv_l10, zv_l11, zv_l12, zv_l13, zv_l14, zv_l15, zv_l16, zv_l17, zv_l18, zv_l19, zv_l20, zv_l21, zv_p0_3, zv_p0_7, zv_p1_1, zv_w1, zv_p3_3, zv_p3_7, zv_p3_8, zv_p3_9, zv_w2, zv_w3, zv_w4, zv_p7_3, zv_w5, zv_w6, zv_w7, zv_w8, zv_p67_3, zv_p67_4, zv_p67_5, zv_p67_6, zv_p67_7, zv_p86_0, zv_p87_1, zv_p87_2, zv_p89_0, zv_w9, zv_p91_3, zv_w10, zv_w11, zv_w12, zv_p95_3, zv_w13, zv_w14, zv_w15, zv_p99_3, zv_w16, zv_w17, zv_w18, zv_p103_3, zv_w19, zv_w20, zv_w21, zN_c, zN_cL, zN_f0, zN_f1, zN_f2, zN_f3, zN_f4, zN_f5, zN_f6, zN_f7, zN_f8, zN_f9, zN_f10, zN_f11, zN_f12, zN_f13, zN_i1, zN_r0, zN_r1, zN_r2, zN_r3, zN_r4, zN_r5, zN_r6, zN_r7, zN_r8, zN_r9, zN_r10, zN_r11, zN_r12, zN_w0, zP_c, zK_c, zT_c, zT_cL, zT_f0, zT_f1, zT_f2, zT_f3, zT_f4, zT_f5, zT_f6, zT_f7, zT_f8, zT_f9, zT_f10, zT_f11, zT_f12, zT_f13, zT_i1, zT_r0, zT_r1, zT_r2, zT_r3, zT_r4, zT_r5, zT_r6, zT_r7, zT_r8, zT_r9, zT_r10, zT_r11, zT_r12, zT_w0, dup_t, dup_o, va_up_self, va_up_ne, drow_t, drow_o, Option.bind_some, Bool.cond_decide, am_oI_some, am_oV_some, am_oI_ite, am_oV_ite, am_bind_ite, Int.toNat_natCast, Int.toNat_zero, Int.reduceToNat, ite_true, ite_false, not_true_eq_false, not_false_eq_true, decide_true, decide_false, decide_eq_true_eq, Bool.false_eq_true, Nat.add_zero, am_rok1_0, am_rok1_1, cond_true, cond_false, am_w_nat1, true_or, or_true, false_or, or_false, true_and, and_true, false_and, and_false, Int.reduceEq, Int.reduceNeg, Int.reduceLT, Int.reduceLE, or_self, and_self, if_pos, if_neg]
/-- a copy of the drive as it is now goes into a slot -/
theorem h_copy {j : Nat} (hlo : x + 107 ≤ lo) (w : HS lo m A HD h) (hj : j < m) : am_cV 77 [am_R (A j), am_R (x + 13)] (zv x N P K T S m A h) = some (zv x N P K T S m A (dv (A j) N h)) ∧ am_isc (zv x N P K T S m A h) (A j) 1 = some () := by
  have h2 := w.2.1 j hj
  have e1 : (zv x N P K T S m A h) = dv (A j) (HD j) (dv (x + 13) N (zv x N P K T S m A h)) := by
    rw [zv_dN, zv_dv (by omega), Is_dv h2.2.2]
  constructor
  · have c := d_copyFrom (d := A j) (e := x + 13) (D := HD j) (E := N) (h := (zv x N P K T S m A h)) (by omega)
    rw [← e1] at c
    rw [c, zv_dN, zv_dv (by omega)]
  · rw [e1]; exact dv_isc _ _ _
theorem h_prepare (hlo : x + 107 ≤ lo) (w : HS lo m A HD h) (h14 : 0 ≤ S 0 14 ∧ S 0 14 ≤ 40) (h15 : 0 ≤ S 0 15 ∧ S 0 15 ≤ 40) (hm : hslot S (S 0 15) ≤ m) : ∃ (m' : Nat) (A' : Nat → Nat) (h' : am_H), am_cV 161 [am_R (x + 87), am_R (x + 13)] (zv x N P K T S m A h) = some (zv x N P K T S m' A' h') ∧ HS lo m' A' (fun i => if i = hslot S (S 0 15) then N else HD i) h' ∧ FR lo m m' h h' ∧ hslot S (S 0 15) < m' ∧ m' ≤ m + 1 := by
  have c1 := h_slot (x := x) (N := N) (P := P) (K := K) (T := T) (S := S) (m := m) (A := A) (h := h) h14 (i := S 0 15) (by omega)
  have hs41 : hslot S (S 0 15) < 41 := by unfold hslot; omega
  generalize hslot S (S 0 15) = s at c1 hs41 hm ⊢
  have r1 := zv_rr (x := x) (N := N) (P := P) (K := K) (T := T) (S := S) (m := m) (A := A) (h := h) (j := (s : Int)) (by omega) (by omega)
  rw [Int.toNat_natCast] at r1
  by_cases e : s < m
  · rw [if_pos e] at r1
    have hc := h_copy (x := x) (N := N) (P := P) (K := K) (T := T) (S := S) hlo w e
    have h2 := w.2.1 s e
    refine ⟨m, A, dv (A s) N h, ?_, HS_put w e N, ⟨fun q hq => dv_out (by omega), ⟨by show h.2.1 = h.2.1 + 18 * (m - m); omega, by show h.2.2.1 = h.2.2.1 + 729 * (m - m); omega, rfl⟩, Nat.le_refl _⟩, e, by omega⟩
    have c2 := hc.1
    have c3 := hc.2
    rw [am_cV]; simp (disch := omega) only [en_161, bk_161_0, bk_161_26, bk_161_31, c1, r1, c2, c3, zv_c0, zv_f0_0, zv_f0_1, zv_f0_2, zv_f0_3, zv_f0_4, zv_f0_5, zv_f0_6, zv_f0_7, zv_f0_8, zv_f0_9, zv_f0_10, zv_f0_11, zv_c1, zv_f1_0, zv_f1_1, zv_c3, zv_f3_0, zv_f3_1, zv_f3_2, zv_f3_3, zv_f3_4, zv_f3_5, zv_f3_6, zv_f3_7, zv_f3_8, zv_f3_9, zv_c7, zv_f7_0, zv_f7_1, zv_f7_2, zv_f7_3, zv_c67, zv_f67_0, zv_f67_1, zv_f67_2, zv_f67_3, zv_f67_4, zv_f67_5, zv_f67_6, zv_f67_7, zv_c86, zv_f86_0, zv_c87, zv_f87_0, zv_f87_1, zv_f87_2, zv_c89, zv_f89_0, zv_c91, zv_f91_0, zv_f91_1, zv_f91_2, zv_f91_3, zv_c95, zv_f95_0, zv_f95_1, zv_f95_2, zv_f95_3, zv_c99, zv_f99_0, zv_f99_1, zv_f99_2, zv_f99_3, zv_c103, zv_f103_0, zv_f103_1, zv_f103_2, zv_f103_3, zv_r1, zv_r2, zv_r3, zv_r4, zv_r5, zv_r6, zv_r7, zv_r8, zv_r9, zv_r10, zv_r11, zv_r12, zv_r13, zv_r14, zv_r15, zv_r16, zv_r17, zv_r18, zv_r19, zv_r20, zv_r21, zv_l1, zv_l2, zv_l3, zv_l4, zv_l5, zv_l6, zv_l7, zv_l8, zv_l9, zv_l10, zv_l11, zv_l12, zv_l13, zv_l14, zv_l15, zv_l16, zv_l17, zv_l18, zv_l19, zv_l20, zv_l21, zv_p0_3, zv_p0_7, zv_p1_1, zv_w1, zv_p3_3, zv_p3_7, zv_p3_8, zv_p3_9, zv_w2, zv_w3, zv_w4, zv_p7_3, zv_w5, zv_w6, zv_w7, zv_w8, zv_p67_3, zv_p67_4, zv_p67_5, zv_p67_6, zv_p67_7, zv_p86_0, zv_p87_1, zv_p87_2, zv_p89_0, zv_w9, zv_p91_3, zv_w10, zv_w11, zv_w12, zv_p95_3, zv_w13, zv_w14, zv_w15, zv_p99_3, zv_w16, zv_w17, zv_w18, zv_p103_3, zv_w19, zv_w20, zv_w21, zN_c, zN_cL, zN_f0, zN_f1, zN_f2, zN_f3, zN_f4, zN_f5, zN_f6, zN_f7, zN_f8, zN_f9, zN_f10, zN_f11, zN_f12, zN_f13, zN_i1, zN_r0, zN_r1, zN_r2, zN_r3, zN_r4, zN_r5, zN_r6, zN_r7, zN_r8, zN_r9, zN_r10, zN_r11, zN_r12, zN_w0, zP_c, zK_c, zT_c, zT_cL, zT_f0, zT_f1, zT_f2, zT_f3, zT_f4, zT_f5, zT_f6, zT_f7, zT_f8, zT_f9, zT_f10, zT_f11, zT_f12, zT_f13, zT_i1, zT_r0, zT_r1, zT_r2, zT_r3, zT_r4, zT_r5, zT_r6, zT_r7, zT_r8, zT_r9, zT_r10, zT_r11, zT_r12, zT_w0, dup_t, dup_o, va_up_self, va_up_ne, drow_t, drow_o, Option.bind_some, Bool.cond_decide, am_oI_some, am_oV_some, am_oI_ite, am_oV_ite, am_bind_ite, Int.toNat_natCast, Int.toNat_zero, Int.reduceToNat, ite_true, ite_false, not_true_eq_false, not_false_eq_true, decide_true, decide_false, decide_eq_true_eq, Bool.false_eq_true, Nat.add_zero, am_rok1_0, am_rok1_1, cond_true, cond_false, am_w_nat1, true_or, or_true, false_or, or_false, true_and, and_true, false_and, and_false, Int.reduceEq, Int.reduceNeg, Int.reduceLT, Int.reduceLE, or_self, and_self, if_pos, if_neg]
  · rw [if_neg e] at r1
    have es : m = s := by omega
    subst es
    have hb : x + 107 ≤ h.2.1 := by have := w.2.2.2; omega
    have i1 : am_cV 4 [am_R h.2.1] (am_push (zv x N P K T S m A h) (am_ob 1 (am_dfl 1)) 14) = some (zv x N P K T S m A (dv h.2.1 Dz (grw h 18 729))) := by
      have := i_drive (zv x N P K T S m A h)
      rw [zv_grw, zv_dv (by rw [zv_n]; omega)] at this
      exact this
    have hw := HS_new w (by omega) Dz 729
    have g1 := zv_wrr (x := x) (N := N) (P := P) (K := K) (T := T) (S := S) (m := m) (A := A) (h := dv h.2.1 Dz (grw h 18 729)) (b := h.2.1) (by omega) hb (dv_0 _ _ _)
    have r2 := zv_rr (x := x) (N := N) (P := P) (K := K) (T := T) (S := S) (m := m + 1) (A := fun i => if i = m then h.2.1 else A i) (h := dv h.2.1 Dz (grw h 18 729)) (j := (m : Int)) (by omega) (by omega)
    rw [Int.toNat_natCast, if_pos (by omega)] at r2
    have hc := h_copy (x := x) (N := N) (P := P) (K := K) (T := T) (S := S) hlo hw (j := m) (by omega)
    (try dsimp only at r2)
    (try dsimp only at hc)
    rw [if_pos rfl] at r2 hc
    have c2 := hc.1
    have c3 := hc.2
    have hw2 := HS_put hw (j := m) (by omega) N
    (try dsimp only at hw2)
    rw [if_pos rfl] at hw2
    refine ⟨m + 1, fun i => if i = m then h.2.1 else A i, dv h.2.1 N (dv h.2.1 Dz (grw h 18 729)), ?_, ?_, ⟨fun q hq => ?_, ⟨?_, ?_, rfl⟩, by omega⟩, by omega, by omega⟩
    · have zn : (zv x N P K T S m A h).2.1 = h.2.1 := rfl
      rw [am_cV]; simp (disch := omega) only [en_161, bk_161_0, bk_161_26, bk_161_31, c1, r1, zn, i1, g1, r2, c2, c3, zv_c0, zv_f0_0, zv_f0_1, zv_f0_2, zv_f0_3, zv_f0_4, zv_f0_5, zv_f0_6, zv_f0_7, zv_f0_8, zv_f0_9, zv_f0_10, zv_f0_11, zv_c1, zv_f1_0, zv_f1_1, zv_c3, zv_f3_0, zv_f3_1, zv_f3_2, zv_f3_3, zv_f3_4, zv_f3_5, zv_f3_6, zv_f3_7, zv_f3_8, zv_f3_9, zv_c7, zv_f7_0, zv_f7_1, zv_f7_2, zv_f7_3, zv_c67, zv_f67_0, zv_f67_1, zv_f67_2, zv_f67_3, zv_f67_4, zv_f67_5, zv_f67_6, zv_f67_7, zv_c86, zv_f86_0, zv_c87, zv_f87_0, zv_f87_1, zv_f87_2, zv_c89, zv_f89_0, zv_c91, zv_f91_0, zv_f91_1, zv_f91_2, zv_f91_3, zv_c95, zv_f95_0, zv_f95_1, zv_f95_2, zv_f95_3, zv_c99, zv_f99_0, zv_f99_1, zv_f99_2, zv_f99_3, zv_c103, zv_f103_0, zv_f103_1, zv_f103_2, zv_f103_3, zv_r1, zv_r2, zv_r3, zv_r4, zv_r5, zv_r6, zv_r7, zv_r8, zv_r9, zv_r10, zv_r11, zv_r12, zv_r13, zv_r14, zv_r15, zv_r16, zv_r17, zv_r18, zv_r19, zv_r20, zv_r21, zv_l1, zv_l2, zv_l3, zv_l4, zv_l5, zv_l6, zv_l7, zv_l8, zv_l9, zv_l10, zv_l11, zv_l12, zv_l13, zv_l14, zv_l15, zv_l16, zv_l17, zv_l18, zv_l19, zv_l20, zv_l21, zv_p0_3, zv_p0_7, zv_p1_1, zv_w1, zv_p3_3, zv_p3_7, zv_p3_8, zv_p3_9, zv_w2, zv_w3, zv_w4, zv_p7_3, zv_w5, zv_w6, zv_w7, zv_w8, zv_p67_3, zv_p67_4, zv_p67_5, zv_p67_6, zv_p67_7, zv_p86_0, zv_p87_1, zv_p87_2, zv_p89_0, zv_w9, zv_p91_3, zv_w10, zv_w11, zv_w12, zv_p95_3, zv_w13, zv_w14, zv_w15, zv_p99_3, zv_w16, zv_w17, zv_w18, zv_p103_3, zv_w19, zv_w20, zv_w21, zN_c, zN_cL, zN_f0, zN_f1, zN_f2, zN_f3, zN_f4, zN_f5, zN_f6, zN_f7, zN_f8, zN_f9, zN_f10, zN_f11, zN_f12, zN_f13, zN_i1, zN_r0, zN_r1, zN_r2, zN_r3, zN_r4, zN_r5, zN_r6, zN_r7, zN_r8, zN_r9, zN_r10, zN_r11, zN_r12, zN_w0, zP_c, zK_c, zT_c, zT_cL, zT_f0, zT_f1, zT_f2, zT_f3, zT_f4, zT_f5, zT_f6, zT_f7, zT_f8, zT_f9, zT_f10, zT_f11, zT_f12, zT_f13, zT_i1, zT_r0, zT_r1, zT_r2, zT_r3, zT_r4, zT_r5, zT_r6, zT_r7, zT_r8, zT_r9, zT_r10, zT_r11, zT_r12, zT_w0, dup_t, dup_o, va_up_self, va_up_ne, drow_t, drow_o, Option.bind_some, Bool.cond_decide, am_oI_some, am_oV_some, am_oI_ite, am_oV_ite, am_bind_ite, Int.toNat_natCast, Int.toNat_zero, Int.reduceToNat, ite_true, ite_false, not_true_eq_false, not_false_eq_true, decide_true, decide_false, decide_eq_true_eq, Bool.false_eq_true, Nat.add_zero, am_rok1_0, am_rok1_1, cond_true, cond_false, am_w_nat1, true_or, or_true, false_or, or_false, true_and, and_true, false_and, and_false, Int.reduceEq, Int.reduceNeg, Int.reduceLT, Int.reduceLE, or_self, and_self, if_pos, if_neg]
    · have eh : (fun i => if i = m then N else (if i = m then Dz else HD i)) = (fun i => if i = m then N else HD i) := by
        funext i
        by_cases q : i = m
        · rw [if_pos q, if_pos q]
        · rw [if_neg q, if_neg q, if_neg q]
      rw [eh] at hw2
      exact hw2
    · have := w.2.2.2
      rw [dv_out (by omega), dv_out (by omega)]
      rfl
    · show h.2.1 + 18 = h.2.1 + 18 * (m + 1 - m); omega
    · show h.2.2.1 + 729 = h.2.2.1 + 729 * (m + 1 - m); omega
theorem h_takeBack (hlo : x + 107 ≤ lo) (w : HS lo m A HD h) (h14 : 0 ≤ S 0 14 ∧ S 0 14 ≤ 40) (h15 : 1 ≤ S 0 15 ∧ S 0 15 ≤ 40) (hm : hslot S (S 0 15 - 1) < m) : am_cV 209 [am_R (x + 87), am_R (x + 13)] (zv x N P K T S m A h) = some (zv x (HD (hslot S (S 0 15 - 1))) P K T (dup S 0 15 (S 0 15 - 1)) m A h) := by
  have ew : am_w (S 0 15 - 1) = S 0 15 - 1 := am_w_id (by omega) (by omega)
  have eS : hslot (dup S 0 15 (S 0 15 - 1)) (S 0 15 - 1) = hslot S (S 0 15 - 1) := by unfold hslot; rw [dup_t, va_up_ne _ _ (by omega)]
  have c1 := h_slot (x := x) (N := N) (P := P) (K := K) (T := T) (S := dup S 0 15 (S 0 15 - 1)) (m := m) (A := A) (h := h) (by rw [dup_t, va_up_ne _ _ (by omega)]; exact h14) (i := S 0 15 - 1) (by omega)
  rw [eS] at c1
  have hs41 : hslot S (S 0 15 - 1) < 41 := by unfold hslot; omega
  generalize hslot S (S 0 15 - 1) = s at c1 hs41 hm ⊢
  have r1 := zv_rr (x := x) (N := N) (P := P) (K := K) (T := T) (S := dup S 0 15 (S 0 15 - 1)) (m := m) (A := A) (h := h) (j := (s : Int)) (by omega) (by omega)
  rw [Int.toNat_natCast, if_pos hm] at r1
  have h2 := w.2.1 s hm
  have e1 : zv x N P K T (dup S 0 15 (S 0 15 - 1)) m A h = dv (x + 13) N (dv (A s) (HD s) (zv x N P K T (dup S 0 15 (S 0 15 - 1)) m A h)) := by
    rw [zv_dv (by omega), Is_dv h2.2.2, zv_dN]
  have c2 := d_copyFrom (d := x + 13) (e := A s) (D := N) (E := HD s) (h := zv x N P K T (dup S 0 15 (S 0 15 - 1)) m A h) (by omega)
  rw [← e1, zv_dv (by omega), Is_dv h2.2.2, zv_dN] at c2
  rw [am_cV]; simp (disch := omega) only [en_209, bk_209_0, bk_209_8, bk_209_32, bk_209_41, ew, c1, r1, c2, zv_c0, zv_f0_0, zv_f0_1, zv_f0_2, zv_f0_3, zv_f0_4, zv_f0_5, zv_f0_6, zv_f0_7, zv_f0_8, zv_f0_9, zv_f0_10, zv_f0_11, zv_c1, zv_f1_0, zv_f1_1, zv_c3, zv_f3_0, zv_f3_1, zv_f3_2, zv_f3_3, zv_f3_4, zv_f3_5, zv_f3_6, zv_f3_7, zv_f3_8, zv_f3_9, zv_c7, zv_f7_0, zv_f7_1, zv_f7_2, zv_f7_3, zv_c67, zv_f67_0, zv_f67_1, zv_f67_2, zv_f67_3, zv_f67_4, zv_f67_5, zv_f67_6, zv_f67_7, zv_c86, zv_f86_0, zv_c87, zv_f87_0, zv_f87_1, zv_f87_2, zv_c89, zv_f89_0, zv_c91, zv_f91_0, zv_f91_1, zv_f91_2, zv_f91_3, zv_c95, zv_f95_0, zv_f95_1, zv_f95_2, zv_f95_3, zv_c99, zv_f99_0, zv_f99_1, zv_f99_2, zv_f99_3, zv_c103, zv_f103_0, zv_f103_1, zv_f103_2, zv_f103_3, zv_r1, zv_r2, zv_r3, zv_r4, zv_r5, zv_r6, zv_r7, zv_r8, zv_r9, zv_r10, zv_r11, zv_r12, zv_r13, zv_r14, zv_r15, zv_r16, zv_r17, zv_r18, zv_r19, zv_r20, zv_r21, zv_l1, zv_l2, zv_l3, zv_l4, zv_l5, zv_l6, zv_l7, zv_l8, zv_l9, zv_l10, zv_l11, zv_l12, zv_l13, zv_l14, zv_l15, zv_l16, zv_l17, zv_l18, zv_l19, zv_l20, zv_l21, zv_p0_3, zv_p0_7, zv_p1_1, zv_w1, zv_p3_3, zv_p3_7, zv_p3_8, zv_p3_9, zv_w2, zv_w3, zv_w4, zv_p7_3, zv_w5, zv_w6, zv_w7, zv_w8, zv_p67_3, zv_p67_4, zv_p67_5, zv_p67_6, zv_p67_7, zv_p86_0, zv_p87_1, zv_p87_2, zv_p89_0, zv_w9, zv_p91_3, zv_w10, zv_w11, zv_w12, zv_p95_3, zv_w13, zv_w14, zv_w15, zv_p99_3, zv_w16, zv_w17, zv_w18, zv_p103_3, zv_w19, zv_w20, zv_w21, zN_c, zN_cL, zN_f0, zN_f1, zN_f2, zN_f3, zN_f4, zN_f5, zN_f6, zN_f7, zN_f8, zN_f9, zN_f10, zN_f11, zN_f12, zN_f13, zN_i1, zN_r0, zN_r1, zN_r2, zN_r3, zN_r4, zN_r5, zN_r6, zN_r7, zN_r8, zN_r9, zN_r10, zN_r11, zN_r12, zN_w0, zP_c, zK_c, zT_c, zT_cL, zT_f0, zT_f1, zT_f2, zT_f3, zT_f4, zT_f5, zT_f6, zT_f7, zT_f8, zT_f9, zT_f10, zT_f11, zT_f12, zT_f13, zT_i1, zT_r0, zT_r1, zT_r2, zT_r3, zT_r4, zT_r5, zT_r6, zT_r7, zT_r8, zT_r9, zT_r10, zT_r11, zT_r12, zT_w0, dup_t, dup_o, va_up_self, va_up_ne, drow_t, drow_o, Option.bind_some, Bool.cond_decide, am_oI_some, am_oV_some, am_oI_ite, am_oV_ite, am_bind_ite, Int.toNat_natCast, Int.toNat_zero, Int.reduceToNat, ite_true, ite_false, not_true_eq_false, not_false_eq_true, decide_true, decide_false, decide_eq_true_eq, Bool.false_eq_true, Nat.add_zero, am_rok1_0, am_rok1_1, cond_true, cond_false, am_w_nat1, true_or, or_true, false_or, or_false, true_and, and_true, false_and, and_false, Int.reduceEq, Int.reduceNeg, Int.reduceLT, Int.reduceLE, or_self, and_self, if_pos, if_neg]
end HIS
