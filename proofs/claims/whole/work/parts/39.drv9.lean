/-! ===== two drives: one beside the other ===== -/
section DVO
variable {d : Nat} {D : Nat → Nat → Int} {h : am_H} {a : Nat}
theorem dvo_gfR (c k : Nat) (ha : a < d ∨ d + 18 ≤ a) : am_gfR (dv d D h) a c k = am_gfR h a c k := by unfold am_gfR; rw [dv_out ha]
theorem dvo_gfI (c k : Nat) (ha : a < d ∨ d + 18 ≤ a) : am_gfI (dv d D h) a c k = am_gfI h a c k := by unfold am_gfI; rw [dv_out ha]
theorem dvo_rd (t : Nat) (j : Int) (ha : a < d ∨ d + 18 ≤ a) : am_rd (dv d D h) a t j = am_rd h a t j := by unfold am_rd; rw [dv_out ha]
theorem dvo_isc (c : Nat) (ha : a < d ∨ d + 18 ≤ a) : am_isc (dv d D h) a c = am_isc h a c := by unfold am_isc; rw [dv_out ha]
theorem dvo_len (ha : a < d ∨ d + 18 ≤ a) : am_len (dv d D h) a = am_len h a := by unfold am_len; rw [dv_out ha]
end DVO
section DRVA
variable {d e : Nat} {D E : Nat → Nat → Int} {h : am_H}
theorem l_copyFrom (hde : d + 18 ≤ e ∨ e + 18 ≤ d) : am_cV 76 [am_R (d + 14), am_R (e + 14)] (dv d D (dv e E h)) = some (dv d (dup (dup (drow (drow (drow D 13 (E 13)) 14 (E 14)) 15 (E 15)) 16 0 (E 16 0)) 16 1 (E 16 1)) (dv e E h)) := by
  rw [am_cV]; simp (disch := omega) only [en_76, bk_76_0, bk_76_25, bk_76_53, dv_c0, dv_c1, dv_c2, dv_c3, dv_c4, dv_c5, dv_c6, dv_c7, dv_c8, dv_c9, dv_c10, dv_c11, dv_c12, dv_c13, dv_c14, dv_c15, dv_f0, dv_f1, dv_f2, dv_f3, dv_f4, dv_f5, dv_f6, dv_f7, dv_f8, dv_f9, dv_f10, dv_f11, dv_f12, dv_f13, dv_g0, dv_g1, dv_g2, dv_i0, dv_i1, dv_p0, dv_p1, dv_isc, dv_iscL, dv_r0, dv_r1, dv_r2, dv_r3, dv_r4, dv_r5, dv_r6, dv_r7, dv_r8, dv_r9, dv_r10, dv_r11, dv_r12, dv_r13, dv_r14, dv_r15, dv_w0, dv_w1, dv_w2, dv_w3, dv_w4, dv_w5, dv_w6, dv_w7, dv_w8, dv_w9, dv_w10, dv_w11, dv_w12, dv_w13, dv_w14, dv_w15, dvo_gfR, dvo_gfI, dvo_rd, dvo_isc, dvo_len, dup_t, dup_o, va_up_self, va_up_ne, drow_t, drow_o, Option.bind_some, Bool.cond_decide, am_oI_some, am_oV_some, am_oI_ite, am_oV_ite, am_bind_ite, Int.toNat_natCast, Int.toNat_zero, Int.reduceToNat, ite_true, ite_false, not_true_eq_false, not_false_eq_true, decide_true, decide_false, decide_eq_true_eq, Bool.false_eq_true, Nat.add_zero, am_rok1_0, am_rok1_1, cond_true, cond_false, am_w_nat1, true_or, or_true, false_or, or_false, true_and, and_true, false_and, and_false, Int.reduceEq, Int.reduceNeg, Int.reduceLT, Int.reduceLE, or_self, and_self, if_pos, if_neg]
theorem d_copyFrom (hde : d + 18 ≤ e ∨ e + 18 ≤ d) : am_cV 77 [am_R d, am_R e] (dv d D (dv e E h)) = some (dv d E (dv e E h)) := by
  have c1 := fun D => l_copyFrom (D := D) (E := E) (h := h) hde
  rw [am_cV]; simp (disch := omega) only [en_77, bk_77_0, bk_77_25, bk_77_51, bk_77_79, bk_77_104, bk_77_130, bk_77_158, bk_77_186, dv_c0, dv_c1, dv_c2, dv_c3, dv_c4, dv_c5, dv_c6, dv_c7, dv_c8, dv_c9, dv_c10, dv_c11, dv_c12, dv_c13, dv_c14, dv_c15, c1, dv_f0, dv_f1, dv_f2, dv_f3, dv_f4, dv_f5, dv_f6, dv_f7, dv_f8, dv_f9, dv_f10, dv_f11, dv_f12, dv_f13, dv_g0, dv_g1, dv_g2, dv_i0, dv_i1, dv_p0, dv_p1, dv_isc, dv_iscL, dv_r0, dv_r1, dv_r2, dv_r3, dv_r4, dv_r5, dv_r6, dv_r7, dv_r8, dv_r9, dv_r10, dv_r11, dv_r12, dv_r13, dv_r14, dv_r15, dv_w0, dv_w1, dv_w2, dv_w3, dv_w4, dv_w5, dv_w6, dv_w7, dv_w8, dv_w9, dv_w10, dv_w11, dv_w12, dv_w13, dv_w14, dv_w15, dvo_gfR, dvo_gfI, dvo_rd, dvo_isc, dvo_len, dup_t, dup_o, va_up_self, va_up_ne, drow_t, drow_o, Option.bind_some, Bool.cond_decide, am_oI_some, am_oV_some, am_oI_ite, am_oV_ite, am_bind_ite, Int.toNat_natCast, Int.toNat_zero, Int.reduceToNat, ite_true, ite_false, not_true_eq_false, not_false_eq_true, decide_true, decide_false, decide_eq_true_eq, Bool.false_eq_true, Nat.add_zero, am_rok1_0, am_rok1_1, cond_true, cond_false, am_w_nat1, true_or, or_true, false_or, or_false, true_and, and_true, false_and, and_false, Int.reduceEq, Int.reduceNeg, Int.reduceLT, Int.reduceLE, or_self, and_self, if_pos, if_neg]
  rfl
end DRVA
/-! ===== a write ===== -/
/-- one cleaning -/
def w_cl (D : Nat → Nat → Int) (Z : Nat) : Nat → Nat → Int := o_ec (mvs D Z (cd_zc D Z (D 0 6)).toNat 16 16).1 (cd_zc D Z (D 0 6)).toNat
/-- it must be cleaned ahead of a write -/
def w_must (D : Nat → Nat → Int) (Z s : Nat) : Bool := decide (cd_lz D s = true ∧ (cd_many D Z 0 : Int) ≤ D 0 5)
/-- it can't be cleaned -/
def w_bad (D : Nat → Nat → Int) (Z : Nat) : Bool := decide (cd_zc D Z (D 0 6) = -1 ∨ cd_room D Z < (cd_nl D (cd_zc D Z (D 0 6)).toNat : Int))
/-- after so many cleanings -/
def w_it (D : Nat → Nat → Int) (Z : Nat) : Nat → Nat → Nat → Int
  | 0 => D
  | n + 1 => w_cl (w_it D Z n) Z
theorem cd_zc_le (D : Nat → Nat → Int) (Z : Nat) (p : Int) : -1 ≤ cd_zc D Z p ∧ cd_zc D Z p < Z := bst_le _ _ _
/-- a drive that is one -/
def DR (D : Nat → Nat → Int) (Z : Nat) : Prop := DI D Z ∧ 0 < Z ∧ 0 < D 0 4 ∧ 0 < D 0 1
theorem w_cl_DR {D : Nat → Nat → Int} {Z : Nat} (w : DR D Z) : DR (w_cl D Z) Z ∧ w_cl D Z 0 = D 0 := by
  obtain ⟨w1, w2, w3, w4⟩ := w
  have hZ8 := w1.1.2.1
  have hb := cd_zc_le D Z (D 0 6)
  have I := mvs_I w1 (z := (cd_zc D Z (D 0 6)).toNat) (by omega) 16 16
  have e0 : w_cl D Z 0 = D 0 := by
    unfold w_cl
    rw [o_ec_0]
    exact I.2.1
  refine ⟨⟨?_, w2, ?_, ?_⟩, e0⟩
  · unfold w_cl
    exact o_ec_DI I.1 (by rw [I.2.1]; exact w4)
  · rw [e0]; exact w3
  · rw [e0]; exact w4
theorem w_it_DR {D : Nat → Nat → Int} {Z : Nat} (w : DR D Z) : ∀ n, DR (w_it D Z n) Z ∧ w_it D Z n 0 = D 0 := by
  intro n
  induction n with
  | zero => exact ⟨w, rfl⟩
  | succ n ih =>
    have := w_cl_DR ih.1
    exact ⟨this.1, this.2.trans ih.2⟩
/-- how a write ends: after k cleanings it goes on, or can't -/
def w_end (D : Nat → Nat → Int) (Z s k : Nat) : Prop := k < 1000 ∧ (∀ j, j < k → w_must (w_it D Z j) Z s = true ∧ w_bad (w_it D Z j) Z = false) ∧ (w_must (w_it D Z k) Z s = false ∨ w_bad (w_it D Z k) Z = true)
/-- the drive after a write that goes on with s -/
def w_res (D : Nat → Nat → Int) (Z s k : Nat) (key val : Int) : Nat → Nat → Int := if w_must (w_it D Z k) Z s = true then D else o_at (dup (w_it D Z k) 1 4 (am_w (w_it D Z k 1 4 + 1))) Z s key val (am_w (w_it D Z k 1 4 + 1)) 0
def w_val (D : Nat → Nat → Int) (Z s k : Nat) : Int := if w_must (w_it D Z k) Z s = true then -4 else v_at (dup (w_it D Z k) 1 4 (am_w (w_it D Z k 1 4 + 1))) Z s
section DRVB
variable {d e : Nat} {D E : Nat → Nat → Int} {h : am_H} {Z : Nat}
theorem d_zc_room (w : DR D Z) : am_cI 84 [am_R d] (dv d D h) = some (cd_zc D Z (D 0 6), dv d D h) ∧ (¬ cd_zc D Z (D 0 6) = -1 → am_cI 85 [am_R d, am_I (cd_zc D Z (D 0 6))] (dv d D h) = some (if w_bad D Z = true then 0 else 1, dv d D h)) := by
  have hZ8 := w.1.1.2.1
  have hb := cd_zc_le D Z (D 0 6)
  refine ⟨d_zoneToClean w.1.1, ?_⟩
  intro e
  have c := d_hasRoomFor (d := d) (h := h) w.1.1 w.2.2.1 (z := (cd_zc D Z (D 0 6)).toNat) (by omega)
  rw [show (((cd_zc D Z (D 0 6)).toNat : Nat) : Int) = cd_zc D Z (D 0 6) by omega] at c
  rw [c]
  unfold w_bad
  congr 2
  by_cases q : (cd_nl D (cd_zc D Z (D 0 6)).toNat : Int) ≤ cd_room D Z
  · rw [if_pos q, if_neg (by rw [decide_eq_true_eq]; omega)]
  · rw [if_neg q, if_pos (by rw [decide_eq_true_eq]; omega)]
theorem d_write_loop (hde : d + 18 ≤ e ∨ e + 18 ≤ d) (w : DR D Z) {s k : Nat} (hs : (s : Int) < D 0 4) (hk : w_end D Z s k) {key : Int} (hkey : 0 ≤ key ∧ key < 32) (val : Int) (v : am_V) :
    am_oI (am_run am_ms 102 37 [am_R d, am_I key, am_I val, am_R e, am_I s, am_I 0, v] [] (dv d D (dv e E h))) = some (w_val D Z s k, dv d (w_res D Z s k key val) (dv e (if w_must D Z s = true then D else E) h)) := by
  have I := fun n => w_it_DR w n
  obtain ⟨k1, k2, k3⟩ := hk
  have cm : ∀ n h', am_cI 75 [am_R d, am_I s] (dv d (w_it D Z n) h') = some (if w_must (w_it D Z n) Z s = true then 1 else 0, dv d (w_it D Z n) h') := by
    intro n h'
    have := d_mustClean (d := d) (h := h') (I n).1.1.1 (s := s) (by rw [(I n).2]; exact hs)
    rw [this]
    unfold w_must
    simp only [decide_eq_true_eq]
  have cc : ∀ h', am_cV 77 [am_R e, am_R d] (dv d D (dv e E h')) = some (dv d D (dv e D h')) := by
    intro h'
    rw [dv_comm hde, d_copyFrom (by omega), dv_comm hde]
  -- from 64 on, a cleaning
  have go : ∀ n (v : am_V) (h' : am_H), n < 1000 → w_bad (w_it D Z n) Z = false → am_run am_ms 102 64 [am_R d, am_I key, am_I val, am_R e, am_I s, am_I n, v] [] (dv d (w_it D Z n) h') = am_run am_ms 102 37 [am_R d, am_I key, am_I val, am_R e, am_I s, am_I ((n + 1 : Nat) : Int), am_I (cd_zc (w_it D Z n) Z (w_it D Z n 0 6))] [] (dv d (w_it D Z (n + 1)) h') := by
    intro n v h' hn hb
    have wn := (I n).1
    show _ = am_run am_ms 102 37 _ [] (dv d (w_cl (w_it D Z n) Z) h')
    generalize w_it D Z n = F at wn hb ⊢
    have c1 := d_zc_room (d := d) (h := h') wn
    have hbz := cd_zc_le F Z (F 0 6)
    have hne : ¬ cd_zc F Z (F 0 6) = -1 := by
      have := of_decide_eq_false (hb : decide _ = false)
      omega
    have c2 := c1.2 hne
    rw [hb] at c2
    have c1' := c1.1
    have hZ8 := wn.1.1.2.1
    unfold w_cl
    obtain ⟨q, hq⟩ : ∃ q : Nat, cd_zc F Z (F 0 6) = q := ⟨(cd_zc F Z (F 0 6)).toNat, by omega⟩
    rw [hq] at c1' c2
    rw [hq, Int.toNat_natCast]
    have c3 := d_moveLive (d := d) (h := h') wn.1 wn.2.2.1 (z := q) (by omega) 16
    have M := mvs_I wn.1 (z := q) (by omega) 16 16
    have c4 := d_endCleaning (d := d) (h := h') M.1 (by rw [M.2.1]; exact wn.2.2.2) (z := q) (by omega)
    simp (disch := omega) only [bk_102_64, bk_102_93, c1', c2, c3, c4, dv_f0, dv_f1, dv_f2, dv_f3, dv_f4, dv_f5, dv_f6, dv_f7, dv_f8, dv_f9, dv_f10, dv_f11, dv_f12, dv_f13, dv_g0, dv_g1, dv_g2, dv_i0, dv_i1, dv_p0, dv_p1, dv_isc, dv_iscL, dv_r0, dv_r1, dv_r2, dv_r3, dv_r4, dv_r5, dv_r6, dv_r7, dv_r8, dv_r9, dv_r10, dv_r11, dv_r12, dv_r13, dv_r14, dv_r15, dv_w0, dv_w1, dv_w2, dv_w3, dv_w4, dv_w5, dv_w6, dv_w7, dv_w8, dv_w9, dv_w10, dv_w11, dv_w12, dv_w13, dv_w14, dv_w15, dvo_gfR, dvo_gfI, dvo_rd, dvo_isc, dvo_len, dup_t, dup_o, va_up_self, va_up_ne, drow_t, drow_o, Option.bind_some, Bool.cond_decide, am_oI_some, am_oV_some, am_oI_ite, am_oV_ite, am_bind_ite, Int.toNat_natCast, Int.toNat_zero, Int.reduceToNat, ite_true, ite_false, not_true_eq_false, not_false_eq_true, decide_true, decide_false, decide_eq_true_eq, Bool.false_eq_true, Nat.add_zero, am_rok1_0, am_rok1_1, cond_true, cond_false, am_w_nat1, true_or, or_true, false_or, or_false, true_and, and_true, false_and, and_false, Int.reduceEq, Int.reduceNeg, Int.reduceLT, Int.reduceLE, or_self, and_self, if_pos, if_neg]
  have bad : ∀ n (v : am_V), n < 1000 → w_bad (w_it D Z n) Z = true → am_oI (am_run am_ms 102 64 [am_R d, am_I key, am_I val, am_R e, am_I s, am_I n, v] [] (dv d (w_it D Z n) (dv e D h))) = some (-4, dv d D (dv e D h)) := by
    intro n v hn hb
    have wn := (I n).1
    generalize w_it D Z n = F at wn hb ⊢
    have c1 := d_zc_room (d := d) (h := dv e D h) wn
    have c1' := c1.1
    have cf := d_copyFrom (d := d) (e := e) (D := F) (E := D) (h := h) hde
    by_cases hne : cd_zc F Z (F 0 6) = -1
    · rw [hne] at c1'
      simp (disch := omega) only [bk_102_64, bk_102_85, c1', cf, dv_f0, dv_f1, dv_f2, dv_f3, dv_f4, dv_f5, dv_f6, dv_f7, dv_f8, dv_f9, dv_f10, dv_f11, dv_f12, dv_f13, dv_g0, dv_g1, dv_g2, dv_i0, dv_i1, dv_p0, dv_p1, dv_isc, dv_iscL, dv_r0, dv_r1, dv_r2, dv_r3, dv_r4, dv_r5, dv_r6, dv_r7, dv_r8, dv_r9, dv_r10, dv_r11, dv_r12, dv_r13, dv_r14, dv_r15, dv_w0, dv_w1, dv_w2, dv_w3, dv_w4, dv_w5, dv_w6, dv_w7, dv_w8, dv_w9, dv_w10, dv_w11, dv_w12, dv_w13, dv_w14, dv_w15, dvo_gfR, dvo_gfI, dvo_rd, dvo_isc, dvo_len, dup_t, dup_o, va_up_self, va_up_ne, drow_t, drow_o, Option.bind_some, Bool.cond_decide, am_oI_some, am_oV_some, am_oI_ite, am_oV_ite, am_bind_ite, Int.toNat_natCast, Int.toNat_zero, Int.reduceToNat, ite_true, ite_false, not_true_eq_false, not_false_eq_true, decide_true, decide_false, decide_eq_true_eq, Bool.false_eq_true, Nat.add_zero, am_rok1_0, am_rok1_1, cond_true, cond_false, am_w_nat1, true_or, or_true, false_or, or_false, true_and, and_true, false_and, and_false, Int.reduceEq, Int.reduceNeg, Int.reduceLT, Int.reduceLE, or_self, and_self, if_pos, if_neg]
    · have c2 := c1.2 hne
      rw [hb] at c2
      simp (disch := omega) only [bk_102_64, bk_102_85, c1', c2, cf, hne, dv_f0, dv_f1, dv_f2, dv_f3, dv_f4, dv_f5, dv_f6, dv_f7, dv_f8, dv_f9, dv_f10, dv_f11, dv_f12, dv_f13, dv_g0, dv_g1, dv_g2, dv_i0, dv_i1, dv_p0, dv_p1, dv_isc, dv_iscL, dv_r0, dv_r1, dv_r2, dv_r3, dv_r4, dv_r5, dv_r6, dv_r7, dv_r8, dv_r9, dv_r10, dv_r11, dv_r12, dv_r13, dv_r14, dv_r15, dv_w0, dv_w1, dv_w2, dv_w3, dv_w4, dv_w5, dv_w6, dv_w7, dv_w8, dv_w9, dv_w10, dv_w11, dv_w12, dv_w13, dv_w14, dv_w15, dvo_gfR, dvo_gfI, dvo_rd, dvo_isc, dvo_len, dup_t, dup_o, va_up_self, va_up_ne, drow_t, drow_o, Option.bind_some, Bool.cond_decide, am_oI_some, am_oV_some, am_oI_ite, am_oV_ite, am_bind_ite, Int.toNat_natCast, Int.toNat_zero, Int.reduceToNat, ite_true, ite_false, not_true_eq_false, not_false_eq_true, decide_true, decide_false, decide_eq_true_eq, Bool.false_eq_true, Nat.add_zero, am_rok1_0, am_rok1_1, cond_true, cond_false, am_w_nat1, true_or, or_true, false_or, or_false, true_and, and_true, false_and, and_false, Int.reduceEq, Int.reduceNeg, Int.reduceLT, Int.reduceLE, or_self, and_self, if_pos, if_neg]
  -- the rest, behind the cleanings
  have fin : ∀ n (v : am_V) (h' : am_H), n < 1000 → w_must (w_it D Z n) Z s = false → am_oI (am_run am_ms 102 37 [am_R d, am_I key, am_I val, am_R e, am_I s, am_I n, v] [] (dv d (w_it D Z n) h')) = some (v_at (dup (w_it D Z n) 1 4 (am_w (w_it D Z n 1 4 + 1))) Z s, dv d (o_at (dup (w_it D Z n) 1 4 (am_w (w_it D Z n 1 4 + 1))) Z s key val (am_w (w_it D Z n 1 4 + 1)) 0) h') := by
    intro n v h' hn hm
    have wn := (I n).1
    have w0 := (I n).2
    have c0 := cm n h'
    rw [hm] at c0
    generalize w_it D Z n = F at wn w0 c0 ⊢
    have c1 : am_cI 98 [am_R d, am_I s, am_I key, am_I val, am_I (am_w (F 1 4 + 1)), am_I 0] (dv d (dup F 1 4 (am_w (F 1 4 + 1))) h') = some (v_at (dup F 1 4 (am_w (F 1 4 + 1))) Z s, dv d (o_at (dup F 1 4 (am_w (F 1 4 + 1))) Z s key val (am_w (F 1 4 + 1)) 0) h') := d_appendTo (sort := 0) (dup_DI wn.1 1 4 _ (by omega)) (by rw [dup_o _ _ _ (by omega), w0]; exact hs) hkey _ _ (by omega)
    rw [bk_102_37]
    simp (disch := omega) only [bk_102_114, bk_102_133, c0, c1, dv_f0, dv_f1, dv_f2, dv_f3, dv_f4, dv_f5, dv_f6, dv_f7, dv_f8, dv_f9, dv_f10, dv_f11, dv_f12, dv_f13, dv_g0, dv_g1, dv_g2, dv_i0, dv_i1, dv_p0, dv_p1, dv_isc, dv_iscL, dv_r0, dv_r1, dv_r2, dv_r3, dv_r4, dv_r5, dv_r6, dv_r7, dv_r8, dv_r9, dv_r10, dv_r11, dv_r12, dv_r13, dv_r14, dv_r15, dv_w0, dv_w1, dv_w2, dv_w3, dv_w4, dv_w5, dv_w6, dv_w7, dv_w8, dv_w9, dv_w10, dv_w11, dv_w12, dv_w13, dv_w14, dv_w15, dvo_gfR, dvo_gfI, dvo_rd, dvo_isc, dvo_len, dup_t, dup_o, va_up_self, va_up_ne, drow_t, drow_o, Option.bind_some, Bool.cond_decide, am_oI_some, am_oV_some, am_oI_ite, am_oV_ite, am_bind_ite, Int.toNat_natCast, Int.toNat_zero, Int.reduceToNat, ite_true, ite_false, not_true_eq_false, not_false_eq_true, decide_true, decide_false, decide_eq_true_eq, Bool.false_eq_true, Nat.add_zero, am_rok1_0, am_rok1_1, cond_true, cond_false, am_w_nat1, true_or, or_true, false_or, or_false, true_and, and_true, false_and, and_false, Int.reduceEq, Int.reduceNeg, Int.reduceLT, Int.reduceLE, or_self, and_self, if_pos, if_neg]
  cases hm0 : w_must D Z s with
  | false =>
    have hk0 : k = 0 := by
      rcases Nat.eq_zero_or_pos k with q | q
      · exact q
      · have := (k2 0 q).1
        rw [show w_it D Z 0 = D from rfl, hm0] at this
        exact absurd this (by decide)
    subst hk0
    unfold w_val w_res
    rw [show w_it D Z 0 = D from rfl, hm0]
    exact fin 0 v (dv e E h) (by omega) hm0
  | true =>
    -- the first round copies
    have first : ∀ v : am_V, am_run am_ms 102 37 [am_R d, am_I key, am_I val, am_R e, am_I s, am_I 0, v] [] (dv d D (dv e E h)) = am_run am_ms 102 64 [am_R d, am_I key, am_I val, am_R e, am_I s, am_I 0, v] [] (dv d D (dv e D h)) := by
      intro v
      have c0 := cm 0 (dv e E h)
      rw [show w_it D Z 0 = D from rfl, hm0] at c0
      have c1 := cc h
      rw [bk_102_37]
      simp (disch := omega) only [c0, c1, dv_f0, dv_f1, dv_f2, dv_f3, dv_f4, dv_f5, dv_f6, dv_f7, dv_f8, dv_f9, dv_f10, dv_f11, dv_f12, dv_f13, dv_g0, dv_g1, dv_g2, dv_i0, dv_i1, dv_p0, dv_p1, dv_isc, dv_iscL, dv_r0, dv_r1, dv_r2, dv_r3, dv_r4, dv_r5, dv_r6, dv_r7, dv_r8, dv_r9, dv_r10, dv_r11, dv_r12, dv_r13, dv_r14, dv_r15, dv_w0, dv_w1, dv_w2, dv_w3, dv_w4, dv_w5, dv_w6, dv_w7, dv_w8, dv_w9, dv_w10, dv_w11, dv_w12, dv_w13, dv_w14, dv_w15, dvo_gfR, dvo_gfI, dvo_rd, dvo_isc, dvo_len, dup_t, dup_o, va_up_self, va_up_ne, drow_t, drow_o, Option.bind_some, Bool.cond_decide, am_oI_some, am_oV_some, am_oI_ite, am_oV_ite, am_bind_ite, Int.toNat_natCast, Int.toNat_zero, Int.reduceToNat, ite_true, ite_false, not_true_eq_false, not_false_eq_true, decide_true, decide_false, decide_eq_true_eq, Bool.false_eq_true, Nat.add_zero, am_rok1_0, am_rok1_1, cond_true, cond_false, am_w_nat1, true_or, or_true, false_or, or_false, true_and, and_true, false_and, and_false, Int.reduceEq, Int.reduceNeg, Int.reduceLT, Int.reduceLE, or_self, and_self, if_pos, if_neg]
    have later : ∀ n (v : am_V), 0 < n → n < 1000 → w_must (w_it D Z n) Z s = true → am_run am_ms 102 37 [am_R d, am_I key, am_I val, am_R e, am_I s, am_I n, v] [] (dv d (w_it D Z n) (dv e D h)) = am_run am_ms 102 64 [am_R d, am_I key, am_I val, am_R e, am_I s, am_I n, v] [] (dv d (w_it D Z n) (dv e D h)) := by
      intro n v h0 hn hm
      have c0 := cm n (dv e D h)
      rw [hm] at c0
      rw [bk_102_37]
      simp (disch := omega) only [c0, dv_f0, dv_f1, dv_f2, dv_f3, dv_f4, dv_f5, dv_f6, dv_f7, dv_f8, dv_f9, dv_f10, dv_f11, dv_f12, dv_f13, dv_g0, dv_g1, dv_g2, dv_i0, dv_i1, dv_p0, dv_p1, dv_isc, dv_iscL, dv_r0, dv_r1, dv_r2, dv_r3, dv_r4, dv_r5, dv_r6, dv_r7, dv_r8, dv_r9, dv_r10, dv_r11, dv_r12, dv_r13, dv_r14, dv_r15, dv_w0, dv_w1, dv_w2, dv_w3, dv_w4, dv_w5, dv_w6, dv_w7, dv_w8, dv_w9, dv_w10, dv_w11, dv_w12, dv_w13, dv_w14, dv_w15, dvo_gfR, dvo_gfI, dvo_rd, dvo_isc, dvo_len, dup_t, dup_o, va_up_self, va_up_ne, drow_t, drow_o, Option.bind_some, Bool.cond_decide, am_oI_some, am_oV_some, am_oI_ite, am_oV_ite, am_bind_ite, Int.toNat_natCast, Int.toNat_zero, Int.reduceToNat, ite_true, ite_false, not_true_eq_false, not_false_eq_true, decide_true, decide_false, decide_eq_true_eq, Bool.false_eq_true, Nat.add_zero, am_rok1_0, am_rok1_1, cond_true, cond_false, am_w_nat1, true_or, or_true, false_or, or_false, true_and, and_true, false_and, and_false, Int.reduceEq, Int.reduceNeg, Int.reduceLT, Int.reduceLE, or_self, and_self, if_pos, if_neg]
    have run : ∀ n, n ≤ k → ∃ v', am_run am_ms 102 64 [am_R d, am_I key, am_I val, am_R e, am_I s, am_I 0, v] [] (dv d D (dv e D h)) = if n = 0 then am_run am_ms 102 64 [am_R d, am_I key, am_I val, am_R e, am_I s, am_I 0, v] [] (dv d D (dv e D h)) else am_run am_ms 102 37 [am_R d, am_I key, am_I val, am_R e, am_I s, am_I n, v'] [] (dv d (w_it D Z n) (dv e D h)) := by
      intro n
      induction n with
      | zero => intro _; exact ⟨v, (if_pos rfl).symm⟩
      | succ n ih =>
        intro hn
        obtain ⟨v1, e1⟩ := ih (by omega)
        have kn := k2 n (by omega)
        by_cases hn0 : n = 0
        · subst hn0
          refine ⟨am_I (cd_zc (w_it D Z 0) Z (w_it D Z 0 0 6)), ?_⟩
          rw [if_neg (by omega)]
          exact go 0 v (dv e D h) (by omega) kn.2
        · rw [if_neg hn0] at e1
          refine ⟨am_I (cd_zc (w_it D Z n) Z (w_it D Z n 0 6)), ?_⟩
          rw [if_neg (by omega), e1, later n v1 (by omega) (by omega) kn.1]
          exact go n v1 (dv e D h) (by omega) kn.2
    obtain ⟨v', e1⟩ := run k (Nat.le_refl k)
    rw [first v, e1]
    unfold w_val w_res
    by_cases hk0 : k = 0
    · subst hk0
      rw [if_pos rfl]
      have hb : w_bad D Z = true := by
        rcases k3 with q | q
        · rw [show w_it D Z 0 = D from rfl, hm0] at q
          exact absurd q (by decide)
        · exact q
      rw [show w_it D Z 0 = D from rfl, hm0]
      exact bad 0 v (by omega) hb
    · rw [if_neg hk0]
      cases hmk : w_must (w_it D Z k) Z s with
      | false => exact fin k v' (dv e D h) k1 hmk
      | true =>
        have hb : w_bad (w_it D Z k) Z = true := by
          rcases k3 with q | q
          · rw [hmk] at q
            exact absurd q (by decide)
          · exact q
        rw [later k v' (by omega) k1 hmk]
        exact bad k v' k1 hb
end DRVB
