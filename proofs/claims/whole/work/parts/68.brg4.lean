/-! ===== BRIDGE (4): appending ===== -/
section ROWS
variable (D : Nat → Nat → Int) (z : Nat) (key val num : Int)
theorem ap3_o {r : Nat} (h : r = 0 ∨ r = 4 ∨ r = 6 ∨ 10 ≤ r) : o_ap3 D z key val num r = D r := by rw [o_ap3_o _ _ _ _ _ (by omega), o_ap2_o _ _ _ _ _ (by omega), o_ap1_o _ _ _ _ _ (by omega)]
theorem ap3_2 : o_ap3 D z key val num 2 = if D 3 z + 1 < D 0 1 then D 2 else va_up (D 2) z 3 := by
  rw [o_ap3_o _ _ _ _ _ (by omega)]
  unfold o_ap2
  split
  · rw [o_ap1_o _ _ _ _ _ (by omega)]
  · rw [dup_t, o_ap1_o _ _ _ _ _ (by omega)]
theorem ap3_3 : o_ap3 D z key val num 3 = va_up (D 3) z (D 3 z + 1) := by rw [o_ap3_o _ _ _ _ _ (by omega), o_ap2_o _ _ _ _ _ (by omega), o_ap1_3]
theorem ap3_7 : o_ap3 D z key val num 7 = va_up (D 7) (16 * z + (D 3 z).toNat) key := by rw [o_ap3_o _ _ _ _ _ (by omega), o_ap2_o _ _ _ _ _ (by omega), o_ap1_7]
theorem ap3_8 : o_ap3 D z key val num 8 = va_up (D 8) (16 * z + (D 3 z).toNat) val := by
  rw [o_ap3_o _ _ _ _ _ (by omega), o_ap2_o _ _ _ _ _ (by omega)]
  unfold o_ap1
  rw [dup_o _ _ _ (by omega), dup_o _ _ _ (by omega), dup_t, dup_o _ _ _ (by omega)]
theorem ap3_9 : o_ap3 D z key val num 9 = va_up (D 9) (16 * z + (D 3 z).toNat) num := by
  rw [o_ap3_o _ _ _ _ _ (by omega), o_ap2_o _ _ _ _ _ (by omega)]
  unfold o_ap1
  rw [dup_o _ _ _ (by omega), dup_t, dup_o _ _ _ (by omega), dup_o _ _ _ (by omega)]
theorem ap3_1 : o_ap3 D z key val num 1 = va_up (D 1) 5 (am_w (D 1 5 + 1)) := by
  unfold o_ap3
  rw [dup_o _ _ _ (by omega), dup_t, o_ap2_o _ _ _ _ _ (by omega), o_ap1_o _ _ _ _ _ (by omega)]
theorem ap3_5 : o_ap3 D z key val num 5 = va_up (D 5) z (am_w (D 1 5 + 1)) := by
  unfold o_ap3
  rw [dup_t, dup_o _ _ _ (by omega), o_ap2_o _ _ _ _ _ (by omega), o_ap1_o _ _ _ _ _ (by omega)]
theorem o_ap_lo (sort : Nat) {r : Nat} (hr : r < 10) (h1 : r ≠ 1) : o_ap D z key val num sort r = o_ap3 D z key val num r := by
  unfold o_ap o_ap4
  rw [lga_o _ _ _ _ (by omega), dup_o _ _ _ h1, ln_o _ _ (by omega)]
theorem o_ap_hi (sort : Nat) {r : Nat} (hr : 10 ≤ r ∧ r ≤ 12) : o_ap D z key val num sort r = ln (o_ap3 D z key val num) (16 * z + (D 3 z).toNat) r := by
  unfold o_ap o_ap4
  rw [lga_o _ _ _ _ (by omega), dup_o _ _ _ (by omega)]
theorem o_ap_1 (sort : Nat) : o_ap D z key val num sort 1 = va_up (va_up (D 1) 5 (am_w (D 1 5 + 1))) sort (am_w (D 1 sort + 1)) := by
  unfold o_ap o_ap4
  rw [lga_o _ _ _ _ (by omega), dup_t, ln_o _ _ (by omega), ap3_1]
end ROWS
theorem has_ap {D : Nat → Nat → Int} {Z : Nat} (w : PW D Z) {z : Nat} (hz : z < Z) (h3 : D 3 z < 16) (key val num : Int) (q : Nat) : cd_has (o_ap3 D z key val num) q = (cd_has D q || decide (q = 16 * z + (D 3 z).toNat)) := by
  have h3' := w.2.2 z (by have := w.2.1; omega)
  unfold cd_has
  rw [ap3_o _ _ _ _ _ (by omega), ap3_3, w.1]
  by_cases e : q / 16 = z
  · rw [e, va_up_self]
    by_cases e2 : q = 16 * z + (D 3 z).toNat
    · rw [decide_eq_true e2, Bool.or_true]
      exact decide_eq_true ⟨by omega, by omega⟩
    · rw [decide_eq_false e2, Bool.or_false]
      exact decide_eq_decide.mpr (by omega)
  · rw [va_up_ne _ _ e, decide_eq_false (show ¬ q = 16 * z + (D 3 z).toNat by omega), Bool.or_false]
theorem has_not {D : Nat → Nat → Int} {Z : Nat} (w : PW D Z) {z : Nat} (hz : z < Z) (h3 : D 3 z < 16) : cd_has D (16 * z + (D 3 z).toNat) = false := by
  have h3' := w.2.2 z (by have := w.2.1; omega)
  unfold cd_has
  rw [show (16 * z + (D 3 z).toNat) / 16 = z by omega, show (16 * z + (D 3 z).toNat) % 16 = (D 3 z).toNat by omega]
  exact decide_eq_false (by omega)
section BRG4
variable {D A : Nat → Nat → Int} {Z x y : Nat} {md : Bool} {O : Nat → Int} {T : Int}
theorem rl_ln (rl : RL D A md O T y) (p : Nat) : RL (ln D p) A md O T y := by
  have hD : ∀ r, r < 10 ∨ 12 < r → ln D p r = D r := fun r hr => ln_o _ _ hr
  obtain ⟨⟨a0, a2, a3, a4, a6⟩, ⟨b4, b5⟩, c, d, e, f, g⟩ := rl
  refine ⟨⟨?_, ?_, ?_, ?_, ?_⟩, ⟨?_, ?_⟩, ?_, ?_, ?_, ?_, g⟩
  · rw [hD 0 (by omega), a0]
  · rw [hD 2 (by omega), a2]
  · rw [hD 3 (by omega), a3]
  · rw [hD 4 (by omega), a4]
  · rw [hD 6 (by omega), a6]
  · rw [hD 1 (by omega), b4]
  · rw [hD 1 (by omega), b5]
  · rw [hD 2 (by omega), hD 5 (by omega)]; exact c
  · intro p hp hh
    rw [cd_has_of (hD 0 (by omega)) (hD 3 (by omega))] at hh
    rw [hD 7 (by omega), hD 8 (by omega), hD 9 (by omega)]
    exact d p hp hh
  · rw [hD 1 (by omega)]; exact e
  · intro m; exact ⟨(f m).1, LR_of (f m).2 (hD 13 (by omega)) (hD 14 (by omega)) (hD 15 (by omega)) (hD 16 (by omega)) rfl⟩
/-- the clock doesn't run over -/
def CLK (D : Nat → Nat → Int) (T : Int) : Prop := T = 0 ∨ (0 ≤ D 1 5 ∧ 0 ≤ T ∧ D 1 5 + T + 1 < 2147483648)
theorem rl_ap3 (w : PW D Z) {z : Nat} (hz : z < Z) (h3 : D 3 z < 16) (rl : RL D A md O T z) (hcl : CLK D T) (key val num : Int) : RL (o_ap3 D z key val num) (o_ap3 A z key val num) md O T 8 := by
  have hZ8 := w.2.1
  obtain ⟨⟨a0, a2, a3, a4, a6⟩, ⟨b4, b5⟩, c, d, e, f, g⟩ := rl
  have hck : am_w (A 1 5 + 1) = am_w (D 1 5 + 1) + T := by
    rw [b5]
    rcases hcl with h | h
    · rw [h, Int.add_zero, Int.add_zero]
    · rw [am_w_id (by omega) (by omega), am_w_id (by omega) (by omega)]
      omega
  refine ⟨⟨?_, ?_, ?_, ?_, ?_⟩, ⟨?_, ?_⟩, ?_, ?_, ?_, ?_, LG_of g (ap3_o _ _ _ _ _ (by omega))⟩
  · rw [ap3_o _ _ _ _ _ (by omega), ap3_o _ _ _ _ _ (by omega), a0]
  · rw [ap3_2, ap3_2, a0, a2, a3]
  · rw [ap3_3, ap3_3, a3]
  · rw [ap3_o _ _ _ _ _ (by omega), ap3_o _ _ _ _ _ (by omega), a4]
  · rw [ap3_o _ _ _ _ _ (by omega), ap3_o _ _ _ _ _ (by omega), a6]
  · rw [ap3_1, ap3_1, va_up_ne _ _ (by omega), va_up_ne _ _ (by omega), b4]
  · rw [ap3_1, ap3_1, va_up_self, va_up_self, hck]
  · intro t ht8 _ hs
    rw [ap3_5, ap3_5]
    by_cases et : t = z
    · rw [et, va_up_self, va_up_self, hck]
    · rw [va_up_ne _ _ et, va_up_ne _ _ et]
      rw [ap3_2] at hs
      refine c t ht8 et ?_
      split at hs
      · exact hs
      · rw [va_up_ne _ _ et] at hs; exact hs
  · intro p hp hh
    rw [has_ap w hz h3] at hh
    rw [ap3_7, ap3_7, ap3_8, ap3_8, ap3_9, ap3_9, a3]
    by_cases ep : p = 16 * z + (D 3 z).toNat
    · rw [ep, va_up_self, va_up_self, va_up_self, va_up_self, va_up_self, va_up_self]
      exact ⟨rfl, rfl, rfl⟩
    · rw [decide_eq_false ep, Bool.or_false] at hh
      rw [va_up_ne _ _ ep, va_up_ne _ _ ep, va_up_ne _ _ ep, va_up_ne _ _ ep, va_up_ne _ _ ep, va_up_ne _ _ ep]
      exact d p hp hh
  · intro i hi hi4 hi5
    rw [ap3_1, ap3_1, va_up_ne _ _ hi5, va_up_ne _ _ hi5]
    exact e i hi hi4 hi5
  · intro m
    exact ⟨(f m).1, LR_of (f m).2 (ap3_o _ _ _ _ _ (by omega)) (ap3_o _ _ _ _ _ (by omega)) (ap3_o _ _ _ _ _ (by omega)) (ap3_o _ _ _ _ _ (by omega)) (ap3_o _ _ _ _ _ (by omega))⟩
theorem rl_ap (w : PW D Z) (lw : LW D) {z : Nat} (hz : z < Z) (h3 : D 3 z < 16) (rl : RL D A md O T z) (hcl : CLK D T) (key val num : Int) {sort : Nat} (hs : sort < 2) : RL (o_ap D z key val num sort) (m_ap A z key val num sort) md O T 8 := by
  have h1 := rl_ln (rl_ap3 w hz h3 rl hcl key val num) (16 * z + (D 3 z).toNat)
  have h2 := rl_tal h1 (j := sort) (by omega) (by omega)
  have eD : ln (o_ap3 D z key val num) (16 * z + (D 3 z).toNat) 1 sort = D 1 sort := by rw [ln_o _ _ (by omega), ap3_1, va_up_ne _ _ (by omega)]
  have eA : o_ap3 A z key val num 1 sort = A 1 sort := by rw [ap3_1, va_up_ne _ _ (by omega)]
  rw [eD, eA] at h2
  unfold o_ap o_ap4 m_ap
  rw [rl.1.2.2.1]
  refine rl_log (LW_of lw ?_) h2 _ _ _
  rw [dup_o _ _ _ (by omega), ln_o _ _ (by omega), ap3_o _ _ _ _ _ (by omega)]
theorem rl_cl (lw : LW D) (rl : RL D A md O T y) (z : Nat) : RL (o_cl D z) (m_cl A z) md O T y := by
  unfold o_cl m_cl
  rw [rl.1.2.2.1]
  refine rl_log (LW_of lw (dup_o _ _ _ (by omega))) (rl_st rl z _ (fun t _ h _ => h) (Or.inl ?_)) _ _ _
  split <;> omega
theorem rl_fi (lw : LW D) (rl : RL D A md O T y) (z : Nat) : RL (o_fi D z) (m_fi A z) md O T y := by
  unfold o_fi m_fi
  rw [rl.1.2.2.1]
  exact rl_log (LW_of lw (dup_o _ _ _ (by omega))) (rl_st rl z _ (fun t _ h _ => h) (Or.inl (by omega))) _ _ _
theorem rl_op0 (lw : LW D) (rl : RL D A md O T 8) (hZ : Z ≤ 8) : RL (o_op0 D Z) (m_op0 A Z) md O T 8 := by
  unfold o_op0 m_op0
  rw [cd_many_of rl.1.2.1, rl.1.1, rl_oz rl hZ hZ]
  split
  · have h2 := rl_tal (rl_cl lw rl (cd_oz D Z).toNat) (j := 6) (by omega) (by omega)
    rw [o_cl_o _ _ (by omega) (by omega), m_cl_o _ _ (by omega) (by omega)] at h2
    exact h2
  · exact rl
theorem rl_tk0 (lw : LW D) (rl : RL D A md O T 8) (iv : IV D Z x) {s : Nat} (hl : cd_lz D s = true) : RL (o_tk0 D Z) (m_tk0 A Z s) md O T 8 := by
  unfold o_tk0 m_tk0
  rw [cd_many_of rl.1.2.1, cd_many_of rl.1.2.1, rl.1.1, rl_zf rl hl iv]
  split
  · have h2 := rl_tal (rl_fi lw rl (cd_zf D Z).toNat) (j := 7) (by omega) (by omega)
    rw [o_fi_o _ _ (by omega) (by omega), m_fi_o _ _ (by omega) (by omega)] at h2
    exact h2
  · exact rl
theorem ez_tk0 (D : Nat → Nat → Int) (Z : Nat) : cd_ez (o_tk0 D Z) Z = cd_ez D Z := by
  unfold o_tk0
  split
  · rename_i h
    have ha := of_decide_eq_true (cd_zf_act h.2 : decide _ = true)
    have e4 : dup (o_fi D (cd_zf D Z).toNat) 1 7 (am_w (D 1 7 + 1)) 4 = D 4 := by rw [dup_o _ _ _ (by omega), o_fi_o _ _ (by omega) (by omega)]
    have e2 : dup (o_fi D (cd_zf D Z).toNat) 1 7 (am_w (D 1 7 + 1)) 2 = va_up (D 2) (cd_zf D Z).toNat 3 := by
      rw [dup_o _ _ _ (by omega)]
      unfold o_fi
      rw [lga_o _ _ _ _ (by omega), dup_t]
    unfold cd_ez
    rw [e4, e2]
    refine bst_congr (fun z _ => ?_) (fun _ _ _ _ _ _ => rfl)
    by_cases e : z = (cd_zf D Z).toNat
    · rw [e, va_up_self]
      exact decide_eq_decide.mpr (by omega)
    · rw [va_up_ne _ _ e]
  · rfl
theorem rl_at1 (lw : LW D) (rl : RL D A md O T 8) (iv : IV D Z x) (s : Nat) : RL (o_at1 D Z s) (m_at1 A Z s) md O T 8 := by
  unfold o_at1 m_at1
  rw [cd_lz_of rl.1.1 rl.1.2.1 rl.1.2.2.2.2]
  cases e : cd_lz D s with
  | true =>
    rw [if_pos rfl, if_pos rfl]
    unfold o_tk m_tk
    rw [ez_tk0, cd_ez_of rl.1.2.1 rl.1.2.2.2.1]
    exact rl_6 (rl_tk0 lw rl iv e) _ _
  | false =>
    rw [if_neg (by decide), if_neg (by decide)]
    exact rl
theorem o_at1_3 (D : Nat → Nat → Int) (Z s : Nat) : o_at1 D Z s 3 = D 3 := by
  unfold o_at1 o_tk
  split
  · rw [dup_o _ _ _ (by omega), o_tk0_o _ _ (by omega) (by omega) (by omega)]
  · rfl
theorem o_at1_14 (D : Nat → Nat → Int) (Z s : Nat) {j : Nat} (hj : j ≠ 7) : o_at1 D Z s 1 j = D 1 j := by
  unfold o_at1 o_tk o_tk0
  split
  · rw [dup_o _ _ _ (by omega)]
    split
    · rw [dup_t, va_up_ne _ _ hj, o_fi_o _ _ (by omega) (by omega)]
    · rfl
  · rfl
theorem o_op_14 (D : Nat → Nat → Int) (Z z : Nat) {j : Nat} (hj : j ≠ 6) : o_op D Z z 1 j = D 1 j := by
  unfold o_op o_op0
  rw [dup_o _ _ _ (by omega)]
  split
  · rw [dup_t, va_up_ne _ _ hj, o_cl_o _ _ (by omega) (by omega)]
  · rfl
/-- a block that is appended: class and model -/
theorem rl_at (rl : RL D A md O T 8) (iv : IV D Z 3) {s : Nat} (hl : cd_lz (o_at1 D Z s) s = false) (hcl : CLK D T) (key val num : Int) {sort : Nat} (hs : sort < 2) : RL (o_at D Z s key val num sort) (m_at A Z s key val num sort) md O T 8 ∧ v_at D Z s = mv_at A Z s := by
  have di := iv.1.1
  have hZ8 := di.1.2.1
  have r1 := rl_at1 di.2.2 rl iv s
  have w1 := o_at1_DI di s
  have h1 := cd_lz_no hl
  have hcap := di.1.2.2.1
  rw [o_at1_0, di.1.1] at h1
  obtain ⟨z, hz⟩ : ∃ z : Nat, o_at1 D Z s 6 s = z := ⟨(o_at1 D Z s 6 s).toNat, by omega⟩
  have hz' : m_at1 A Z s 6 s = z := by rw [r1.1.2.2.2.2, hz]
  rw [hz, Int.toNat_natCast] at h1
  have hzZ : z < Z := by omega
  have h3 : D 3 z < 16 := by
    have := (w1.2.1 z hzZ).2 h1.2
    rw [o_at1_3, o_at1_0] at this
    omega
  constructor
  · unfold o_at m_at
    rw [hl, if_neg (by decide), hz, hz', Int.toNat_natCast]
    unfold o_at2 m_at2
    rw [r1.1.2.1, hz, Int.toNat_natCast]
    have pw1 : PW (o_at1 D Z s) Z := ⟨w1.1.1, hZ8, w1.1.2.2.2.2.1⟩
    by_cases e : o_at1 D Z s 2 z = 1
    · rw [if_pos e, if_pos e]
      refine rl_ap pw1 w1.2.2 hzZ (by rw [o_at1_3]; exact h3) ⟨r1.1, r1.2.1, fun t ht _ => r1.2.2.1 t ht (by omega), r1.2.2.2⟩ (by unfold CLK; rw [o_at1_14 _ _ _ (by omega)]; exact hcl) key val num hs
    · rw [if_neg e, if_neg e]
      have wo := o_op_DI w1 (z := z) (fun _ => (w1.2.1 z hzZ).2 h1.2)
      refine rl_ap ⟨wo.1.1, hZ8, wo.1.2.2.2.2.1⟩ wo.2.2 hzZ ?_ ?_ ?_ key val num hs
      · unfold o_op
        rw [dup_o _ _ _ (by omega), o_op0_o _ _ (by omega) (by omega) (by omega), o_at1_3]
        exact h3
      · unfold o_op m_op
        exact rl_st (rl_op0 w1.2.2 r1 hZ8) z 1 (fun t h _ _ => by omega) (Or.inr rfl)
      · unfold CLK
        rw [o_op_14 _ _ _ (by omega), o_at1_14 _ _ _ (by omega)]
        exact hcl
  · unfold v_at mv_at
    rw [hl, if_neg (by decide), hz, hz', Int.toNat_natCast, o_at1_3, rl.1.2.2.1]
end BRG4
