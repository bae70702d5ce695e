/-! ===== BRIDGE (6): room ===== -/
theorem cnt_up {f : Nat → Int} {n z : Nat} (hz : z < n) (v c : Int) : cnt (fun t => decide (va_up f z v t = c)) n + (if f z = c then 1 else 0) = cnt (fun t => decide (f t = c)) n + (if v = c then 1 else 0) := by
  induction n with
  | zero => omega
  | succ n ih =>
    unfold cnt
    by_cases e : z = n
    · subst e
      rw [va_up_self, cnt_congr (P := fun t => decide (va_up f z v t = c)) (Q := fun t => decide (f t = c)) (fun j hj => by rw [va_up_ne _ _ (by omega)])]
      by_cases e1 : v = c
      · by_cases e2 : f z = c <;> simp [e1, e2]
      · by_cases e2 : f z = c <;> simp [e1, e2]
    · have := ih (by omega)
      rw [va_up_ne _ _ (fun q => e q.symm)]
      omega
theorem many_st {D : Nat → Nat → Int} {Z z : Nat} (hz : z < Z) (v c : Int) : cd_many (dup D 2 z v) Z c + (if D 2 z = c then 1 else 0) = cd_many D Z c + (if v = c then 1 else 0) := by
  unfold cd_many
  rw [dup_t]
  exact cnt_up hz v c
theorem many_fi {D : Nat → Nat → Int} {Z z : Nat} (hz : z < Z) (h : ¬ D 2 z = 0) : cd_many (o_fi D z) Z 0 = cd_many D Z 0 := by
  have e : cd_many (o_fi D z) Z 0 = cd_many (dup D 2 z 3) Z 0 := cd_many_of (by unfold o_fi; rw [lga_o _ _ _ _ (by omega)]) Z 0
  have := many_st (D := D) hz 3 0
  rw [if_neg h, if_neg (by omega)] at this
  rw [e]
  omega
theorem many_cl {D : Nat → Nat → Int} {Z z : Nat} (hz : z < Z) (h : ¬ D 2 z = 0) : cd_many D Z 0 ≤ cd_many (o_cl D z) Z 0 := by
  have e : cd_many (o_cl D z) Z 0 = cd_many (dup D 2 z (if D 3 z = 0 then 0 else 2)) Z 0 := cd_many_of (by unfold o_cl; rw [lga_o _ _ _ _ (by omega)]) Z 0
  have := many_st (D := D) hz (if D 3 z = 0 then 0 else 2) 0
  rw [if_neg h] at this
  rw [e]
  omega
section BRG6
variable {D : Nat → Nat → Int} {Z : Nat}
theorem many_tk0 : cd_many (o_tk0 D Z) Z 0 = cd_many D Z 0 := by
  unfold o_tk0
  split
  · rename_i h
    have ha := of_decide_eq_true (cd_zf_act h.2 : decide _ = true)
    have hb := cd_zf_le D Z
    rw [cd_many_of (D := o_fi D (cd_zf D Z).toNat) (dup_o _ _ _ (by omega)), many_fi (by omega) (by omega)]
  · rfl
theorem many_op0 : cd_many D Z 0 ≤ cd_many (o_op0 D Z) Z 0 := by
  unfold o_op0
  split
  · rename_i h
    have ha := oz_at h.2
    rw [cd_many_of (D := o_cl D (cd_oz D Z).toNat) (dup_o _ _ _ (by omega))]
    exact many_cl ha.1 (by omega)
  · exact Nat.le_refl _
theorem op0_at {z : Nat} (h : ¬ D 2 z = 1) : o_op0 D Z 2 z = D 2 z := by
  unfold o_op0
  split
  · rename_i q
    have ha := oz_at q.2
    rw [dup_o _ _ _ (by omega)]
    unfold o_cl
    rw [lga_o _ _ _ _ (by omega), dup_t, va_up_ne _ _ (fun e => by rw [← e] at ha; omega)]
  · rfl
theorem tk0_at {z : Nat} (h : D 2 z = 0) : o_tk0 D Z 2 z = D 2 z := by
  unfold o_tk0
  split
  · rename_i q
    have ha := of_decide_eq_true (cd_zf_act q.2 : decide _ = true)
    rw [dup_o _ _ _ (by omega)]
    unfold o_fi
    rw [lga_o _ _ _ _ (by omega), dup_t, va_up_ne _ _ (fun e => by rw [← e] at ha; omega)]
  · rfl
/-- where there is room, a block can be appended to the last stream -/
theorem room_lz (iv : IV D Z 3) {s : Nat} (hs : s = (D 0 4 - 1).toNat) (hr : 0 < cd_room D Z) : cd_lz (o_at1 D Z s) s = false := by
  have hcap := iv.1.1.1.2.2.1
  unfold o_at1
  cases e : cd_lz D s with
  | false => rw [if_neg (by decide)]; exact e
  | true =>
    rw [if_pos rfl]
    unfold cd_room at hr
    rw [← hs, e, if_pos rfl] at hr
    have hm : ¬ cd_ez D Z = -1 := by
      intro q
      have : cd_many D Z 0 = 0 := cnt_zero (bst_none q)
      rw [this] at hr
      simp at hr
    have hz := ez_at hm
    have hb : -1 ≤ cd_ez D Z ∧ cd_ez D Z < Z := bst_le _ _ _
    unfold o_tk cd_lz
    rw [ez_tk0, dup_t, va_up_self, dup_o _ _ _ (by omega), dup_o _ _ _ (by omega), o_tk0_o _ _ (by omega) (by omega) (by omega), iv.1.1.1.1, tk0_at hz.2]
    exact decide_eq_false (by omega)
theorem ap_rest {F : Nat → Nat → Int} (di : DI F Z) {z s : Nat} (hz : z < Z) (h6 : F 6 s = z) (h3 : F 3 z < F 0 1) (h1 : F 2 z = 1) (key val num : Int) (sort : Nat) : (if cd_lz (o_ap F z key val num sort) s = true then 0 else F 0 1 - o_ap F z key val num sort 3 (o_ap F z key val num sort 6 s).toNat) = F 0 1 - F 3 z - 1 := by
  have e0 : o_ap F z key val num sort 0 = F 0 := by rw [o_ap_lo _ _ _ _ _ _ (by omega) (by omega), ap3_o _ _ _ _ _ (by omega)]
  have e6 : o_ap F z key val num sort 6 = F 6 := by rw [o_ap_lo _ _ _ _ _ _ (by omega) (by omega), ap3_o _ _ _ _ _ (by omega)]
  have e3 : o_ap F z key val num sort 3 = va_up (F 3) z (F 3 z + 1) := by rw [o_ap_lo _ _ _ _ _ _ (by omega) (by omega), ap3_3]
  have e2 : o_ap F z key val num sort 2 = if F 3 z + 1 < F 0 1 then F 2 else va_up (F 2) z 3 := by rw [o_ap_lo _ _ _ _ _ _ (by omega) (by omega), ap3_2]
  unfold cd_lz
  rw [e0, e6, e3, e2, h6, Int.toNat_natCast, va_up_self, di.1.1]
  by_cases e : F 3 z + 1 < F 0 1
  · rw [if_pos e, h1, decide_eq_false (by omega), if_neg (by decide)]; omega
  · rw [if_neg e, va_up_self, decide_eq_true (Or.inr rfl), if_pos rfl]; omega
theorem ap_many {F : Nat → Nat → Int} {z : Nat} (hz : z < Z) (h1 : F 2 z = 1) (key val num : Int) (sort : Nat) : cd_many (o_ap F z key val num sort) Z 0 = cd_many F Z 0 := by
  have e2 : o_ap F z key val num sort 2 = if F 3 z + 1 < F 0 1 then F 2 else va_up (F 2) z 3 := by rw [o_ap_lo _ _ _ _ _ _ (by omega) (by omega), ap3_2]
  by_cases e : F 3 z + 1 < F 0 1
  · rw [if_pos e] at e2
    exact cd_many_of e2 Z 0
  · rw [if_neg e] at e2
    have h := many_st (D := F) hz 3 0
    rw [if_neg (by omega), if_neg (by omega)] at h
    rw [cd_many_of (D := dup F 2 z 3) (by rw [e2, dup_t])]
    omega
/-- room goes down by one at most -/
theorem room_at (iv : IV D Z 3) {s : Nat} (hs : s = (D 0 4 - 1).toNat) (hl : cd_lz (o_at1 D Z s) s = false) (key val num : Int) (sort : Nat) : cd_room D Z - 1 ≤ cd_room (o_at D Z s key val num sort) Z := by
  have di := iv.1.1
  have hcap := iv.1.1.1.2.2.1
  have hc0 := iv.1.2.2.2
  have hS := iv.1.2.2.1
  have w1 := o_at1_DI di s
  have h1 := cd_lz_no hl
  rw [o_at1_0, di.1.1] at h1
  obtain ⟨z, hz⟩ : ∃ z : Nat, o_at1 D Z s 6 s = z := ⟨(o_at1 D Z s 6 s).toNat, by omega⟩
  rw [hz, Int.toNat_natCast] at h1
  have hzZ : z < Z := by omega
  have h3 := (w1.2.1 z hzZ).2 h1.2
  have w2 := o_at2_DI w1 hl
  have e20 : o_at2 (o_at1 D Z s) Z s 0 = D 0 := by rw [o_at2_o _ _ _ (by omega) (by omega) (by omega), o_at1_0]
  have e23 : o_at2 (o_at1 D Z s) Z s 3 = D 3 := by rw [o_at2_o _ _ _ (by omega) (by omega) (by omega), o_at1_3]
  have e26 : o_at2 (o_at1 D Z s) Z s 6 s = z := by rw [o_at2_o _ _ _ (by omega) (by omega) (by omega), hz]
  have e22 : o_at2 (o_at1 D Z s) Z s 2 z = 1 := by have := o_at2_2 (o_at1 D Z s) Z s; rw [hz, Int.toNat_natCast] at this; exact this
  rw [o_at1_3, o_at1_0] at h3
  have ra := ap_rest w2 (s := s) hzZ e26 (by rw [e23, e20]; exact h3) e22 key val num sort
  have rm := ap_many (Z := Z) hzZ e22 key val num sort
  have eo : o_at D Z s key val num sort = o_ap (o_at2 (o_at1 D Z s) Z s) z key val num sort := by unfold o_at; rw [hl, if_neg (by decide), hz, Int.toNat_natCast]
  have eo0 : o_at D Z s key val num sort 0 = D 0 := o_at_0 D Z s key val num sort
  -- the empty ones
  have hmany : (cd_many D Z 0 : Int) * D 0 1 + (if cd_lz D s = true then 0 else D 0 1 - D 3 (D 6 s).toNat) ≤ (cd_many (o_at2 (o_at1 D Z s) Z s) Z 0 : Int) * D 0 1 + (D 0 1 - D 3 z) := by
    unfold o_at2
    rw [hz, Int.toNat_natCast]
    cases e : cd_lz D s with
    | true =>
      rw [if_pos rfl]
      have e1 : o_at1 D Z s = o_tk D Z s := by unfold o_at1; rw [e, if_pos rfl]
      have ez : cd_ez D Z = z := by
        rw [e1] at hz
        unfold o_tk at hz
        rw [dup_t, va_up_self, ez_tk0] at hz
        exact hz
      have hzz := ez_at (D := D) (Z := Z) (by omega)
      rw [ez, Int.toNat_natCast] at hzz
      have ht : o_at1 D Z s 2 z = 0 := by rw [e1]; unfold o_tk; rw [dup_o _ _ _ (by omega), tk0_at hzz.2, hzz.2]
      rw [if_neg (by omega)]
      have hm1 : cd_many (o_at1 D Z s) Z 0 = cd_many D Z 0 := by rw [e1]; unfold o_tk; rw [cd_many_of (D := o_tk0 D Z) (dup_o _ _ _ (by omega)), many_tk0]
      have hm2 := many_op0 (D := o_at1 D Z s) (Z := Z)
      have hm3 := many_st (D := o_op0 (o_at1 D Z s) Z) hzZ 1 0
      rw [op0_at (by omega), ht, if_pos rfl, if_neg (by omega)] at hm3
      unfold o_op
      have h0 := (iv.2.2.1.1 z hzZ).1 hzz.2
      rw [h0]
      have hle : cd_many D Z 0 ≤ cd_many (dup (o_op0 (o_at1 D Z s) Z) 2 z 1) Z 0 + 1 := by omega
      have hmul : (cd_many D Z 0 : Int) * D 0 1 ≤ ((cd_many (dup (o_op0 (o_at1 D Z s) Z) 2 z 1) Z 0 : Int) + 1) * D 0 1 := Int.mul_le_mul_of_nonneg_right (by omega) (by omega)
      rw [Int.add_mul, Int.one_mul] at hmul
      omega
    | false =>
      rw [if_neg (by decide)]
      have e1 : o_at1 D Z s = D := by unfold o_at1; rw [e, if_neg (by decide)]
      rw [e1] at hz h1 ⊢
      rw [hz, Int.toNat_natCast]
      by_cases e2 : D 2 z = 1
      · rw [if_pos e2]; exact Int.le_refl _
      · rw [if_neg e2]
        have hs3 : s < 3 := by have := iv.1.1.1.2.2.2.1; omega
        have hv := iv.2.2.2.1.1 s hs3
        have hne : ¬ D 2 z = 0 := by
          intro q
          have h0 := (iv.2.2.1.1 z hzZ).1 q
          rw [hz, Int.toNat_natCast] at hv
          omega
        have hm2 := many_op0 (D := D) (Z := Z)
        have hm3 := many_st (D := o_op0 D Z) hzZ 1 0
        have hge : cd_many (o_op0 D Z) Z 0 ≤ cd_many (dup (o_op0 D Z) 2 z 1) Z 0 := by
          rw [op0_at e2, if_neg hne] at hm3
          omega
        unfold o_op
        have hmul : (cd_many D Z 0 : Int) * D 0 1 ≤ (cd_many (dup (o_op0 D Z) 2 z 1) Z 0 : Int) * D 0 1 := Int.mul_le_mul_of_nonneg_right (by omega) (by omega)
        omega
  unfold cd_room
  rw [← hs, eo0, ← hs, eo, rm]
  rw [e20, e23] at ra
  rw [ra]
  omega
end BRG6
