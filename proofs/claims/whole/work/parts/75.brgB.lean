/-! ===== BRIDGE (11): a crash ===== -/
theorem mxs_ge {f : Nat → Int} {a : Int} {n : Nat} : ∀ i, i < n → f i ≤ mxs f a n := by
  induction n with
  | zero => intro i hi; omega
  | succ n ih =>
    intro i hi
    unfold mxs am_max
    by_cases e : i = n
    · rw [e]; split <;> omega
    · have := ih i (by omega)
      split <;> omega
theorem mxs_is {f : Nat → Int} {a : Int} {n : Nat} : mxs f a n = a ∨ ∃ i, i < n ∧ mxs f a n = f i := by
  induction n with
  | zero => exact Or.inl rfl
  | succ n ih =>
    unfold mxs am_max
    split
    · exact Or.inr ⟨n, by omega, rfl⟩
    · rcases ih with h | ⟨i, hi, h⟩
      · exact Or.inl h
      · exact Or.inr ⟨i, by omega, h⟩
/-- the greatest number: 0, or a block's, and none is above it -/
def GN (A : Nat → Nat → Int) (H : Nat → Bool) (X : Int) : Prop := 0 ≤ X ∧ (∀ p, p < 128 → H p = true → A 9 p ≤ X) ∧ (X = 0 ∨ ∃ p, p < 128 ∧ H p = true ∧ A 9 p = X)
theorem GN_uniq {A B : Nat → Nat → Int} {H : Nat → Bool} {X Y : Int} (h : ∀ p, p < 128 → H p = true → A 9 p = B 9 p) (hx : GN A H X) (hy : GN B H Y) : X = Y := by
  obtain ⟨x0, x1, x2⟩ := hx
  obtain ⟨y0, y1, y2⟩ := hy
  have h1 : X ≤ Y := by
    rcases x2 with q | ⟨p, p1, p2, p3⟩
    · omega
    · have := y1 p p1 p2; rw [← h p p1 p2] at this; omega
  have h2 : Y ≤ X := by
    rcases y2 with q | ⟨p, p1, p2, p3⟩
    · omega
    · have := x1 p p1 p2; rw [h p p1 p2] at this; omega
  omega
theorem mxz_gn {A : Nat → Nat → Int} {Z : Nat} (w : PW A Z) : GN A (cd_has A) (mxz A Z) := by
  have hZ8 := w.2.1
  have key : ∀ z, z ≤ Z → 0 ≤ mxz A z ∧ (∀ p, p < 16 * z → pr A p = true → A 9 p ≤ mxz A z) ∧ (mxz A z = 0 ∨ ∃ p, p < 16 * z ∧ pr A p = true ∧ A 9 p = mxz A z) := by
    intro z
    induction z with
    | zero => intro _; exact ⟨Int.le_refl _, fun p hp => by omega, Or.inl rfl⟩
    | succ z ih =>
      intro hz
      obtain ⟨i0, i1, i2⟩ := ih (by omega)
      have h3 := w.2.2 z (by omega)
      have hle := mxs_le (fun i => A 9 (16 * z + i)) (mxz A z) (A 3 z).toNat
      show 0 ≤ mxs _ _ _ ∧ (∀ p, p < 16 * (z + 1) → pr A p = true → A 9 p ≤ mxs _ _ _) ∧ (mxs _ _ _ = 0 ∨ ∃ p, p < 16 * (z + 1) ∧ pr A p = true ∧ A 9 p = mxs _ _ _)
      refine ⟨by omega, ?_, ?_⟩
      · intro p hp hpr
        by_cases e : p < 16 * z
        · have := i1 p e hpr; omega
        · rw [show p = 16 * z + (p - 16 * z) by omega, pr_at (by omega)] at hpr
          have h1 := of_decide_eq_true hpr
          have := mxs_ge (f := fun i => A 9 (16 * z + i)) (a := mxz A z) (n := (A 3 z).toNat) (p - 16 * z) (by omega)
          rw [show 16 * z + (p - 16 * z) = p by omega] at this
          exact this
      · rcases mxs_is (f := fun i => A 9 (16 * z + i)) (a := mxz A z) (n := (A 3 z).toNat) with h | ⟨i, hi, h⟩
        · rw [h]
          rcases i2 with q | ⟨p, p1, p2, p3⟩
          · exact Or.inl q
          · exact Or.inr ⟨p, by omega, p2, p3⟩
        · exact Or.inr ⟨16 * z + i, by omega, by rw [pr_at (by omega)]; exact decide_eq_true (by omega), h.symm⟩
  obtain ⟨k0, k1, k2⟩ := key Z (Nat.le_refl Z)
  have hp : ∀ p, cd_has A p = true ↔ p < 16 * Z ∧ pr A p = true := by
    intro p
    rw [← has_pr w, Bool.and_eq_true, decide_eq_true_eq]
  refine ⟨k0, fun p _ h => k1 p ((hp p).mp h).1 ((hp p).mp h).2, ?_⟩
  rcases k2 with q | ⟨p, p1, p2, p3⟩
  · exact Or.inl q
  · exact Or.inr ⟨p, by omega, (hp p).mpr ⟨p1, p2⟩, p3⟩
section BRGB
variable {D A : Nat → Nat → Int} {Z x : Nat} {md : Bool} {O : Nat → Int} {T : Int}
theorem ln_gn (iv : IV D Z x) : GN D (cd_has D) (mxs (cd_ln D) 0 32) := by
  refine ⟨mxs_le _ _ _, ?_, ?_⟩
  · intro p hp hh
    have hk := iv.key hp hh
    have hc := (iv.2.1 (D 7 p).toNat (by omega)).1
    have hg := mxs_ge (f := cd_ln D) (a := 0) (n := 32) (D 7 p).toNat (by omega)
    rcases hc with ⟨b1, b2⟩ | ⟨q, q1, q2, q3, q4, q5⟩
    · exact absurd (show D 7 p = ((D 7 p).toNat : Int) by omega) (b2 p hp hh)
    · have h9 := q5 p hp hh (by omega)
      have hl : cd_ln D (D 7 p).toNat = D 9 q := by unfold cd_ln; rw [q4, if_neg (by omega), Int.toNat_natCast]
      rw [hl] at hg
      omega
  · rcases mxs_is (f := cd_ln D) (a := 0) (n := 32) with h | ⟨k, hk, h⟩
    · exact Or.inl h
    · rw [h]
      have hc := (iv.2.1 k hk).1
      have hge := mxs_le (cd_ln D) 0 32
      unfold cd_ln at h hge ⊢
      rcases hc with ⟨b1, b2⟩ | ⟨q, q1, q2, q3, q4, q5⟩
      · rw [if_pos b1] at h ⊢
        rw [h] at hge
        omega
      · rw [q4, if_neg (by omega), Int.toNat_natCast]
        exact Or.inr ⟨q, q1, q2, rfl⟩
theorem fhs_of {D E : Nat → Nat → Int} (e0 : E 0 = D 0) (e2 : E 2 = D 2) (e6 : E 6 = D 6) : ∀ n, fhs E n = fhs D n := by
  intro n
  induction n with
  | zero => unfold fhs; rw [e6]
  | succ n ih => unfold fhs; rw [ih, e0, cd_act_of e2]
/-- homes found anew: rising, of zones that are active -/
theorem fhs_inv (D : Nat → Nat → Int) : ∀ n, (∀ s, s < 3 → (fhs D n).2 ≤ s → (fhs D n).1 s = -1) ∧ (∀ s, s < (fhs D n).2 → 0 ≤ (fhs D n).1 s ∧ (fhs D n).1 s < n ∧ cd_act D ((fhs D n).1 s).toNat = true ∧ (s : Int) < D 0 4) ∧ ∀ s t, s < t → t < (fhs D n).2 → (fhs D n).1 s < (fhs D n).1 t := by
  intro n
  induction n with
  | zero => exact ⟨fun s hs _ => if_pos hs, fun s hs => absurd hs (Nat.not_lt_zero s), fun s t _ ht => absurd ht (Nat.not_lt_zero t)⟩
  | succ n ih =>
    obtain ⟨i1, i2, i3⟩ := ih
    have ef : fhs D (n + 1) = if ((fhs D n).2 : Int) < D 0 4 ∧ cd_act D n = true then (va_up (fhs D n).1 (fhs D n).2 n, (fhs D n).2 + 1) else fhs D n := rfl
    rw [ef]
    by_cases q : ((fhs D n).2 : Int) < D 0 4 ∧ cd_act D n = true
    · rw [if_pos q]
      refine ⟨?_, ?_, ?_⟩
      · intro s hs hle
        have hle' : (fhs D n).2 + 1 ≤ s := hle
        show va_up (fhs D n).1 (fhs D n).2 n s = -1
        rw [va_up_ne _ _ (by omega)]
        exact i1 s hs (by omega)
      · intro s hs
        have hs' : s < (fhs D n).2 + 1 := hs
        show 0 ≤ va_up (fhs D n).1 (fhs D n).2 (n : Int) s ∧ va_up (fhs D n).1 (fhs D n).2 (n : Int) s < ((n + 1 : Nat) : Int) ∧ cd_act D (va_up (fhs D n).1 (fhs D n).2 (n : Int) s).toNat = true ∧ _
        by_cases e : s = (fhs D n).2
        · rw [e, va_up_self, Int.toNat_natCast]
          exact ⟨by omega, by omega, q.2, q.1⟩
        · rw [va_up_ne _ _ e]
          have h := i2 s (by omega)
          exact ⟨h.1, by omega, h.2.2⟩
      · intro s t hst ht
        have ht' : t < (fhs D n).2 + 1 := ht
        show va_up (fhs D n).1 (fhs D n).2 (n : Int) s < va_up (fhs D n).1 (fhs D n).2 (n : Int) t
        rw [va_up_ne _ _ (show s ≠ (fhs D n).2 by omega)]
        by_cases e : t = (fhs D n).2
        · rw [e, va_up_self]
          exact (i2 s (by omega)).2.1
        · rw [va_up_ne _ _ e]
          exact i3 s t hst (by omega)
    · rw [if_neg q]
      refine ⟨i1, fun s hs => ?_, i3⟩
      have h := i2 s hs
      exact ⟨h.1, by omega, h.2.2⟩
def o_c0 (D : Nat → Nat → Int) (Z : Nat) : Nat → Nat → Int := cr3 (cr2 (cr1 D Z) Z)
theorem c0_o (D : Nat → Nat → Int) (Z : Nat) {r : Nat} (h : r ≠ 1 ∧ r ≠ 2 ∧ r ≠ 6) : o_c0 D Z r = D r := by
  unfold o_c0 cr3 cr2 cr1
  rw [dup_o _ _ _ (by omega), dup_o _ _ _ (by omega), drow_o _ _ (by omega), drow_o _ _ (by omega)]
theorem c0_2 (D : Nat → Nat → Int) (Z : Nat) : o_c0 D Z 2 = cr_s D Z := by
  unfold o_c0 cr3 cr2 cr1
  rw [dup_o _ _ _ (by omega), dup_o _ _ _ (by omega), drow_o _ _ (by omega), drow_t]
theorem c0_6 (D : Nat → Nat → Int) (Z : Nat) : o_c0 D Z 6 = (fhs (cr1 D Z) Z).1 := by
  unfold o_c0 cr3 cr2
  rw [dup_o _ _ _ (by omega), dup_o _ _ _ (by omega), drow_t]
theorem c0_14 (D : Nat → Nat → Int) (Z : Nat) : o_c0 D Z 1 4 = mxs (cd_ln D) 0 32 := by
  have e : mxs (cd_ln (cr2 (cr1 D Z) Z)) 0 32 = mxs (cd_ln D) 0 32 := mxs_congr (fun k _ => by unfold cd_ln cr2 cr1; rw [drow_o _ _ (by omega), drow_o _ _ (by omega), drow_o _ _ (by omega), drow_o _ _ (by omega)])
  unfold o_c0 cr3
  rw [dup_t, va_up_ne _ _ (by omega), dup_t, va_up_self, e]
theorem c0_1 (D : Nat → Nat → Int) (Z : Nat) {j : Nat} (h3 : j ≠ 3) (h4 : j ≠ 4) : o_c0 D Z 1 j = D 1 j := by
  unfold o_c0 cr3 cr2 cr1
  rw [dup_t, va_up_ne _ _ h3, dup_t, va_up_ne _ _ h4, drow_o _ _ (by omega), drow_o _ _ (by omega)]
theorem c0_13 (D : Nat → Nat → Int) (Z : Nat) : o_c0 D Z 1 3 = am_w (D 1 3 + 1) := by
  unfold o_c0 cr3 cr2 cr1
  rw [dup_t, va_up_self, drow_o _ _ (by omega), drow_o _ _ (by omega)]
theorem cr_s_ne {z : Nat} (hz : z < Z) : ¬ cr_s D Z z = 1 := by
  unfold cr_s
  split
  · split <;> omega
  · rename_i h
    intro q
    exact h ⟨hz, q⟩
theorem iv_c0 (iv : IV D Z x) : IV (o_c0 D Z) Z 3 := by
  have pw := iv.pw
  have di : DI (o_c0 D Z) Z := cr3_DI (cr2_DI (cr1_DI iv.1.1))
  have gn := ln_gn iv
  have e0 : o_c0 D Z 0 = D 0 := c0_o D Z (by omega)
  have e3 : o_c0 D Z 3 = D 3 := c0_o D Z (by omega)
  have e9 : o_c0 D Z 9 = D 9 := c0_o D Z (by omega)
  have hh : ∀ p, cd_has (o_c0 D Z) p = cd_has D p := fun p => cd_has_of e0 e3 p
  have fi := fhs_inv (cr1 D Z) Z
  have hcl : ∀ z, z < Z → (cr_s D Z z = 0 → D 3 z = 0) ∧ (cr_s D Z z = 2 → 0 < D 3 z) := by
    intro z hz
    have h3 := pw.2.2 z (by have := pw.2.1; omega)
    have hc := iv.2.2.1.1 z hz
    unfold cr_s
    split
    · split
      · rename_i q; exact ⟨fun _ => q, fun q => by omega⟩
      · exact ⟨fun q => by omega, fun _ => by omega⟩
    · exact hc
  obtain ⟨a, b, c, ⟨d1, d2⟩, e, f⟩ := iv
  have h10 : cr1 D Z 0 = D 0 := drow_o _ _ (by omega)
  have h12 : cr1 D Z 2 = cr_s D Z := drow_t _ _ _
  refine ⟨⟨di, a.2.1, by rw [e0]; exact a.2.2.1, by rw [e0]; exact a.2.2.2⟩, ?_, ?_, ⟨?_, ?_⟩, ?_, ?_⟩
  · exact CC_of b (fun p _ => (hh p).symm) (fun p _ _ => by rw [c0_o D Z (by omega), e9]; exact ⟨rfl, rfl⟩) (c0_o D Z (by omega)) (c0_o D Z (by omega)) (c0_o D Z (by omega))
  · rw [c0_2, e3]; exact ⟨hcl, c.2⟩
  · intro s hs
    rw [c0_6, e0, e3]
    by_cases q : s < (fhs (cr1 D Z) Z).2
    · have h := fi.2.1 s q
      right
      have hz : ((fhs (cr1 D Z) Z).1 s).toNat < Z := by omega
      have ha := of_decide_eq_true (h.2.2.1 : decide _ = true)
      rw [h12] at ha
      have hn := cr_s_ne (D := D) hz
      have := (hcl _ hz).2 (by omega)
      exact ⟨h.1, h.2.1, Or.inr this, by have := h.2.2.2; rw [h10] at this; exact this⟩
    · exact Or.inl (fi.1 s hs (by omega))
  · intro s t hs ht
    rw [c0_6]
    intro q
    by_cases q1 : s < (fhs (cr1 D Z) Z).2
    · by_cases q2 : t < (fhs (cr1 D Z) Z).2
      · rcases Nat.lt_trichotomy s t with h | h | h
        · have := fi.2.2 s t h q2; omega
        · exact Or.inr h
        · have := fi.2.2 t s h q1; omega
      · rw [fi.1 t ht (by omega)] at q
        exact Or.inl q
    · exact Or.inl (fi.1 s hs (by omega))
  · rw [e0]; exact e
  · rw [c0_14, e9]
    refine ⟨gn.1, fun p hp h => ?_⟩
    rw [hh] at h
    exact ⟨(f.2 p hp h).1, gn.2.1 p hp h⟩
theorem rl_c0 (iv : IV D Z x) (rl : RL D A md O T 8) : RL (o_c0 D Z) (mc A Z) md O T 8 := by
  have e0A : mc A Z 0 = A 0 := mc_o _ _ (by omega)
  have m2 : mc A Z 2 = cr_s A Z := by unfold mc mc3 mc2 mc1; rw [dup_o _ _ _ (by omega), drow_o _ _ (by omega), dup_o _ _ _ (by omega), drow_t]
  have m6 : mc A Z 6 = (fhs (mc1 A Z) Z).1 := by unfold mc mc3 mc2; rw [dup_o _ _ _ (by omega), drow_t]
  have m14 : mc A Z 1 4 = mxz A Z := by
    unfold mc mc3 mc2
    rw [dup_t, va_up_ne _ _ (by omega), drow_o _ _ (by omega), dup_t, va_up_self]
    exact mxz_of (drow_o _ _ (by omega)) (drow_o _ _ (by omega)) Z
  have m1 : ∀ j, j ≠ 3 → j ≠ 4 → mc A Z 1 j = A 1 j := by
    intro j h3 h4
    unfold mc mc3 mc2 mc1
    rw [dup_t, va_up_ne _ _ h3, drow_o _ _ (by omega), dup_t, va_up_ne _ _ h4, drow_o _ _ (by omega)]
  have m13 : mc A Z 1 3 = am_w (A 1 3 + 1) := by
    unfold mc mc3 mc2 mc1
    rw [dup_t, va_up_self, drow_o _ _ (by omega), dup_t, va_up_ne _ _ (by omega), drow_o _ _ (by omega)]
  have gA := mxz_gn (rl_pw iv rl)
  have gD := ln_gn iv
  have heq : mxz A Z = mxs (cd_ln D) 0 32 := by
    have hs : GN A (cd_has D) (mxz A Z) := by
      obtain ⟨g0, g1, g2⟩ := gA
      refine ⟨g0, fun p hp h => g1 p hp (by rw [rl_has rl]; exact h), ?_⟩
      rcases g2 with q | ⟨p, p1, p2, p3⟩
      · exact Or.inl q
      · exact Or.inr ⟨p, p1, by rw [← rl_has rl]; exact p2, p3⟩
    exact GN_uniq (fun p hp h => (rl.2.2.2.1 p hp h).2.2) hs gD
  have ht := rl_tal rl (j := 3) (by omega) (by omega)
  obtain ⟨⟨a0, a2, a3, a4, a6⟩, ⟨b4, b5⟩, c, d, e, f, g⟩ := rl
  have hcs : cr_s A Z = cr_s D Z := by unfold cr_s; rw [a2, a3]
  have hf : fhs (mc1 A Z) Z = fhs (cr1 D Z) Z := fhs_of (by unfold mc1 cr1; rw [drow_o _ _ (by omega), drow_o _ _ (by omega), a0]) (by unfold mc1 cr1; rw [drow_t, drow_t, hcs]) (by unfold mc1 cr1; rw [drow_o _ _ (by omega), drow_o _ _ (by omega), a6]) Z
  refine ⟨⟨?_, ?_, ?_, ?_, ?_⟩, ⟨?_, ?_⟩, ?_, ?_, ?_, ?_, LG_of g (mc_o _ _ (by omega))⟩
  · rw [e0A, c0_o D Z (by omega), a0]
  · rw [m2, c0_2, hcs]
  · rw [mc_o _ _ (by omega), c0_o D Z (by omega), a3]
  · rw [mc_o _ _ (by omega), c0_o D Z (by omega), a4]
  · rw [m6, c0_6, hf]
  · rw [m14, c0_14, heq]
  · rw [m1 5 (by omega) (by omega), c0_1 D Z (by omega) (by omega), b5]
  · intro z hz8 hzy hs
    rw [c0_2] at hs
    rw [mc_o _ _ (by omega), c0_o D Z (by omega)]
    by_cases q : z < Z
    · exact absurd hs (cr_s_ne q)
    · unfold cr_s at hs
      rw [if_neg (by omega)] at hs
      exact c z hz8 hzy hs
  · intro p hp hh
    rw [cd_has_of (c0_o D Z (by omega)) (c0_o D Z (by omega))] at hh
    rw [mc_o _ _ (by omega), mc_o _ _ (by omega), mc_o _ _ (by omega), c0_o D Z (by omega), c0_o D Z (by omega), c0_o D Z (by omega)]
    exact d p hp hh
  · intro j hj h4 h5
    by_cases q : j = 3
    · have := ht.2.2.2.2.1 3 (by omega) (by omega) (by omega)
      rw [dup_t, dup_t, va_up_self, va_up_self] at this
      rw [q, m13, c0_13]
      exact this
    · rw [m1 j q h4, c0_1 D Z q h4]
      exact e j hj h4 h5
  · intro m
    exact ⟨(f m).1, LR_of (f m).2 (c0_o D Z (by omega)) (c0_o D Z (by omega)) (c0_o D Z (by omega)) (c0_o D Z (by omega)) (mc_o _ _ (by omega))⟩
theorem cr_all (iv : IV D Z x) (rl : RL D A md O T 8) : RL (o_cr D Z) (m_cr A Z) md O T 8 ∧ IV (o_cr D Z) Z 3 ∧ ml_kv (m_cr A Z) Z 32 = cd_kv D := by
  have i0 := iv_c0 iv
  have r0 := rl_c0 iv rl
  have hk : ml_kv (mc A Z) Z 32 = cd_kv D := by
    rw [rl_kv i0 r0]
    exact cd_kv_of (c0_o D Z (by omega)) (c0_o D Z (by omega))
  have h1 : RL (o_cr D Z) (m_cr A Z) md O T 8 := by
    unfold o_cr m_cr
    rw [hk]
    exact rl_log i0.1.1.2.2 r0 _ _ _
  have h2 : IV (o_cr D Z) Z 3 := by
    unfold o_cr
    exact iv_log i0 _ _ _
  refine ⟨h1, h2, ?_⟩
  rw [rl_kv h2 h1]
  unfold o_cr
  exact (cd_kv_of (D := lga (o_c0 D Z) 6 (-1) (cd_kv D)) (E := D) (by rw [lga_o _ _ _ _ (by omega), c0_o D Z (by omega)]) (by rw [lga_o _ _ _ _ (by omega), c0_o D Z (by omega)]))
end BRGB
