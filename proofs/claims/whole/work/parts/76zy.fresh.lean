/-! ===== a new drive; strain, fresh, bestStreams ===== -/
/-- rules that a drive can have -/
def RR (R : Nat → Int) (Z : Nat) : Prop := R 0 = Z ∧ (1 ≤ Z ∧ Z ≤ 8) ∧ (1 ≤ R 1 ∧ R 1 ≤ 16) ∧ (1 ≤ R 2 ∧ 1 ≤ R 3) ∧ (1 ≤ R 4 ∧ R 4 ≤ 3) ∧ 0 ≤ R 5 ∧ 0 ≤ R 6 ∧ R 6 ≤ 3
theorem new_no {E : Nat → Nat → Int} (h3 : ∀ z, z < 8 → E 3 z = 0) {p : Nat} (hp : p < 128) : cd_has E p = false := by
  unfold cd_has
  rw [h3 (p / 16) (by omega)]
  exact decide_eq_false (by omega)
theorem cnt_none {P : Nat → Bool} : ∀ n, (∀ j, j < n → P j = false) → cnt P n = 0 := by
  intro n
  induction n with
  | zero => intro _; rfl
  | succ n ih =>
    intro h
    unfold cnt
    rw [ih (fun j hj => h j (by omega)), h n (by omega)]
    rfl
theorem iv_new {E : Nat → Nat → Int} {Z : Nat} (h0 : RR (E 0) Z) (h2 : ∀ z, z < 8 → E 2 z = 0) (h3 : ∀ z, z < 8 → E 3 z = 0) (h6 : ∀ s, s < 3 → E 6 s = -1) (h10 : ∀ k, k < 32 → E 10 k = -1) (h12 : ∀ k, k < 32 → E 12 k = 0) (lw : LW E) (h14 : E 1 4 = 0) : IV E Z 3 := by
  obtain ⟨r0, r1, r2, r3, r4, r5⟩ := h0
  have hno : ∀ p, p < 128 → cd_has E p = false := fun p hp => new_no h3 hp
  refine ⟨⟨⟨⟨r0, by omega, by omega, by omega, fun z hz => by rw [h3 z hz]; omega, fun z i hz hi => ?_, fun k hk => Or.inl (h10 k hk)⟩, fun z hz => ?_, lw⟩, by omega, by omega, by omega⟩, fun k hk => ⟨Or.inl ⟨h10 k hk, fun p hp hh => ?_⟩, fun q => absurd (h10 k hk) q, ?_⟩, ⟨fun z hz => ⟨fun _ => h3 z (by omega), fun q => ?_⟩, fun z _ hz => h3 z hz⟩, ⟨fun s hs => Or.inl (h6 s hs), fun s t hs _ _ => Or.inl (h6 s hs)⟩, ⟨r3.1, r3.2, r5⟩, by omega, fun p hp hh => ?_⟩
  · rw [h3 z hz] at hi
    omega
  · rw [h3 z (by omega)]
    omega
  · rw [hno p hp] at hh
    exact absurd hh (by decide)
  · rw [h12 k hk, cnt_none 128 (fun p hp => by rw [hno p hp]; rfl)]
    rfl
  · rw [h2 z (by omega)] at q
    omega
  · rw [hno p hp] at hh
    exact absurd hh (by decide)
theorem la_none {D : Nat → Nat → Int} : ∀ n, (∀ p, p < n → cd_has D p = false) → la D n = la0 D := by
  intro n
  induction n with
  | zero => intro _; rfl
  | succ n ih =>
    intro h
    unfold la
    rw [h n (by omega), if_neg (by decide)]
    exact ih (fun p hp => h p (by omega))
theorem bgn_eq (D : Nat → Nat → Int) (R : Nat → Int) : bgn D R = la0 (bg2 D R) := la_none 128 (fun p hp => bg2_no D R hp)
theorem bgn_lo (D : Nat → Nat → Int) (R : Nat → Int) {r : Nat} (hr : r < 10 ∨ 12 < r) : bgn D R r = bg2 D R r := by
  rw [bgn_eq]
  unfold la0
  rw [drow_o _ _ (by omega), drow_o _ _ (by omega), drow_o _ _ (by omega)]
theorem bgn_0 (D : Nat → Nat → Int) (R : Nat → Int) : bgn D R 0 = va_up R 2 (am_min (R 2) (R 3)) := by
  rw [bgn_lo _ _ (by omega)]
  unfold bg2 bg1
  rw [dup_o _ _ _ (by omega), dup_o _ _ _ (by omega), drow_o _ _ (by omega), drow_o _ _ (by omega), drow_o _ _ (by omega), drow_o _ _ (by omega), drow_o _ _ (by omega), drow_o _ _ (by omega), dup_t, drow_t]
theorem bgn_1 (D : Nat → Nat → Int) (R : Nat → Int) {j : Nat} (hj : j < 8) : bgn D R 1 j = 0 := by
  rw [bgn_lo _ _ (by omega)]
  unfold bg2 bg1
  rw [dup_o _ _ _ (by omega), dup_o _ _ _ (by omega), drow_o _ _ (by omega), drow_o _ _ (by omega), drow_o _ _ (by omega), drow_o _ _ (by omega), drow_o _ _ (by omega), drow_t]
  exact if_pos hj
theorem bgn_2 (D : Nat → Nat → Int) (R : Nat → Int) {j : Nat} (hj : j < 8) : bgn D R 2 j = 0 := by
  rw [bgn_lo _ _ (by omega)]
  unfold bg2 bg1
  rw [dup_o _ _ _ (by omega), dup_o _ _ _ (by omega), drow_o _ _ (by omega), drow_o _ _ (by omega), drow_o _ _ (by omega), drow_o _ _ (by omega), drow_t]
  exact if_pos hj
theorem bgn_3 (D : Nat → Nat → Int) (R : Nat → Int) {j : Nat} (hj : j < 8) : bgn D R 3 j = 0 := by
  rw [bgn_lo _ _ (by omega)]
  exact bg2_3 D R hj
theorem bgn_4 (D : Nat → Nat → Int) (R : Nat → Int) {j : Nat} (hj : j < 8) : bgn D R 4 j = 0 := by
  rw [bgn_lo _ _ (by omega)]
  unfold bg2 bg1
  rw [dup_o _ _ _ (by omega), dup_o _ _ _ (by omega), drow_o _ _ (by omega), drow_o _ _ (by omega), drow_t]
  exact if_pos hj
theorem bgn_6 (D : Nat → Nat → Int) (R : Nat → Int) {j : Nat} (hj : j < 3) : bgn D R 6 j = -1 := by
  rw [bgn_lo _ _ (by omega)]
  unfold bg2 bg1
  rw [dup_o _ _ _ (by omega), dup_o _ _ _ (by omega), drow_t]
  exact if_pos hj
theorem bgn_10 (D : Nat → Nat → Int) (R : Nat → Int) {j : Nat} (hj : j < 32) : bgn D R 10 j = -1 := by
  rw [bgn_eq]
  unfold la0
  rw [drow_o _ _ (by omega), drow_o _ _ (by omega), drow_t]
  exact if_pos hj
theorem bgn_12 (D : Nat → Nat → Int) (R : Nat → Int) {j : Nat} (hj : j < 32) : bgn D R 12 j = 0 := by
  rw [bgn_eq]
  unfold la0
  rw [drow_t]
  exact if_pos hj
theorem bgn_16 (D : Nat → Nat → Int) (R : Nat → Int) : bgn D R 16 0 = 0 ∧ bgn D R 16 1 = 0 := by
  rw [bgn_lo _ _ (by omega)]
  unfold bg2
  rw [dup_t, dup_t, va_up_self, va_up_ne _ _ (by omega), va_up_self]
  exact ⟨rfl, rfl⟩
theorem iv_bgn (D : Nat → Nat → Int) {R : Nat → Int} {Z : Nat} (h : RR (bgn D R 0) Z) : IV (bgn D R) Z 3 := iv_new h (fun z hz => bgn_2 D R hz) (fun z hz => bgn_3 D R hz) (fun z hz => bgn_6 D R hz) (fun k hk => bgn_10 D R hk) (fun k hk => bgn_12 D R hk) (by unfold LW; rw [(bgn_16 D R).1, (bgn_16 D R).2]; omega) (bgn_1 D R (by omega))
theorem iv_bgs (D : Nat → Nat → Int) {R : Nat → Int} {Z : Nat} {s : Int} (h : RR (dup (bgn D R) 0 4 s 0) Z) : IV (dup (bgn D R) 0 4 s) Z 3 := iv_new h (fun z hz => by rw [dup_o _ _ _ (by omega)]; exact bgn_2 D R hz) (fun z hz => by rw [dup_o _ _ _ (by omega)]; exact bgn_3 D R hz) (fun z hz => by rw [dup_o _ _ _ (by omega)]; exact bgn_6 D R hz) (fun k hk => by rw [dup_o _ _ _ (by omega)]; exact bgn_10 D R hk) (fun k hk => by rw [dup_o _ _ _ (by omega)]; exact bgn_12 D R hk) (by unfold LW; rw [dup_o _ _ _ (by omega), (bgn_16 D R).1, (bgn_16 D R).2]; omega) (by rw [dup_o _ _ _ (by omega)]; exact bgn_1 D R (by omega))
theorem bd_new {E : Nat → Nat → Int} (h1 : ∀ j, j < 8 → E 1 j = 0) (h4 : ∀ z, z < 8 → E 4 z = 0) (n : Nat) : BD E n := by
  refine ⟨by rw [h1 4 (by omega)]; omega, by rw [h1 5 (by omega)]; omega, fun z hz => by rw [h4 z hz]; omega, fun j hj _ _ => by rw [h1 j hj]; omega⟩
/-! rules changed in a trial -/
theorem iv_r0 {D : Nat → Nat → Int} {Z x : Nat} (iv : IV D Z x) {R : Nat → Int} (e0 : R 0 = D 0 0) (e1 : R 1 = D 0 1) (e4 : R 4 = D 0 4) (hr : 1 ≤ R 2 ∧ 1 ≤ R 3 ∧ 0 ≤ R 5 ∧ 0 ≤ R 6 ∧ R 6 ≤ 3) : IV (drow D 0 R) Z x := by
  have o : ∀ r, r ≠ 0 → drow D 0 R r = D r := fun r hr => drow_o _ _ hr
  have t := drow_t D 0 R
  have hh : ∀ p, cd_has (drow D 0 R) p = cd_has D p := by
    intro p
    unfold cd_has
    rw [t, e0, o 3 (by omega)]
  obtain ⟨⟨⟨w, cw, lw⟩, a1, a2, a3⟩, b, c, d, e, f⟩ := iv
  have w' : DW (drow D 0 R) Z := by
    unfold DW at w ⊢
    rw [t, e0, e1, e4, o 3 (by omega), o 7 (by omega), o 10 (by omega)]
    exact w
  have cw' : CW (drow D 0 R) Z := by
    unfold CW at cw ⊢
    rw [t, e1, o 2 (by omega), o 3 (by omega)]
    exact cw
  refine ⟨⟨⟨w', cw', LW_of lw (o 16 (by omega))⟩, a1, by rw [t, e4]; exact a2, by rw [t, e1]; exact a3⟩, ?_, ?_, ?_, ?_, ?_⟩
  · exact CC_of b (fun p _ => (hh p).symm) (fun p _ _ => by rw [o 7 (by omega), o 9 (by omega)]; exact ⟨rfl, rfl⟩) (o 10 (by omega)) (o 11 (by omega)) (o 12 (by omega))
  · rw [o 2 (by omega), o 3 (by omega)]; exact c
  · unfold HV at d ⊢; rw [t, e4, o 3 (by omega), o 6 (by omega)]; exact d
  · rw [t]; exact hr
  · rw [o 1 (by omega), o 9 (by omega)]
    exact ⟨f.1, fun p hp h => f.2 p hp (by rw [← hh p]; exact h)⟩
theorem rl_r0 {D A : Nat → Nat → Int} {md : Bool} {O : Nat → Int} {T : Int} {y : Nat} (rl : RL D A md O T y) {R : Nat → Int} (e0 : R 0 = D 0 0) : RL (drow D 0 R) (drow A 0 R) md O T y := by
  have hh : ∀ p, cd_has (drow D 0 R) p = cd_has D p := by
    intro p
    unfold cd_has
    rw [drow_t, e0, drow_o _ _ (by omega)]
  obtain ⟨⟨a0, a2, a3, a4, a6⟩, ⟨b4, b5⟩, c, d, e, f, g⟩ := rl
  refine ⟨⟨?_, ?_, ?_, ?_, ?_⟩, ⟨?_, ?_⟩, ?_, ?_, ?_, ?_, LG_of g (drow_o _ _ (by omega))⟩
  · rw [drow_t, drow_t]
  · rw [drow_o _ _ (by omega), drow_o _ _ (by omega), a2]
  · rw [drow_o _ _ (by omega), drow_o _ _ (by omega), a3]
  · rw [drow_o _ _ (by omega), drow_o _ _ (by omega), a4]
  · rw [drow_o _ _ (by omega), drow_o _ _ (by omega), a6]
  · rw [drow_o _ _ (by omega), drow_o _ _ (by omega), b4]
  · rw [drow_o _ _ (by omega), drow_o _ _ (by omega), b5]
  · rw [drow_o _ _ (by omega), drow_o _ _ (by omega), drow_o _ _ (by omega)]; exact c
  · intro p hp h
    rw [hh] at h
    rw [drow_o _ _ (by omega), drow_o _ _ (by omega), drow_o _ _ (by omega), drow_o _ _ (by omega), drow_o _ _ (by omega), drow_o _ _ (by omega)]
    exact d p hp h
  · rw [drow_o _ _ (by omega), drow_o _ _ (by omega)]; exact e
  · intro m
    exact ⟨(f m).1, LR_of (f m).2 (drow_o _ _ (by omega)) (drow_o _ _ (by omega)) (drow_o _ _ (by omega)) (drow_o _ _ (by omega)) (drow_o _ _ (by omega))⟩
theorem pack_r0 (A : Nat → Nat → Int) {R : Nat → Int} (h : R 6 = A 0 6) : pack (drow A 0 R) = pack A := by
  funext i
  unfold pack
  rw [drow_o _ _ (show (2 : Nat) ≠ 0 by omega), drow_o _ _ (show (3 : Nat) ≠ 0 by omega), drow_o _ _ (show (4 : Nat) ≠ 0 by omega), drow_o _ _ (show (5 : Nat) ≠ 0 by omega), drow_o _ _ (show (7 : Nat) ≠ 0 by omega), drow_o _ _ (show (8 : Nat) ≠ 0 by omega), drow_o _ _ (show (9 : Nat) ≠ 0 by omega), drow_o _ _ (show (6 : Nat) ≠ 0 by omega), drow_o _ _ (show (1 : Nat) ≠ 0 by omega), drow_o _ _ (show (13 : Nat) ≠ 0 by omega), drow_t, h]
/-! the model's rules, changed for a while -/
def usM (M : Nat → Nat → Int) : Nat → Nat → Int := dup (dup (dup M 0 23 (M 3 2)) 0 24 (M 3 3)) 0 25 (M 3 4)
def MU (M M' : Nat → Nat → Int) : Prop := (∀ r, r ≠ 0 → r ≠ 9 → r ≠ 10 → r ≠ 13 → M' r = M r) ∧ ∀ j, j ≠ 23 → j ≠ 24 → j ≠ 25 → j ≠ 27 → j ≠ 28 → j ≠ 29 → M' 0 j = M 0 j
theorem MU_refl (M : Nat → Nat → Int) : MU M M := ⟨fun _ _ _ _ _ => rfl, fun _ _ _ _ _ _ _ => rfl⟩
theorem MU_trans {M M' M'' : Nat → Nat → Int} (a : MU M M') (b : MU M' M'') : MU M M'' := ⟨fun r h0 h1 h2 h3 => (b.1 r h0 h1 h2 h3).trans (a.1 r h0 h1 h2 h3), fun j h1 h2 h3 h4 h5 h6 => (b.2 j h1 h2 h3 h4 h5 h6).trans (a.2 j h1 h2 h3 h4 h5 h6)⟩
theorem MU_MT {M M' : Nat → Nat → Int} (h : MT M M') : MU M M' := ⟨h.1, fun j _ _ _ h1 h2 h3 => h.2 j h1 h2 h3⟩
theorem MU_f (M : Nat → Nat → Int) {j : Nat} (hj : j = 23 ∨ j = 24 ∨ j = 25) (v : Int) : MU M (dup M 0 j v) := ⟨fun r h _ _ _ => dup_o _ _ _ h, fun i _ _ _ _ _ _ => by rw [dup_t, va_up_ne _ _ (by omega)]⟩
theorem usM_o (M : Nat → Nat → Int) {r : Nat} (hr : r ≠ 0) : usM M r = M r := by
  unfold usM
  rw [dup_o _ _ _ hr, dup_o _ _ _ hr, dup_o _ _ _ hr]
theorem MK_us {M M' : Nat → Nat → Int} (ru : M 0 23 = M 3 2 ∧ M 0 24 = M 3 3 ∧ M 0 25 = M 3 4) (mu : MU M M') : MK M (usM M') := by
  have h3 : M' 3 = M 3 := mu.1 3 (by omega) (by omega) (by omega) (by omega)
  refine ⟨fun r hr => ?_, fun j hj => ?_⟩
  · rw [usM_o _ (by omega)]
    exact mu.1 r (by omega) (by omega) (by omega) (by omega)
  · unfold usM
    rw [h3]
    by_cases e25 : j = 25
    · rw [e25, dup_t, va_up_self]; exact ru.2.2.symm
    · rw [dup_t, va_up_ne _ _ e25]
      by_cases e24 : j = 24
      · rw [e24, dup_t, va_up_self]; exact ru.2.1.symm
      · rw [dup_t, va_up_ne _ _ e24]
        by_cases e23 : j = 23
        · rw [e23, dup_t, va_up_self]; exact ru.1.symm
        · rw [dup_t, va_up_ne _ _ e23]
          exact mu.2 j e23 e24 e25 (by omega) (by omega) (by omega)
section FRESH
variable {x mo n m Z : Nat} {A : Nat → Nat} {N P K T S M At Ad : Nat → Nat → Int} {HD : Nat → Nat → Nat → Int} {h g : am_H}
theorem m_usual : am_cV 107 [am_R mo] (mv mo M g) = some (mv mo (usM M) g) := by
  have r2 := mv_r3 (m := mo) (M := M) (h := g) (j := 2) (by omega) (by omega)
  have r3 := mv_r3 (m := mo) (M := dup M 0 23 (M 3 2)) (h := g) (j := 3) (by omega) (by omega)
  have r4 := mv_r3 (m := mo) (M := dup (dup M 0 23 (M 3 2)) 0 24 (M 3 3)) (h := g) (j := 4) (by omega) (by omega)
  rw [show (2 : Int).toNat = 2 from rfl] at r2
  rw [show (3 : Int).toNat = 3 from rfl, dup_o _ _ _ (show (3 : Nat) ≠ 0 by omega)] at r3
  rw [show (4 : Int).toNat = 4 from rfl, dup_o _ _ _ (show (3 : Nat) ≠ 0 by omega), dup_o _ _ _ (show (3 : Nat) ≠ 0 by omega)] at r4
  unfold usM
  rw [am_cV]; simp (disch := omega) only [en_107, bk_107_0, bk_107_22, mv_f0_6, mv_p0_23, mv_p0_24, mv_p0_25, r2, r3, r4, Option.bind_some, Bool.cond_decide, am_oI_some, am_oV_some, am_oI_ite, am_oV_ite, am_bind_ite, Int.toNat_natCast, Int.toNat_zero, Int.reduceToNat, ite_true, ite_false, not_true_eq_false, not_false_eq_true, decide_true, decide_false, decide_eq_true_eq, Bool.false_eq_true, Nat.add_zero, am_rok1_0, am_rok1_1, cond_true, cond_false, am_w_nat1, true_or, or_true, false_or, or_false, true_and, and_true, false_and, and_false, Int.reduceEq, Int.reduceNeg, Int.reduceLT, Int.reduceLE, or_self, and_self, if_pos, if_neg]
theorem ru_us (ru : RU M N) : dup M 0 0 0 0 23 = dup M 0 0 0 3 2 ∧ dup M 0 0 0 0 24 = dup M 0 0 0 3 3 ∧ dup M 0 0 0 0 25 = dup M 0 0 0 3 4 := by
  have o : ∀ j, j ≠ 0 → dup M 0 0 0 0 j = M 0 j := fun j hj => by rw [dup_t, va_up_ne _ _ hj]
  rw [o 23 (by omega), o 24 (by omega), o 25 (by omega), dup_o _ _ _ (show (3 : Nat) ≠ 0 by omega), ru.1 2 (by omega), ru.1 3 (by omega), ru.1 4 (by omega)]
  exact ⟨ru.2.1, ru.2.2.1, ru.2.2.2.1⟩
theorem m_rdt {c : Nat} (hc : 8 ≤ c ∧ c ≤ 11) (p : ∀ j, j < 609 → M c j = pack Ad j) : am_rd (mv mo M g) (mo + c) 0 426 = some (Ad 1 6) ∧ am_rd (mv mo M g) (mo + c) 0 427 = some (Ad 1 7) := by
  have r0 := mr1_6 (m := mo) (M := M) (A := Ad) (h := g) hc
  have r1 := mr1_7 (m := mo) (M := M) (A := Ad) (h := g) hc
  rw [← mv_pk hc p] at r0 r1
  exact ⟨r0, r1⟩
theorem zn_many (iv : IV N Z 3) (v : Int) : am_cI 74 [am_R (x + 13), am_I v] (zv x N P K T S m A h) = some ((cd_many N Z v : Int), (zv x N P K T S m A h)) := by
  have c := d_countOf (d := x + 13) (h := (zv x N P K T S m A h)) iv.1.1.1 v
  rw [zv_dN] at c
  exact c
theorem zn_active (iv : IV N Z 3) : am_cI 86 [am_R (x + 13)] (zv x N P K T S m A h) = some (((cd_many N Z 1 + cd_many N Z 2 : Nat) : Int), (zv x N P K T S m A h)) := by
  have c := d_countActive (d := x + 13) (h := (zv x N P K T S m A h)) iv.1.1.1
  rw [zv_dN] at c
  exact c
theorem tk_strain (w : WR n m N K S HD M) (hn : n + 610000 < 2147483647) (o ac a sd b : Int) : TK 257 258 [am_I o, am_I ac, am_I a, am_L sd, am_I b] x mo m A N P K T S M h g := by
  have c1 := c_canTry (x := x) (N := N) (P := P) (K := K) (T := T) (S := S) (m := m) (A := A) (h := h) a
  have mk0 := MK_f M (j := 0) (by omega) 0
  have d1 := m_isIn o 1 8 (mv mo (dup M 0 0 0) g)
  have d2 := m_isIn ac o 8 (mv mo (dup M 0 0 0) g)
  have d3 := m_isIn a 1 200 (mv mo (dup M 0 0 0) g)
  have d4 := m_isIn b 0 1 (mv mo (dup M 0 0 0) g)
  rcases w.2.2.2.2 with w0 | ⟨Z, wd⟩
  · rw [if_neg (by have := w0.2.1.1; omega)] at c1
    have f14 : dup M 0 0 0 0 14 = 0 := by rw [dup_t, va_up_ne _ _ (by omega)]; exact w0.1
    refine ⟨-1, P, T, S, dup M 0 0 0, ?_, ?_, mk0, SK_refl S⟩
    · rw [am_cI, en_257, bk_257_0]; simp (disch := omega) only [bk_257_41, zv_c0, c1, Option.bind_some, Bool.cond_decide, am_oI_some, am_oV_some, am_oI_ite, am_oV_ite, am_bind_ite, Int.toNat_natCast, Int.toNat_zero, Int.reduceToNat, ite_true, ite_false, not_true_eq_false, not_false_eq_true, decide_true, decide_false, decide_eq_true_eq, Bool.false_eq_true, Nat.add_zero, am_rok1_0, am_rok1_1, cond_true, cond_false, am_w_nat1, true_or, or_true, false_or, or_false, true_and, and_true, false_and, and_false, Int.reduceEq, Int.reduceNeg, Int.reduceLT, Int.reduceLE, or_self, and_self, if_pos, if_neg]
    · rw [am_cI, en_258, bk_258_0]; simp (disch := omega) only [bk_258_85, mv_p0_0, mv_c0, mv_f0_14, f14, Option.bind_some, Bool.cond_decide, am_oI_some, am_oV_some, am_oI_ite, am_oV_ite, am_bind_ite, Int.toNat_natCast, Int.toNat_zero, Int.reduceToNat, ite_true, ite_false, not_true_eq_false, not_false_eq_true, decide_true, decide_false, decide_eq_true_eq, Bool.false_eq_true, Nat.add_zero, am_rok1_0, am_rok1_1, cond_true, cond_false, am_w_nat1, true_or, or_true, false_or, or_false, true_and, and_true, false_and, and_false, Int.reduceEq, Int.reduceNeg, Int.reduceLT, Int.reduceLE, or_self, and_self, if_pos, if_neg]
  · obtain ⟨Ad, iv, rl, mr, pk, f14, f30, bd, nd, ru, p8⟩ := ctx2 mo wd
    have hN : 0 < N 0 0 := by have := iv.pw.1; have := iv.1.2.1; omega
    have c2 := zn_many (x := x) (P := P) (K := K) (T := T) (S := S) (m := m) (A := A) (h := h) iv 1
    have c3 := zn_active (x := x) (P := P) (K := K) (T := T) (S := S) (m := m) (A := A) (h := h) iv
    have d5 := m_many (m := mo) (h := g) (c := 8) (by omega) mr ((congrFun rl.1.1 0).trans iv.pw.1) iv.pw.2.1 1
    rw [← pk, cd_many_of rl.1.2.1] at d5
    have d6 := m_active (m := mo) (h := g) (c := 8) (by omega) mr (rl_AW iv rl)
    rw [← pk, cd_many_of rl.1.2.1, cd_many_of rl.1.2.1] at d6
    by_cases e : (1 ≤ a ∧ a ≤ 200) ∧ (0 ≤ b ∧ b ≤ 1) ∧ (1 ≤ o ∧ o ≤ 8) ∧ (o ≤ ac ∧ ac ≤ 8) ∧ (cd_many N Z 1 : Int) ≤ o ∧ ((cd_many N Z 1 + cd_many N Z 2 : Nat) : Int) ≤ ac
    · obtain ⟨e1, e2, e3, e4, e5, e6⟩ := e
      rw [if_pos ⟨hN, e1⟩] at c1
      rw [if_pos e3] at d1
      rw [if_pos e4] at d2
      rw [if_pos e1] at d3
      rw [if_pos e2] at d4
      obtain ⟨q, rfl⟩ : ∃ q : Nat, a = q := ⟨a.toNat, by omega⟩
      have ct := zt_copy (x := x) (N := N) (P := P) (K := K) (T := T) (S := S) (m := m) (A := A) (h := h)
      have cw2 := zT_w0 (x := x) (N := N) (P := P) (K := K) (T := N) (S := S) (m := m) (A := A) (h := h) (j := 2) o (by omega) (by omega)
      have cw3 := zT_w0 (x := x) (N := N) (P := P) (K := K) (T := dup N 0 2 o) (S := S) (m := m) (A := A) (h := h) (j := 3) ac (by omega) (by omega)
      rw [show (2 : Int).toNat = 2 from rfl] at cw2
      rw [show (3 : Int).toNat = 3 from rfl] at cw3
      have cc := m_cpt (mo := mo) (g := g) p8
      have eT : dup (dup N 0 2 o) 0 3 ac = drow N 0 (va_up (va_up (N 0) 2 o) 3 ac) := dup_drow N 0 (va_up (N 0) 2 o) 3 ac
      have R : ∀ j, j ≠ 2 → j ≠ 3 → va_up (va_up (N 0) 2 o) 3 ac j = N 0 j := fun j h2 h3 => by rw [va_up_ne _ _ h3, va_up_ne _ _ h2]
      have R2 : va_up (va_up (N 0) 2 o) 3 ac 2 = o := by rw [va_up_ne _ _ (by omega), va_up_self]
      have R3 : va_up (va_up (N 0) 2 o) 3 ac 3 = ac := va_up_self _ _ _
      have ivT : IV (dup (dup N 0 2 o) 0 3 ac) Z 3 := by
        rw [eT]
        refine iv_r0 iv (R 0 (by omega) (by omega)) (R 1 (by omega) (by omega)) (R 4 (by omega) (by omega)) ?_
        rw [R2, R3, R 5 (by omega) (by omega), R 6 (by omega) (by omega)]
        have := iv.2.2.2.2.1
        exact ⟨by omega, by omega, this.2.2⟩
      have rlT : RL (dup (dup N 0 2 o) 0 3 ac) (drow Ad 0 (va_up (va_up (N 0) 2 o) 3 ac)) true (fun _ => 0) 0 8 := by
        rw [eT]
        exact rl_r0 rl (R 0 (by omega) (by omega))
      have bdT : BD (dup (dup N 0 2 o) 0 3 ac) n := BD_of bd (by rw [dup_o _ _ _ (by omega), dup_o _ _ _ (by omega)]) (by rw [dup_o _ _ _ (by omega), dup_o _ _ _ (by omega)]) (by rw [dup_o _ _ _ (by omega), dup_o _ _ _ (by omega)])
      have epk : pack (drow Ad 0 (va_up (va_up (N 0) 2 o) 3 ac)) = pack Ad := pack_r0 Ad (by rw [R 6 (by omega) (by omega), rl.1.1])
      have mrT : MR (dup (dup (dup M 0 0 0) 0 23 o) 0 24 ac) (drow Ad 0 (va_up (va_up (N 0) 2 o) 3 ac)) := by
        unfold MR at mr ⊢
        rw [drow_t, dup_o _ _ _ (show (3 : Nat) ≠ 0 by omega), dup_o _ _ _ (show (3 : Nat) ≠ 0 by omega), R2, R3, R 0 (by omega) (by omega), R 1 (by omega) (by omega), R 4 (by omega) (by omega), R 5 (by omega) (by omega)]
        rw [rl.1.1] at mr
        refine ⟨mr.1, mr.2.1, ?_, ?_, ?_, mr.2.2.2.2.2⟩
        · rw [dup_t, va_up_ne _ _ (by omega), dup_t, va_up_self]
        · rw [dup_t, va_up_self]
        · rw [dup_t, va_up_ne _ _ (by omega), dup_t, va_up_ne _ _ (by omega)]
          exact mr.2.2.2.2.1
      obtain ⟨d, P', T', At', S', M', hd, k1, k2, k3, k4, k5, k6, k7, k8, k9, k10, k11⟩ := t_grow (x := x) (mo := mo) (m := m) (A := A) (N := N) (P := P) (K := K) (S := S) (h := h) (g := g) (q := q) (by omega) sd (Int.le_refl 0) ivT rlT bdT (by omega) mrT
      rw [epk] at k2
      have mu : MU (dup M 0 0 0) (drow M' 9 (pack At')) := MU_trans (MU_trans (MU_f _ (by omega) o) (MU_f _ (by omega) ac)) (MU_MT (MT_trans k7 (MT_9 M' _)))
      have cu := m_usual (mo := mo) (M := drow M' 9 (pack At')) (g := g)
      have t := tl_01 k8
      have u := tl_01 rl
      have q9 := m_rdt (mo := mo) (g := g) (M := usM (drow M' 9 (pack At'))) (c := 9) (Ad := At') (by omega) (by rw [usM_o _ (by omega), drow_t]; exact fun _ _ => rfl)
      have q8 := m_rdt (mo := mo) (g := g) (M := usM (drow M' 9 (pack At'))) (c := 8) (Ad := Ad) (by omega) (by rw [usM_o _ (by omega), mu.1 8 (by omega) (by omega) (by omega) (by omega)]; exact p8)
      rw [t.2.2.1, t.2.2.2] at q9
      rw [u.2.2.1, u.2.2.2] at q8
      have us := ru_us ru
      have p23 := mv_p0_23 (m := mo) (M := drow (dup M 0 0 0) 9 (pack Ad)) (h := g) o
      have p24 := mv_p0_24 (m := mo) (M := drow (dup (dup M 0 0 0) 0 23 o) 9 (pack Ad)) (h := g) ac
      rw [dup_drow_o _ _ _ _ (by omega)] at p23 p24
      clear iv rl bd nd ru p8 pk mr wd w ivT rlT bdT mrT k8 k9 k11 epk hn
      have em1 : am_cI 258 [am_R mo, am_I o, am_I ac, am_I q, am_L sd, am_I b] (mv mo M g) = am_oI (am_run am_ms 258 87 [am_R mo, am_I o, am_I ac, am_I q, am_L sd, am_K 1, am_I b, am_K 1] [] (mv mo (dup M 0 0 0) g)) := by
        have e5' : ¬ o < (cd_many N Z 1 : Int) := by omega
        have e6' : ¬ ac < ((cd_many N Z 1 + cd_many N Z 2 : Nat) : Int) := by omega
        rw [am_cI, en_258, bk_258_0]; simp only [bk_258_26, bk_258_52, bk_258_79, mv_p0_0, mv_c0, mv_f0_14, mv_f0_15, f14, d1, d2, d3, d4, d5, d6, e5', e6', Option.bind_some, Bool.cond_decide, am_oI_some, am_oV_some, am_oI_ite, am_oV_ite, am_bind_ite, Int.toNat_natCast, Int.toNat_zero, Int.reduceToNat, ite_true, ite_false, not_true_eq_false, not_false_eq_true, decide_true, decide_false, decide_eq_true_eq, Bool.false_eq_true, Nat.add_zero, am_rok1_0, am_rok1_1, cond_true, cond_false, am_w_nat1, true_or, or_true, false_or, or_false, true_and, and_true, false_and, and_false, Int.reduceEq, Int.reduceNeg, Int.reduceLT, Int.reduceLE, or_self, and_self]
      have em2 : am_run am_ms 258 87 [am_R mo, am_I o, am_I ac, am_I q, am_L sd, am_K 1, am_I b, am_K 1] [] (mv mo (dup M 0 0 0) g) = am_run am_ms 258 111 [am_R mo, am_I o, am_I ac, am_I q, am_L sd, am_K 1, am_I b, am_K 1] [am_R mo] (mv mo (drow (dup (dup (dup M 0 0 0) 0 23 o) 0 24 ac) 9 (pack Ad)) g) := by
        rw [bk_258_87]; simp only [mv_f0_15, mv_f0_16, cc, p23, p24, Option.bind_some, Bool.cond_decide, am_oI_some, am_oV_some, am_oI_ite, am_oV_ite, am_bind_ite, Int.toNat_natCast, Int.toNat_zero, Int.reduceToNat, ite_true, ite_false, not_true_eq_false, not_false_eq_true, decide_true, decide_false, decide_eq_true_eq, Bool.false_eq_true, Nat.add_zero, am_rok1_0, am_rok1_1, cond_true, cond_false, am_w_nat1, true_or, or_true, false_or, or_false, true_and, and_true, false_and, and_false, Int.reduceEq, Int.reduceNeg, Int.reduceLT, Int.reduceLE, or_self, and_self]
      clear d1 d2 d3 d4 d5 d6 cc p23 p24 f14 f30
      by_cases e7 : b = 0
      · refine ⟨am_w (T' 1 6 - N 1 6), P', T', S', usM (drow M' 9 (pack At')), ?_, ?_, MK_trans mk0 (MK_us us mu), SG_SK k6⟩
        · rw [am_cI, en_257, bk_257_0]; simp (disch := omega) only [bk_257_27, bk_257_43, bk_257_68, bk_257_96, bk_257_125, bk_257_130, zv_c0, zv_f0_4, zv_f0_8, zv_f67_0, zv_c67, zT_c, zN_c, zT_f0, zT_f1, zN_f1, zT_r1, zN_r1, c1, c2, c3, ct, cw2, cw3, k1, Option.bind_some, Bool.cond_decide, am_oI_some, am_oV_some, am_oI_ite, am_oV_ite, am_bind_ite, Int.toNat_natCast, Int.toNat_zero, Int.reduceToNat, ite_true, ite_false, not_true_eq_false, not_false_eq_true, decide_true, decide_false, decide_eq_true_eq, Bool.false_eq_true, Nat.add_zero, am_rok1_0, am_rok1_1, cond_true, cond_false, am_w_nat1, true_or, or_true, false_or, or_false, true_and, and_true, false_and, and_false, Int.reduceEq, Int.reduceNeg, Int.reduceLT, Int.reduceLE, or_self, and_self, if_pos, if_neg]
        · rw [em1, em2, bk_258_111]; simp only [bk_258_140, bk_258_165, mv_c0, mv_f0_15, mv_f0_16, k2, cu, e7, q8.1, q9.1, Option.bind_some, Bool.cond_decide, am_oI_some, am_oV_some, am_oI_ite, am_oV_ite, am_bind_ite, Int.toNat_natCast, Int.toNat_zero, Int.reduceToNat, ite_true, ite_false, not_true_eq_false, not_false_eq_true, decide_true, decide_false, decide_eq_true_eq, Bool.false_eq_true, Nat.add_zero, am_rok1_0, am_rok1_1, cond_true, cond_false, am_w_nat1, true_or, or_true, false_or, or_false, true_and, and_true, false_and, and_false, Int.reduceEq, Int.reduceNeg, Int.reduceLT, Int.reduceLE, or_self, and_self]
      · refine ⟨am_w (T' 1 7 - N 1 7), P', T', S', usM (drow M' 9 (pack At')), ?_, ?_, MK_trans mk0 (MK_us us mu), SG_SK k6⟩
        · rw [am_cI, en_257, bk_257_0]; simp (disch := omega) only [bk_257_27, bk_257_43, bk_257_68, bk_257_96, bk_257_128, bk_257_130, zv_c0, zv_f0_4, zv_f0_8, zv_f67_0, zv_c67, zT_c, zN_c, zT_f0, zT_f1, zN_f1, zT_r1, zN_r1, c1, c2, c3, ct, cw2, cw3, k1, Option.bind_some, Bool.cond_decide, am_oI_some, am_oV_some, am_oI_ite, am_oV_ite, am_bind_ite, Int.toNat_natCast, Int.toNat_zero, Int.reduceToNat, ite_true, ite_false, not_true_eq_false, not_false_eq_true, decide_true, decide_false, decide_eq_true_eq, Bool.false_eq_true, Nat.add_zero, am_rok1_0, am_rok1_1, cond_true, cond_false, am_w_nat1, true_or, or_true, false_or, or_false, true_and, and_true, false_and, and_false, Int.reduceEq, Int.reduceNeg, Int.reduceLT, Int.reduceLE, or_self, and_self, if_pos, if_neg]
        · rw [em1, em2, bk_258_111]; simp only [bk_258_148, bk_258_165, mv_c0, mv_f0_15, mv_f0_16, k2, cu, e7, q8.2, q9.2, Option.bind_some, Bool.cond_decide, am_oI_some, am_oV_some, am_oI_ite, am_oV_ite, am_bind_ite, Int.toNat_natCast, Int.toNat_zero, Int.reduceToNat, ite_true, ite_false, not_true_eq_false, not_false_eq_true, decide_true, decide_false, decide_eq_true_eq, Bool.false_eq_true, Nat.add_zero, am_rok1_0, am_rok1_1, cond_true, cond_false, am_w_nat1, true_or, or_true, false_or, or_false, true_and, and_true, false_and, and_false, Int.reduceEq, Int.reduceNeg, Int.reduceLT, Int.reduceLE, or_self, and_self]
    · refine ⟨-1, P, T, S, dup M 0 0 0, ?_, ?_, mk0, SK_refl S⟩
      · by_cases e1 : 1 ≤ a ∧ a ≤ 200
        · rw [if_pos ⟨hN, e1⟩] at c1
          by_cases e2 : b < 0
          · clear e
            rw [am_cI, en_257, bk_257_0]; simp (disch := omega) only [bk_257_41, zv_c0, c1, Option.bind_some, Bool.cond_decide, am_oI_some, am_oV_some, am_oI_ite, am_oV_ite, am_bind_ite, Int.toNat_natCast, Int.toNat_zero, Int.reduceToNat, ite_true, ite_false, not_true_eq_false, not_false_eq_true, decide_true, decide_false, decide_eq_true_eq, Bool.false_eq_true, Nat.add_zero, am_rok1_0, am_rok1_1, cond_true, cond_false, am_w_nat1, true_or, or_true, false_or, or_false, true_and, and_true, false_and, and_false, Int.reduceEq, Int.reduceNeg, Int.reduceLT, Int.reduceLE, or_self, and_self, if_pos, if_neg]
          by_cases e3 : 1 < b
          · clear e
            rw [am_cI, en_257, bk_257_0]; simp (disch := omega) only [bk_257_41, zv_c0, c1, Option.bind_some, Bool.cond_decide, am_oI_some, am_oV_some, am_oI_ite, am_oV_ite, am_bind_ite, Int.toNat_natCast, Int.toNat_zero, Int.reduceToNat, ite_true, ite_false, not_true_eq_false, not_false_eq_true, decide_true, decide_false, decide_eq_true_eq, Bool.false_eq_true, Nat.add_zero, am_rok1_0, am_rok1_1, cond_true, cond_false, am_w_nat1, true_or, or_true, false_or, or_false, true_and, and_true, false_and, and_false, Int.reduceEq, Int.reduceNeg, Int.reduceLT, Int.reduceLE, or_self, and_self, if_pos, if_neg]
          by_cases e4 : o < 1
          · clear e
            rw [am_cI, en_257, bk_257_0]; simp (disch := omega) only [bk_257_41, zv_c0, c1, Option.bind_some, Bool.cond_decide, am_oI_some, am_oV_some, am_oI_ite, am_oV_ite, am_bind_ite, Int.toNat_natCast, Int.toNat_zero, Int.reduceToNat, ite_true, ite_false, not_true_eq_false, not_false_eq_true, decide_true, decide_false, decide_eq_true_eq, Bool.false_eq_true, Nat.add_zero, am_rok1_0, am_rok1_1, cond_true, cond_false, am_w_nat1, true_or, or_true, false_or, or_false, true_and, and_true, false_and, and_false, Int.reduceEq, Int.reduceNeg, Int.reduceLT, Int.reduceLE, or_self, and_self, if_pos, if_neg]
          by_cases e5 : 8 < o
          · clear e
            rw [am_cI, en_257, bk_257_0]; simp (disch := omega) only [bk_257_27, bk_257_41, zv_c0, c1, Option.bind_some, Bool.cond_decide, am_oI_some, am_oV_some, am_oI_ite, am_oV_ite, am_bind_ite, Int.toNat_natCast, Int.toNat_zero, Int.reduceToNat, ite_true, ite_false, not_true_eq_false, not_false_eq_true, decide_true, decide_false, decide_eq_true_eq, Bool.false_eq_true, Nat.add_zero, am_rok1_0, am_rok1_1, cond_true, cond_false, am_w_nat1, true_or, or_true, false_or, or_false, true_and, and_true, false_and, and_false, Int.reduceEq, Int.reduceNeg, Int.reduceLT, Int.reduceLE, or_self, and_self, if_pos, if_neg]
          by_cases e6 : ac < o
          · clear e
            rw [am_cI, en_257, bk_257_0]; simp (disch := omega) only [bk_257_27, bk_257_41, zv_c0, c1, Option.bind_some, Bool.cond_decide, am_oI_some, am_oV_some, am_oI_ite, am_oV_ite, am_bind_ite, Int.toNat_natCast, Int.toNat_zero, Int.reduceToNat, ite_true, ite_false, not_true_eq_false, not_false_eq_true, decide_true, decide_false, decide_eq_true_eq, Bool.false_eq_true, Nat.add_zero, am_rok1_0, am_rok1_1, cond_true, cond_false, am_w_nat1, true_or, or_true, false_or, or_false, true_and, and_true, false_and, and_false, Int.reduceEq, Int.reduceNeg, Int.reduceLT, Int.reduceLE, or_self, and_self, if_pos, if_neg]
          by_cases e7 : 8 < ac
          · clear e
            rw [am_cI, en_257, bk_257_0]; simp (disch := omega) only [bk_257_27, bk_257_41, zv_c0, c1, Option.bind_some, Bool.cond_decide, am_oI_some, am_oV_some, am_oI_ite, am_oV_ite, am_bind_ite, Int.toNat_natCast, Int.toNat_zero, Int.reduceToNat, ite_true, ite_false, not_true_eq_false, not_false_eq_true, decide_true, decide_false, decide_eq_true_eq, Bool.false_eq_true, Nat.add_zero, am_rok1_0, am_rok1_1, cond_true, cond_false, am_w_nat1, true_or, or_true, false_or, or_false, true_and, and_true, false_and, and_false, Int.reduceEq, Int.reduceNeg, Int.reduceLT, Int.reduceLE, or_self, and_self, if_pos, if_neg]
          by_cases e8 : o < (cd_many N Z 1 : Int)
          · clear e
            rw [am_cI, en_257, bk_257_0]; simp (disch := omega) only [bk_257_27, bk_257_43, bk_257_66, zv_c0, zv_f0_4, zN_c, c1, c2, Option.bind_some, Bool.cond_decide, am_oI_some, am_oV_some, am_oI_ite, am_oV_ite, am_bind_ite, Int.toNat_natCast, Int.toNat_zero, Int.reduceToNat, ite_true, ite_false, not_true_eq_false, not_false_eq_true, decide_true, decide_false, decide_eq_true_eq, Bool.false_eq_true, Nat.add_zero, am_rok1_0, am_rok1_1, cond_true, cond_false, am_w_nat1, true_or, or_true, false_or, or_false, true_and, and_true, false_and, and_false, Int.reduceEq, Int.reduceNeg, Int.reduceLT, Int.reduceLE, or_self, and_self, if_pos, if_neg]
          have e9 : ac < ((cd_many N Z 1 + cd_many N Z 2 : Nat) : Int) := by omega
          clear e
          rw [am_cI, en_257, bk_257_0]; simp (disch := omega) only [bk_257_27, bk_257_43, bk_257_66, zv_c0, zv_f0_4, zN_c, c1, c2, c3, Option.bind_some, Bool.cond_decide, am_oI_some, am_oV_some, am_oI_ite, am_oV_ite, am_bind_ite, Int.toNat_natCast, Int.toNat_zero, Int.reduceToNat, ite_true, ite_false, not_true_eq_false, not_false_eq_true, decide_true, decide_false, decide_eq_true_eq, Bool.false_eq_true, Nat.add_zero, am_rok1_0, am_rok1_1, cond_true, cond_false, am_w_nat1, true_or, or_true, false_or, or_false, true_and, and_true, false_and, and_false, Int.reduceEq, Int.reduceNeg, Int.reduceLT, Int.reduceLE, or_self, and_self, if_pos, if_neg]
        · rw [if_neg (fun q => e1 q.2)] at c1
          rw [am_cI, en_257, bk_257_0]; simp (disch := omega) only [bk_257_41, zv_c0, c1, Option.bind_some, Bool.cond_decide, am_oI_some, am_oV_some, am_oI_ite, am_oV_ite, am_bind_ite, Int.toNat_natCast, Int.toNat_zero, Int.reduceToNat, ite_true, ite_false, not_true_eq_false, not_false_eq_true, decide_true, decide_false, decide_eq_true_eq, Bool.false_eq_true, Nat.add_zero, am_rok1_0, am_rok1_1, cond_true, cond_false, am_w_nat1, true_or, or_true, false_or, or_false, true_and, and_true, false_and, and_false, Int.reduceEq, Int.reduceNeg, Int.reduceLT, Int.reduceLE, or_self, and_self, if_pos, if_neg]
      · by_cases e3 : 1 ≤ o ∧ o ≤ 8
        · rw [if_pos e3] at d1
          by_cases e4 : o ≤ ac ∧ ac ≤ 8
          · rw [if_pos e4] at d2
            by_cases e5 : o < (cd_many N Z 1 : Int)
            · clear e
              rw [am_cI, en_258, bk_258_0]; simp (disch := omega) only [bk_258_26, bk_258_85, mv_p0_0, mv_c0, mv_f0_14, mv_f0_15, f14, d1, d2, d5, Option.bind_some, Bool.cond_decide, am_oI_some, am_oV_some, am_oI_ite, am_oV_ite, am_bind_ite, Int.toNat_natCast, Int.toNat_zero, Int.reduceToNat, ite_true, ite_false, not_true_eq_false, not_false_eq_true, decide_true, decide_false, decide_eq_true_eq, Bool.false_eq_true, Nat.add_zero, am_rok1_0, am_rok1_1, cond_true, cond_false, am_w_nat1, true_or, or_true, false_or, or_false, true_and, and_true, false_and, and_false, Int.reduceEq, Int.reduceNeg, Int.reduceLT, Int.reduceLE, or_self, and_self, if_pos, if_neg]
            · by_cases e6 : ac < ((cd_many N Z 1 + cd_many N Z 2 : Nat) : Int)
              · clear e
                rw [am_cI, en_258, bk_258_0]; simp (disch := omega) only [bk_258_26, bk_258_52, bk_258_85, mv_p0_0, mv_c0, mv_f0_14, mv_f0_15, f14, d1, d2, d5, d6, Option.bind_some, Bool.cond_decide, am_oI_some, am_oV_some, am_oI_ite, am_oV_ite, am_bind_ite, Int.toNat_natCast, Int.toNat_zero, Int.reduceToNat, ite_true, ite_false, not_true_eq_false, not_false_eq_true, decide_true, decide_false, decide_eq_true_eq, Bool.false_eq_true, Nat.add_zero, am_rok1_0, am_rok1_1, cond_true, cond_false, am_w_nat1, true_or, or_true, false_or, or_false, true_and, and_true, false_and, and_false, Int.reduceEq, Int.reduceNeg, Int.reduceLT, Int.reduceLE, or_self, and_self, if_pos, if_neg]
              · by_cases e7 : 1 ≤ a ∧ a ≤ 200
                · rw [if_pos e7] at d3
                  rw [if_neg (fun q => e ⟨e7, q, e3, e4, by omega, by omega⟩)] at d4
                  clear e
                  rw [am_cI, en_258, bk_258_0]; simp (disch := omega) only [bk_258_26, bk_258_52, bk_258_79, bk_258_85, mv_p0_0, mv_c0, mv_f0_14, mv_f0_15, f14, d1, d2, d3, d4, d5, d6, Option.bind_some, Bool.cond_decide, am_oI_some, am_oV_some, am_oI_ite, am_oV_ite, am_bind_ite, Int.toNat_natCast, Int.toNat_zero, Int.reduceToNat, ite_true, ite_false, not_true_eq_false, not_false_eq_true, decide_true, decide_false, decide_eq_true_eq, Bool.false_eq_true, Nat.add_zero, am_rok1_0, am_rok1_1, cond_true, cond_false, am_w_nat1, true_or, or_true, false_or, or_false, true_and, and_true, false_and, and_false, Int.reduceEq, Int.reduceNeg, Int.reduceLT, Int.reduceLE, or_self, and_self, if_pos, if_neg]
                · rw [if_neg e7] at d3
                  clear e
                  rw [am_cI, en_258, bk_258_0]; simp (disch := omega) only [bk_258_26, bk_258_52, bk_258_85, mv_p0_0, mv_c0, mv_f0_14, mv_f0_15, f14, d1, d2, d3, d5, d6, Option.bind_some, Bool.cond_decide, am_oI_some, am_oV_some, am_oI_ite, am_oV_ite, am_bind_ite, Int.toNat_natCast, Int.toNat_zero, Int.reduceToNat, ite_true, ite_false, not_true_eq_false, not_false_eq_true, decide_true, decide_false, decide_eq_true_eq, Bool.false_eq_true, Nat.add_zero, am_rok1_0, am_rok1_1, cond_true, cond_false, am_w_nat1, true_or, or_true, false_or, or_false, true_and, and_true, false_and, and_false, Int.reduceEq, Int.reduceNeg, Int.reduceLT, Int.reduceLE, or_self, and_self, if_pos, if_neg]
          · rw [if_neg e4] at d2
            clear e
            rw [am_cI, en_258, bk_258_0]; simp (disch := omega) only [bk_258_26, bk_258_85, mv_p0_0, mv_c0, mv_f0_14, f14, d1, d2, Option.bind_some, Bool.cond_decide, am_oI_some, am_oV_some, am_oI_ite, am_oV_ite, am_bind_ite, Int.toNat_natCast, Int.toNat_zero, Int.reduceToNat, ite_true, ite_false, not_true_eq_false, not_false_eq_true, decide_true, decide_false, decide_eq_true_eq, Bool.false_eq_true, Nat.add_zero, am_rok1_0, am_rok1_1, cond_true, cond_false, am_w_nat1, true_or, or_true, false_or, or_false, true_and, and_true, false_and, and_false, Int.reduceEq, Int.reduceNeg, Int.reduceLT, Int.reduceLE, or_self, and_self, if_pos, if_neg]
        · rw [if_neg e3] at d1
          clear e
          rw [am_cI, en_258, bk_258_0]; simp (disch := omega) only [bk_258_85, mv_p0_0, mv_c0, mv_f0_14, f14, d1, Option.bind_some, Bool.cond_decide, am_oI_some, am_oV_some, am_oI_ite, am_oV_ite, am_bind_ite, Int.toNat_natCast, Int.toNat_zero, Int.reduceToNat, ite_true, ite_false, not_true_eq_false, not_false_eq_true, decide_true, decide_false, decide_eq_true_eq, Bool.false_eq_true, Nat.add_zero, am_rok1_0, am_rok1_1, cond_true, cond_false, am_w_nat1, true_or, or_true, false_or, or_false, true_and, and_true, false_and, and_false, Int.reduceEq, Int.reduceNeg, Int.reduceLT, Int.reduceLE, or_self, and_self, if_pos, if_neg]
end FRESH
