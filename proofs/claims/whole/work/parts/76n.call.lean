/-! ===== acts by hand, by class and model ===== -/
theorem WR_mono {n n' m : Nat} {N K S : Nat → Nat → Int} {HD : Nat → Nat → Nat → Int} {M : Nat → Nat → Int} (w : WR n m N K S HD M) (hn : n ≤ n') : WR n' m N K S HD M := by
  obtain ⟨a, b, c, d, e⟩ := w
  refine ⟨a, b, c, d, ?_⟩
  rcases e with e | ⟨Z, e1, e2, e3, e4, e5⟩
  · exact Or.inl e
  · exact Or.inr ⟨Z, e1, e2, DK_mono e3 hn (fun _ _ => rfl) (fun _ _ => rfl), fun q => DK_mono (e4 q) hn (fun _ _ => rfl) (fun _ _ => rfl), fun i hi => DK_mono (e5 i hi) hn (fun _ _ => rfl) (fun _ _ => rfl)⟩
/-- the shape of a call: both answer alike, and the relation holds behind it -/
def CL (cy my : Nat) (as : List am_V) (x mo lo n' m : Nat) (A : Nat → Nat) (N P K T S M : Nat → Nat → Int) (h g : am_H) : Prop := ∃ (v : Int) (N' P' K' T' S' M' : Nat → Nat → Int) (m' : Nat) (A' : Nat → Nat) (h' : am_H) (HD' : Nat → Nat → Nat → Int), am_cI cy (am_R x :: as) (zv x N P K T S m A h) = some (v, zv x N' P' K' T' S' m' A' h') ∧ am_cI my (am_R mo :: as) (mv mo M g) = some (v, mv mo M' g) ∧ WR n' m' N' K' S' HD' M' ∧ HS lo m' A' HD' h' ∧ FR lo m m' h h'
section CALL
variable {x mo lo n n' m Z : Nat} {A : Nat → Nat} {N P K T S M : Nat → Nat → Int} {HD : Nat → Nat → Nat → Int} {h g : am_H}
theorem ctx2 (mo : Nat) (wd : WD Z n N K S HD M) : ∃ Ad, IV N Z 3 ∧ RL N Ad true (fun _ => 0) 0 8 ∧ MR (dup M 0 0 0) Ad ∧ (∀ g, mv mo (dup M 0 0 0) g = mv mo (drow (dup M 0 0 0) 8 (pack Ad)) g) ∧ dup M 0 0 0 0 14 = 1 ∧ dup M 0 0 0 3 0 = Z ∧ BD N n ∧ ND N ∧ RU M N ∧ ∀ j, j < 609 → dup M 0 0 0 8 j = pack Ad j := by
  obtain ⟨w1, ru, ⟨Ad, iv, rl, pk, _, bd, nd⟩, _, _⟩ := wd
  have r8 : dup M 0 0 0 8 = M 8 := dup_o _ _ _ (by omega)
  have r3 : dup M 0 0 0 3 = M 3 := dup_o _ _ _ (by omega)
  have f14 : dup M 0 0 0 0 14 = 1 := by rw [dup_t, va_up_ne _ _ (by omega)]; exact w1
  refine ⟨Ad, iv, rl, ?_, fun g => mv_pk (by omega) (by rw [r8]; exact pk), f14, ?_, bd, nd, ru, by rw [r8]; exact pk⟩
  · refine RU_MR (N := N) ?_ rl.1.1
    unfold RU at ru ⊢
    rw [r3, dup_t, va_up_ne _ _ (by omega), va_up_ne _ _ (by omega), va_up_ne _ _ (by omega)]
    exact ru
  · rw [r3, ru.1 0 (by omega)]; exact iv.pw.1
theorem cl_of_lk {cy my : Nat} {as : List am_V} (w : WR n m N K S HD M) (hs : HS lo m A HD h) (hn : n ≤ n') (lk : LK cy my as x mo n m A N P K T S HD M) : CL cy my as x mo lo n' m A N P K T S M h g := by
  obtain ⟨v, M', c1, c2, mk⟩ := lk h g
  exact ⟨v, N, P, K, T, S, M', m, A, h, HD, c1, c2, WR_mono (WR_MK w mk) hn, hs, FR_refl lo m h⟩
theorem m_act_no {what a b : Int} {k : Nat} (hk : k < 4) {M1 : Nat → Nat → Int} (ht : am_cI 170 [am_R mo, am_I what, am_I a, am_I b] (mv mo (dup M 0 0 0) g) = some ((k : Int), mv mo M1 g)) : am_cI 172 [am_R mo, am_I what, am_I a, am_I b] (mv mo M g) = some (-1, mv mo (dup M1 7 k (am_w (M1 7 k + 1))) g) := by
  have c1 := m_refuses (mo := mo) (M := M1) (g := g) hk
  rw [am_cI]; simp (disch := omega) only [en_172, bk_172_0, bk_172_24, bk_172_27, bk_172_33, mv_p0_0, ht, c1, am_w_id, mv_c0, mv_f0_0, mv_f0_1, mv_f0_2, mv_f0_3, mv_f0_4, mv_f0_5, mv_f0_6, mv_f0_7, mv_f0_8, mv_f0_9, mv_f0_10, mv_f0_11, mv_f0_12, mv_f0_13, mv_f0_14, mv_f0_15, mv_f0_16, mv_f0_17, mv_f0_18, mv_f0_19, mv_f0_20, mv_f0_21, mv_f0_22, mv_f0_23, mv_f0_24, mv_f0_25, mv_f0_26, mv_f0_27, mv_f0_28, mv_f0_29, mv_f0_30, mv_r1, mv_r2, mv_r3, mv_r4, mv_r5, mv_r6, mv_r7, mv_r8, mv_r9, mv_r10, mv_r11, mv_r12, mv_r13, mv_r14, mv_l1, mv_l2, mv_l3, mv_l4, mv_l5, mv_l6, mv_l7, mv_l8, mv_l9, mv_l10, mv_l11, mv_l12, mv_l13, mv_l14, mr2, mr3, mr4, mr5, mr6, mr7, mr8, mr9, mr13, mr1_4, mr0_6, mr1_5, mr1_0, mr1_1, mr1_2, mr1_3, mr1_6, mr1_7, mw2, mw3, mw4, mw5, mw6, mw7, mw8, mw9, mw13, mw1_4, mw0_6, mw1_5, mw1_0, mw1_1, mw1_2, mw1_3, mw1_6, mw1_7, drow_o, drow_t, Option.bind_some, Bool.cond_decide, am_oI_some, am_oV_some, am_oI_ite, am_oV_ite, am_bind_ite, Int.toNat_natCast, Int.toNat_zero, Int.reduceToNat, ite_true, ite_false, not_true_eq_false, not_false_eq_true, decide_true, decide_false, decide_eq_true_eq, Bool.false_eq_true, Nat.add_zero, am_rok1_0, am_rok1_1, cond_true, cond_false, am_w_nat1, true_or, or_true, false_or, or_false, true_and, and_true, false_and, and_false, Int.reduceEq, Int.reduceNeg, Int.reduceLT, Int.reduceLE, or_self, and_self, if_pos, if_neg]
theorem m_act_yes {what a b : Int} {M2 : Nat → Nat → Int} (ht : am_cI 170 [am_R mo, am_I what, am_I a, am_I b] (mv mo (dup M 0 0 0) g) = some (-1, mv mo M2 g)) : am_cI 172 [am_R mo, am_I what, am_I a, am_I b] (mv mo M g) = some (M2 0 28, mv mo M2 g) := by
  rw [am_cI]; simp (disch := omega) only [en_172, bk_172_0, bk_172_24, bk_172_27, bk_172_33, mv_p0_0, ht, am_w_id, mv_c0, mv_f0_0, mv_f0_1, mv_f0_2, mv_f0_3, mv_f0_4, mv_f0_5, mv_f0_6, mv_f0_7, mv_f0_8, mv_f0_9, mv_f0_10, mv_f0_11, mv_f0_12, mv_f0_13, mv_f0_14, mv_f0_15, mv_f0_16, mv_f0_17, mv_f0_18, mv_f0_19, mv_f0_20, mv_f0_21, mv_f0_22, mv_f0_23, mv_f0_24, mv_f0_25, mv_f0_26, mv_f0_27, mv_f0_28, mv_f0_29, mv_f0_30, mv_r1, mv_r2, mv_r3, mv_r4, mv_r5, mv_r6, mv_r7, mv_r8, mv_r9, mv_r10, mv_r11, mv_r12, mv_r13, mv_r14, mv_l1, mv_l2, mv_l3, mv_l4, mv_l5, mv_l6, mv_l7, mv_l8, mv_l9, mv_l10, mv_l11, mv_l12, mv_l13, mv_l14, mr2, mr3, mr4, mr5, mr6, mr7, mr8, mr9, mr13, mr1_4, mr0_6, mr1_5, mr1_0, mr1_1, mr1_2, mr1_3, mr1_6, mr1_7, mw2, mw3, mw4, mw5, mw6, mw7, mw8, mw9, mw13, mw1_4, mw0_6, mw1_5, mw1_0, mw1_1, mw1_2, mw1_3, mw1_6, mw1_7, drow_o, drow_t, Option.bind_some, Bool.cond_decide, am_oI_some, am_oV_some, am_oI_ite, am_oV_ite, am_bind_ite, Int.toNat_natCast, Int.toNat_zero, Int.reduceToNat, ite_true, ite_false, not_true_eq_false, not_false_eq_true, decide_true, decide_false, decide_eq_true_eq, Bool.false_eq_true, Nat.add_zero, am_rok1_0, am_rok1_1, cond_true, cond_false, am_w_nat1, true_or, or_true, false_or, or_false, true_and, and_true, false_and, and_false, Int.reduceEq, Int.reduceNeg, Int.reduceLT, Int.reduceLE, or_self, and_self, if_pos, if_neg]
theorem ac_lo (iv : IV N Z 3) {Ad : Nat → Nat → Int} {what a b : Int} {q : Nat} {O : Nat → Int} (ar : AR N Ad Z (ac_v N Z what a b) (ac_D N Z what a b) (st Ad Z what a b) (DP Ad Z what a) (ds_b Ad Z what a) (ds_v Ad Z what a) (ds_A Ad Z what a b) O q) : -4 ≤ ac_v N Z what a b := by
  by_cases e : st Ad Z what a b = -1
  · have h2 := (ar.2 e).2
    cases eb : ds_b Ad Z what a with
    | false => have := (h2.1 eb).1; omega
    | true => have := h2.2 eb; omega
  · have := ar.1 e; omega
theorem hm_of (d : WH m S M) : hslot S (S 0 15) ≤ m := by
  rcases d.2.2.2.1 with q | q
  · have h1 := d.1
    have h2 := d.2.1
    unfold hslot
    omega
  · have h2 := d.2.1
    unfold hslot
    rw [q.1]
    omega
/-- an act where there is a drive -/
theorem cl_act {cy my : Nat} {as : List am_V} {what a b : Int} (w : WR n m N K S HD M) (wd : WD Z n N K S HD M) (hn : n + 3000 < 2147483647) (hw : 0 ≤ what ∧ what ≤ 8) (hb0 : what = 0 → 0 ≤ b ∧ b ≤ 999) (hb1 : what = 1 → b = -1)
    (hc : -4 ≤ ac_v N Z what a b → CA cy as x lo m A N P K T S HD h (ac_v N Z what a b) (ac_D N Z what a b)) {b' : Int} (hbb : what = 0 → b' = b)
    (hmy : ∀ v M', am_cI 172 [am_R mo, am_I what, am_I a, am_I b'] (mv mo M g) = some (v, mv mo M' g) → am_cI my (am_R mo :: as) (mv mo M g) = some (v, mv mo M' g)) : CL cy my as x mo lo (n + 3000) m A N P K T S M h g := by
  obtain ⟨Ad, iv, rl, mr, pk, f14, f30, bd, nd, ru, pk8⟩ := ctx2 mo wd
  have d := w.2.2.2.1
  have ar := act_all iv rl bd hn (a := a) (b := b) hw hb0 hb1
  have hlo := ac_lo iv ar
  obtain ⟨m', A', h', P', c1, hs1, fr, hsl, hm1⟩ := hc hlo
  have hst : st Ad Z what a b' = st Ad Z what a b := by
    unfold st
    by_cases q : what = 0
    · rw [hbb q]
    · rw [if_neg q, if_neg q]
  have hdA : ds_A Ad Z what a b' = ds_A Ad Z what a b := by
    unfold ds_A
    by_cases q : what = 0
    · rw [hbb q]
    · rw [if_neg q, if_neg q]
  have mk0 := MK_f M (j := 0) (by omega) 0
  have hd : ¬ dup M 0 0 0 0 14 = 0 := by omega
  have h41 := hs1.1
  by_cases e : st Ad Z what a b = -1
  · obtain ⟨dp, hno, hyes⟩ := ar.2 e
    obtain ⟨M1, mk1, t1, t2⟩ := m_tries (mo := mo) (g := g) hd mr (rl_CQ iv rl) pk8 (by rw [mk0.2 20 (by omega)]; exact d.2.2.1) (by rw [mk0.2 21 (by omega)]; exact ⟨by have := d.2.1; omega, by have := d.2.1; omega⟩) hw (hst.trans e) dp
    cases eb : ds_b Ad Z what a with
    | false =>
      have hv := hno eb
      have t := m_act_no (M := M) (k := 3) (by omega) (t1 eb)
      refine ⟨-1, N, P', K, T, stS S (-4), _, m', A', h', _, ?_, hmy _ _ t, ?_, hs1, fr⟩
      · rw [hv.1, hv.2, if_neg (by omega)] at c1
        exact c1
      · have := WR_refuse (m' := m') (k := 3) w ⟨fr.2.2, h41⟩ (by omega) (MK_trans mk0 mk1)
        have es : stS S (-4) = dup S 9 3 (am_w (S 9 3 + 1)) := by unfold stS; rw [if_neg (by omega)]; rfl
        rw [es]
        exact WR_mono this (by omega)
    | true =>
      obtain ⟨v1, v2, rl', iv', bd'⟩ := hyes eb
      obtain ⟨t3, t4⟩ := t2 eb
      have t := m_act_yes (M := M) t4
      have e28 : drow (rem_M M1) 8 (pack (ds_A Ad Z what a b')) 0 28 = ds_v Ad Z what a := by
        unfold rem_M
        rw [drow_o _ _ (by omega), drow_o _ _ (by omega), rmM_0 _ (by omega) (by omega)]
        exact t3
      rw [e28, hdA] at t
      refine ⟨ds_v Ad Z what a, ac_D N Z what a b, P', K, T, hcm S, _, m', A', h', _, ?_, hmy _ _ t, ?_, hs1, fr⟩
      · rw [v1, if_pos v2] at c1
        have es : stS S (ds_v Ad Z what a) = hcm S := by unfold stS; rw [if_pos v2]
        rw [es] at c1
        exact c1
      · exact WR_commit w wd ⟨fr.2.2, h41, hsl⟩ (MK_trans mk0 mk1) (by omega) iv' rl' bd' (ND_ac iv nd bd hn what a b) (fun j hj => ac_0 iv what a b (by omega))
  · obtain ⟨v1, v2, v3, v4⟩ := ar.1 e
    obtain ⟨k, hk⟩ : ∃ k : Nat, st Ad Z what a b = k := ⟨(st Ad Z what a b).toNat, by omega⟩
    have t0 := m_tries_no (mo := mo) (g := g) hd mr (rl_CQ iv rl) pk8 (what := what) (a := a) (b := b') (by rw [hst]; exact e)
    rw [hst, hk] at t0
    have t := m_act_no (M := M) (k := k) (by omega) t0
    refine ⟨-1, N, P', K, T, stS S (-1 - st Ad Z what a b), _, m', A', h', _, ?_, hmy _ _ t, ?_, hs1, fr⟩
    · rw [v1, v2, if_neg (by omega)] at c1
      exact c1
    · have := WR_refuse (m' := m') (k := k) w ⟨fr.2.2, h41⟩ (by omega) mk0
      have es : stS S (-1 - st Ad Z what a b) = dup S 9 k (am_w (S 9 k + 1)) := by
        unfold stS
        rw [if_neg (by omega), show (-1 - (-1 - st Ad Z what a b)).toNat = k by omega]
      rw [es]
      exact WR_mono this (by omega)
/-- an act where there is none -/
theorem cl_act0 {cy my : Nat} {as : List am_V} {what a b : Int} (w : WR n m N K S HD M) (w0 : W0 N S M) (hc : CA cy as x lo m A N P K T S HD h (-1) N) (hmy : ∀ v M', am_cI 172 [am_R mo, am_I what, am_I a, am_I b] (mv mo M g) = some (v, mv mo M' g) → am_cI my (am_R mo :: as) (mv mo M g) = some (v, mv mo M' g)) : CL cy my as x mo lo (n + 3000) m A N P K T S M h g := by
  obtain ⟨m', A', h', P', c1, hs1, fr, hsl, hm1⟩ := hc
  have mk0 := MK_f M (j := 0) (by omega) 0
  have f14 : dup M 0 0 0 0 14 = 0 := by rw [dup_t, va_up_ne _ _ (by omega)]; exact w0.1
  have t0 := m_tries_none (mo := mo) (g := g) f14 what a b
  have t := m_act_no (M := M) (k := 0) (by omega) t0
  refine ⟨-1, N, P', K, T, stS S (-1), _, m', A', h', _, ?_, hmy _ _ t, ?_, hs1, fr⟩
  · rw [if_neg (by omega)] at c1
    exact c1
  · have := WR_refuse (m' := m') (k := 0) w ⟨fr.2.2, hs1.1⟩ (by omega) mk0
    have es : stS S (-1) = dup S 9 0 (am_w (S 9 0 + 1)) := by unfold stS; rw [if_neg (by omega)]; rfl
    rw [es]
    exact WR_mono this (by omega)
end CALL
