/-! ===== reading items of a write ===== -/
theorem w_ix {w0 l : Nat} (hw : w0 < 24) (hl : l < 2) : am_w (((2 * w0 : Nat) : Int) + (l : Int)) = ((2 * w0 + l : Nat) : Int) := by
  rw [am_w_id (by omega) (by omega)]
  omega
section STEPW
variable {x mo m : Nat} {A : Nat → Nat} {N P K T : Nat → Nat → Int} {h g : am_H} {L : Int} {f : Nat → Int} {w0 : Nat} {E : Nat → Int}
theorem it_stepW {k : Nat} (tf : TF L f) (hw0 : w0 < 24) (S M : Nat → Nat → Int) (a : Nat) (X : Int) (y7 y6 : am_V) (hX0 : 0 ≤ X) (hX1 : X < 256) (hc : cnt (hasb X) 2 + k = 2) (ct : CT S L f) (mt : MTp M L f) (h6 : S 0 6 = -1) (h4 : M 0 4 = -1) (ha : (a : Int) ≤ L) (h5 : S 0 5 = a) (h3 : M 0 3 = skp L f a) (ru : WUk w0 E S M)
    (ih : 0 < k → ∀ (S M : Nat → Nat → Int) (a : Nat) (X : Int) (y7 y6 : am_V), 0 ≤ X → X < 256 → cnt (hasb X) 2 + (k - 1) = 2 → CT S L f → MTp M L f → S 0 6 = -1 → M 0 4 = -1 → (a : Int) ≤ L → S 0 5 = a → M 0 3 = skp L f a → WUk w0 E S M → ∃ S' M', am_run am_ms 29 6 [am_R (x + 3), am_K 17, am_K 6, am_K 7, am_R (x + 11), am_I X, am_I ((cnt (hasb X) 2 : Nat) : Int), y7] [] (zv x N P K T S m A h) = some (none, zv x N P K T S' m A h) ∧ am_run am_ms 55 34 [am_R mo, am_I 0, am_K 20, am_I ((2 * w0 : Nat) : Int), am_I X, am_I (ixf 17 (chr L f (skp L f a))), y6] [] (mv mo M g) = some (none, mv mo M' g) ∧ IO 8 4 (WUk w0 E) L f S M S' M') :
    ∃ S' M', am_run am_ms 29 6 [am_R (x + 3), am_K 17, am_K 6, am_K 7, am_R (x + 11), am_I X, am_I ((cnt (hasb X) 2 : Nat) : Int), y7] [] (zv x N P K T S m A h) = some (none, zv x N P K T S' m A h) ∧ am_run am_ms 55 34 [am_R mo, am_I 0, am_K 20, am_I ((2 * w0 : Nat) : Int), am_I X, am_I (ixf 17 (chr L f (skp L f a))), y6] [] (mv mo M g) = some (none, mv mo M' g) ∧ IO 8 4 (WUk w0 E) L f S M S' M' := by
  have h240 := tf.1
  have hb1 : Nat.beq 17 1 = false := rfl
  have hx1 : am_istx 17 = true := rfl
  have el : (((lts 17).length : Nat) : Int) = 2 := rfl
  have c1 := s_length (zv x N P K T S m A h) tx_17
  rw [el] at c1
  have u := u_c (x := x) (N := N) (P := P) (K := K) (T := T) (m := m) (A := A) (h := h) tf ct ha h5
  have hb := skp_r (f := f) ha
  have hcr := chr_r tf (skp L f a)
  have ic := i2c_id hcr
  have ix := s_idx (zv x N P K T (dup S 0 5 (skp L f a : Int)) m A h) tx_17 hcr
  have hi : ¬ (2 : Int) < ((cnt (hasb X) 2 : Nat) : Int) := by omega
  have ct1 : CT (dup S 0 5 (skp L f a : Int)) L f := CT_f ct (by omega) _
  rw [bk_29_6, bk_55_34]
  rcases ixf_r tx_17 (chr L f (skp L f a)) with ⟨e, _⟩ | ⟨l, e, hl, el2, _⟩
  · rw [e] at ix ⊢
    refine ⟨dup S 0 5 (skp L f a : Int), M, ?_, ?_, ⟨SR_f _ S (by omega) _, MRd_refl _ M⟩, Or.inr ⟨⟨skp L f a, ⟨ct1, mt⟩, ⟨by rw [dup_t, va_up_ne _ _ (by omega)]; exact h6, h4⟩, hb.2, by rw [dup_t, va_up_self], h3⟩, ?_⟩⟩
    · simp only [hb1, hx1, c1, hi, zv_c3, u, ic, ix, bk_29_39, Option.bind_some, Bool.cond_decide, am_oI_some, am_oV_some, am_oI_ite, am_oV_ite, am_bind_ite, Int.toNat_natCast, Int.toNat_zero, Int.reduceToNat, ite_true, ite_false, not_true_eq_false, not_false_eq_true, decide_true, decide_false, decide_eq_true_eq, Bool.false_eq_true, Nat.add_zero, am_rok1_0, am_rok1_1, cond_true, cond_false, am_w_nat1, true_or, or_true, false_or, or_false, true_and, and_true, false_and, and_false, Int.reduceEq, Int.reduceNeg, Int.reduceLT, Int.reduceLE, or_self, and_self]
    · simp only [bk_55_171, Option.bind_some, Bool.cond_decide, am_oI_some, am_oV_some, am_oI_ite, am_oV_ite, am_bind_ite, Int.toNat_natCast, Int.toNat_zero, Int.reduceToNat, ite_true, ite_false, not_true_eq_false, not_false_eq_true, decide_true, decide_false, decide_eq_true_eq, Bool.false_eq_true, Nat.add_zero, am_rok1_0, am_rok1_1, cond_true, cond_false, am_w_nat1, true_or, or_true, false_or, or_false, true_and, and_true, false_and, and_false, Int.reduceEq, Int.reduceNeg, Int.reduceLT, Int.reduceLE, or_self, and_self]
    · exact ⟨fun j hj => by rw [dup_o _ _ _ (by omega)]; exact ru.1 j hj, ru.2⟩
  · rw [e] at ix ⊢
    have hl7 : l < 2 := hl
    have hcb := tx_17.2.2.2.2 l hl
    have hin := chr_in (L := L) (f := f) (a := skp L f a) (by omega)
    generalize skp L f a = b at *
    have hl0 : ¬ (l : Int) < 0 := by omega
    have hl1 : (l : Int) < 2 := by omega
    have hln : ¬ (l : Int) = -1 := by omega
    have hbit := bit_at hX0 hX1 (z := l) (by omega)
    have hh := m_has X l (mv mo M g)
    have h5b : dup S 0 5 (b : Int) 0 5 = b := by rw [dup_t, va_up_self]
    by_cases eb : hasb X l = true
    · rw [if_pos eb] at hbit hh
      have fl := m_fails (mo := mo) (g := g) h4 h3
      refine ⟨dup (dup S 0 5 (b : Int)) 0 6 (b : Int), dup M 0 4 (b : Int), ?_, ?_, ⟨SR_trans (SR_f _ S (by omega) _) (SR_f _ _ (by omega) _), MRd_f _ M (by omega) _⟩, Or.inl ⟨by rw [dup_t, va_up_self]; omega, by rw [dup_t, va_up_self, dup_t, va_up_self]⟩⟩
      · simp only [hb1, hx1, c1, hi, zv_c3, u, ic, ix, hl0, hl1, bk_29_35, bk_29_40, zv_l8, hbit, zv_f3_8, h5b, zv_p3_9, Int.one_ne_zero, Option.bind_some, Bool.cond_decide, am_oI_some, am_oV_some, am_oI_ite, am_oV_ite, am_bind_ite, Int.toNat_natCast, Int.toNat_zero, Int.reduceToNat, ite_true, ite_false, not_true_eq_false, not_false_eq_true, decide_true, decide_false, decide_eq_true_eq, Bool.false_eq_true, Nat.add_zero, am_rok1_0, am_rok1_1, cond_true, cond_false, am_w_nat1, true_or, or_true, false_or, or_false, true_and, and_true, false_and, and_false, Int.reduceEq, Int.reduceNeg, Int.reduceLT, Int.reduceLE, or_self, and_self]
      · simp only [hln, mv_f0_4, h4, hh, mv_c0, fl, Int.one_ne_zero, Option.bind_some, Bool.cond_decide, am_oI_some, am_oV_some, am_oI_ite, am_oV_ite, am_bind_ite, Int.toNat_natCast, Int.toNat_zero, Int.reduceToNat, ite_true, ite_false, not_true_eq_false, not_false_eq_true, decide_true, decide_false, decide_eq_true_eq, Bool.false_eq_true, Nat.add_zero, am_rok1_0, am_rok1_1, cond_true, cond_false, am_w_nat1, true_or, or_true, false_or, or_false, true_and, and_true, false_and, and_false, Int.reduceEq, Int.reduceNeg, Int.reduceLT, Int.reduceLE, or_self, and_self]
    · rw [if_neg eb] at hbit hh
      have hbf : hasb X l = false := Bool.eq_false_iff.mpr eb
      have hk : 0 < k := by
        rcases Nat.eq_zero_or_pos k with q | q
        · exact absurd (cnt_full 2 (by omega) l hl7) eb
        · exact q
      have hor := bits_at hX0 hX1 (a := l) (by omega)
      have hcn : cnt (hasb (am_or X (am_shl 1 (l : Int)))) 2 = cnt (hasb X) 2 + 1 := by
        rw [← cnt_ad (hasb X) 2 hl7 hbf]
        exact cnt_congr (fun j hj => hor.1 j (by omega))
      have hb1L : ((b + 1 : Nat) : Int) ≤ L := by omega
      have h5c : dup S 0 5 ((b + 1 : Nat) : Int) 0 5 = ((b + 1 : Nat) : Int) := by rw [dup_t, va_up_self]
      have h6c : dup S 0 5 ((b + 1 : Nat) : Int) 0 6 = -1 := by rw [dup_t, va_up_ne _ _ (by omega)]; exact h6
      have h3c : dup M 0 3 ((b + 1 : Nat) : Int) 0 3 = ((b + 1 : Nat) : Int) := by rw [dup_t, va_up_self]
      have h4c : dup M 0 3 ((b + 1 : Nat) : Int) 0 4 = -1 := by rw [dup_t, va_up_ne _ _ (by omega)]; exact h4
      have n1 := n_c (x := x) (N := N) (P := P) (K := K) (T := T) (m := m) (A := A) (h := h) tf (CT_f ct (j := 5) (by omega) ((b + 1 : Nat) : Int)) hb1L h5c h6c (wlo l) (whi l)
      have n2 := n_m (mo := mo) (g := g) tf (MTp_f mt (j := 3) (by omega) ((b + 1 : Nat) : Int)) hb1L h3c h4c (wlo l) (whi l)
      have hs := (skp_r (f := f) hb1L).2
      have wo := rnw_ok (L := L) (f := f) (lo := wlo l) (hi := whi l) hs
      have wn := rnw_no (L := L) (f := f) (lo := wlo l) (hi := whi l) hs
      have pr := (rnp_r (L := L) (f := f) 3 _ hs).2.1
      rw [dup_dup] at n1 n2
      generalize rnw L f (wlo l) (whi l) (skp L f (b + 1)) = w at n1 n2 wo wn
      generalize rnv L f 3 (skp L f (b + 1)) 0 = v at n1 n2 wo
      generalize rnp L f 3 (skp L f (b + 1)) = p at n1 wo pr
      generalize rnq L f (wlo l) (whi l) (skp L f (b + 1)) = q at n2 wo
      have hbw : am_w ((b : Int) + 1) = ((b + 1 : Nat) : Int) := am_w_nat1 (by omega)
      have hl00 : (0 : Int) ≤ (l : Int) := by omega
      have w2 := zv_w8 (x := x) (N := N) (P := P) (K := K) (T := T) (S := dup (dup S 0 5 (p : Int)) 0 6 w) (m := m) (A := A) (h := h) v hl00 hl1
      rw [Int.toNat_natCast] at w2
      have m2 := mv_w4 (m := mo) (M := dup (dup M 0 3 (q : Int)) 0 4 w) (h := g) (j := ((2 * w0 + l : Nat) : Int)) v (by omega) (by omega)
      rw [Int.toNat_natCast] at m2
      have g6 : dup (dup (dup S 0 5 (p : Int)) 0 6 w) 8 l v 0 6 = w := by rw [dup_o _ _ _ (by omega), dup_t, va_up_self]
      have g5 : dup (dup (dup S 0 5 (p : Int)) 0 6 w) 8 l v 0 5 = p := by rw [dup_o _ _ _ (by omega), dup_t, va_up_ne _ _ (by omega), dup_t, va_up_self]
      have g4 : dup (dup (dup M 0 3 (q : Int)) 0 4 w) 4 (2 * w0 + l) v 0 4 = w := by rw [dup_o _ _ _ (by omega), dup_t, va_up_self]
      have g3 : dup (dup (dup M 0 3 (q : Int)) 0 4 w) 4 (2 * w0 + l) v 0 3 = q := by rw [dup_o _ _ _ (by omega), dup_t, va_up_ne _ _ (by omega), dup_t, va_up_self]
      have sr : SR 8 S (dup (dup (dup S 0 5 (p : Int)) 0 6 w) 8 l v) := SR_trans (SR_trans (SR_f _ S (by omega) _) (SR_f _ _ (by omega) _)) (SR_r _ (by omega) _ _)
      have mr : MRd 4 M (dup (dup (dup M 0 3 (q : Int)) 0 4 w) 4 (2 * w0 + l) v) := MRd_trans (MRd_trans (MRd_f _ M (by omega) _) (MRd_f _ _ (by omega) _)) (MRd_r _ (by omega) _ _)
      have ct2 := CT_SR ct sr (by omega)
      have mt2 := MTp_MRd mt mr (by omega)
      have rl := rk_6 (zv x N P K T (dup S 0 5 ((b + 1 : Nat) : Int)) m A h) hl7
      have rh := rk_7 (zv x N P K T (dup S 0 5 ((b + 1 : Nat) : Int)) m A h) hl7
      have k4 : Nat.beq 6 1 = false := rfl
      have k5 : Nat.beq 7 1 = false := rfl

      by_cases ew : w = -1
      · obtain ⟨hv, hq⟩ := wo ew
        have lk := l_m (mo := mo) (g := g) tf mt2 (a := q) (by rw [hq]; exact pr) g3
        have sp := m_spot (mv mo (dup (dup (dup (dup M 0 3 (q : Int)) 0 4 w) 4 (2 * w0 + l) v) 0 3 (skp L f q : Int)) g) tx_20 (chm L f (skp L f q))
        rw [ix_m tx_20 tf] at sp
        have e1 : ixf 20 (chr L f (skp L f q)) = ixf 17 (chr L f (skp L f q)) := rfl
        rw [e1] at sp
        have kq : Nat.beq 20 1 = false := rfl
        obtain ⟨S', M', r1, r2, io⟩ := ih hk (dup (dup (dup S 0 5 (p : Int)) 0 6 w) 8 l v) (dup (dup (dup (dup M 0 3 (q : Int)) 0 4 w) 4 (2 * w0 + l) v) 0 3 (skp L f q : Int)) p (am_or X (am_shl 1 (l : Int))) (am_I l) (am_I v) hor.2.1 hor.2.2 (by rw [hcn]; omega) ct2 (MTp_f mt2 (by omega) _) (by rw [g6]; exact ew) (by rw [dup_t, va_up_ne _ _ (by omega), g4]; exact ew) pr g5 (by rw [dup_t, va_up_self, hq]) (by
          have eS : dup (dup (dup S 0 5 (p : Int)) 0 6 w) 8 l v 8 = va_up (S 8) l v := by rw [dup_t, dup_o _ _ _ (by omega), dup_o _ _ _ (by omega)]
          have eM : dup (dup (dup (dup M 0 3 (q : Int)) 0 4 w) 4 (2 * w0 + l) v) 0 3 (skp L f q : Int) 4 = va_up (M 4) (2 * w0 + l) v := by rw [dup_o _ _ _ (by omega), dup_t, dup_o _ _ _ (by omega), dup_o _ _ _ (by omega)]
          have main : ∀ j, j < 2 → va_up (S 8) l v j = va_up (M 4) (2 * w0 + l) v (2 * w0 + j) ∧ wlo j ≤ va_up (S 8) l v j ∧ va_up (S 8) l v j ≤ whi j := by
            intro j hj
            obtain ⟨a1, a2⟩ := ru.1 j hj
            by_cases ej : j = l
            · rw [ej, va_up_self, va_up_self]
              exact ⟨rfl, hv⟩
            · rw [va_up_ne _ _ ej, va_up_ne _ _ (by omega)]
              exact ⟨a1, a2⟩
          unfold WUk
          rw [eS, eM]
          exact ⟨main, fun j hj => by rw [va_up_ne _ _ (by omega)]; exact ru.2 j hj⟩)
        rw [hcn] at r1
        rw [← hq] at r2
        refine ⟨S', M', ?_, ?_, ⟨SR_trans sr io.1.1, MRd_trans (MRd_trans mr (MRd_f _ _ (by omega) _)) io.1.2⟩, io.2⟩
        · have hiw : am_w (((cnt (hasb X) 2 : Nat) : Int) + 1) = ((cnt (hasb X) 2 + 1 : Nat) : Int) := am_w_nat1 (by omega)
          have g6' : dup (dup (dup S 0 5 (p : Int)) 0 6 w) 8 l v 0 6 = -1 := by rw [g6]; exact ew
          simp only [hb1, hx1, c1, hi, zv_c3, u, ic, ix, hl0, hl1, bk_29_35, bk_29_40, bk_29_59, bk_29_82, bk_29_104, zv_l8, hbit, zv_f3_8, h5b, hbw, zv_p3_8, dup_dup, k4, k5, rl, rh, n1, w2, zv_f3_9, g6', hiw, r1, Option.bind_some, Bool.cond_decide, am_oI_some, am_oV_some, am_oI_ite, am_oV_ite, am_bind_ite, Int.toNat_natCast, Int.toNat_zero, Int.reduceToNat, ite_true, ite_false, not_true_eq_false, not_false_eq_true, decide_true, decide_false, decide_eq_true_eq, Bool.false_eq_true, Nat.add_zero, am_rok1_0, am_rok1_1, cond_true, cond_false, am_w_nat1, true_or, or_true, false_or, or_false, true_and, and_true, false_and, and_false, Int.reduceEq, Int.reduceNeg, Int.reduceLT, Int.reduceLE, or_self, and_self]
        · have g4' : dup (dup (dup M 0 3 (q : Int)) 0 4 w) 4 (2 * w0 + l) v 0 4 = -1 := by rw [g4]; exact ew
          by_cases e0 : (l : Int) = 0
          · have e0' : ((l : Int) = 0) = True := eq_true e0
            have n3 := n2
            rw [show whi l = 31 from if_pos (by omega), show wlo l = 0 from rfl] at n3
            simp only [hln, mv_f0_4, h4, hh, mv_c0, bk_55_63, bk_55_103, bk_55_115, bk_55_118, bk_55_121, bk_55_139, bk_55_150, bk_55_168, mv_f0_3, h3, hbw, mv_p0_3, w_ix hw0 hl7, n3, e0', mv_f0_7, m2, g4', kq, lk, sp, r2, Int.one_ne_zero, Option.bind_some, Bool.cond_decide, am_oI_some, am_oV_some, am_oI_ite, am_oV_ite, am_bind_ite, Int.toNat_natCast, Int.toNat_zero, Int.reduceToNat, ite_true, ite_false, not_true_eq_false, not_false_eq_true, decide_true, decide_false, decide_eq_true_eq, Bool.false_eq_true, Nat.add_zero, am_rok1_0, am_rok1_1, cond_true, cond_false, am_w_nat1, true_or, or_true, false_or, or_false, true_and, and_true, false_and, and_false, Int.reduceEq, Int.reduceNeg, Int.reduceLT, Int.reduceLE, or_self, and_self]
          · have e0' : ((l : Int) = 0) = False := eq_false e0
            have n3 := n2
            rw [show whi l = 999 from if_neg (by omega), show wlo l = 0 from rfl] at n3
            simp only [hln, mv_f0_4, h4, hh, mv_c0, bk_55_63, bk_55_103, bk_55_115, bk_55_118, bk_55_121, bk_55_139, bk_55_150, bk_55_168, mv_f0_3, h3, hbw, mv_p0_3, w_ix hw0 hl7, n3, e0', mv_f0_7, m2, g4', kq, lk, sp, r2, Int.one_ne_zero, Option.bind_some, Bool.cond_decide, am_oI_some, am_oV_some, am_oI_ite, am_oV_ite, am_bind_ite, Int.toNat_natCast, Int.toNat_zero, Int.reduceToNat, ite_true, ite_false, not_true_eq_false, not_false_eq_true, decide_true, decide_false, decide_eq_true_eq, Bool.false_eq_true, Nat.add_zero, am_rok1_0, am_rok1_1, cond_true, cond_false, am_w_nat1, true_or, or_true, false_or, or_false, true_and, and_true, false_and, and_false, Int.reduceEq, Int.reduceNeg, Int.reduceLT, Int.reduceLE, or_self, and_self]
      · refine ⟨dup (dup (dup S 0 5 (p : Int)) 0 6 w) 8 l v, dup (dup (dup M 0 3 (q : Int)) 0 4 w) 4 (2 * w0 + l) v, ?_, ?_, ⟨sr, mr⟩, Or.inl ⟨by rw [g6]; exact wn ew, by rw [g4, g6]⟩⟩
        · have g6' : ¬ dup (dup (dup S 0 5 (p : Int)) 0 6 w) 8 l v 0 6 = -1 := by rw [g6]; exact ew
          simp only [hb1, hx1, c1, hi, zv_c3, u, ic, ix, hl0, hl1, bk_29_35, bk_29_40, bk_29_59, bk_29_82, zv_l8, hbit, zv_f3_8, h5b, hbw, zv_p3_8, dup_dup, k4, k5, rl, rh, n1, w2, zv_f3_9, g6', Option.bind_some, Bool.cond_decide, am_oI_some, am_oV_some, am_oI_ite, am_oV_ite, am_bind_ite, Int.toNat_natCast, Int.toNat_zero, Int.reduceToNat, ite_true, ite_false, not_true_eq_false, not_false_eq_true, decide_true, decide_false, decide_eq_true_eq, Bool.false_eq_true, Nat.add_zero, am_rok1_0, am_rok1_1, cond_true, cond_false, am_w_nat1, true_or, or_true, false_or, or_false, true_and, and_true, false_and, and_false, Int.reduceEq, Int.reduceNeg, Int.reduceLT, Int.reduceLE, or_self, and_self]
        · have g4' : ¬ dup (dup (dup M 0 3 (q : Int)) 0 4 w) 4 (2 * w0 + l) v 0 4 = -1 := by rw [g4]; exact ew
          have r34 : am_run am_ms 55 34 [am_R mo, am_I 0, am_K 20, am_I ((2 * w0 : Nat) : Int), am_I (am_or X (am_shl 1 (l : Int))), am_I (l : Int), am_I v] [] (mv mo (dup (dup (dup M 0 3 (q : Int)) 0 4 w) 4 (2 * w0 + l) v) g) = some (none, mv mo (dup (dup (dup M 0 3 (q : Int)) 0 4 w) 4 (2 * w0 + l) v) g) := by
            rw [bk_55_34]
            simp only [hln, mv_f0_4, g4', bk_55_171, Option.bind_some, Bool.cond_decide, am_oI_some, am_oV_some, am_oI_ite, am_oV_ite, am_bind_ite, Int.toNat_natCast, Int.toNat_zero, Int.reduceToNat, ite_true, ite_false, not_true_eq_false, not_false_eq_true, decide_true, decide_false, decide_eq_true_eq, Bool.false_eq_true, Nat.add_zero, am_rok1_0, am_rok1_1, cond_true, cond_false, am_w_nat1, true_or, or_true, false_or, or_false, true_and, and_true, false_and, and_false, Int.reduceEq, Int.reduceNeg, Int.reduceLT, Int.reduceLE, or_self, and_self]
          by_cases e0 : (l : Int) = 0
          · have e0' : ((l : Int) = 0) = True := eq_true e0
            have n3 := n2
            rw [show whi l = 31 from if_pos (by omega), show wlo l = 0 from rfl] at n3
            simp only [hln, mv_f0_4, h4, hh, mv_c0, bk_55_63, bk_55_103, bk_55_115, bk_55_118, bk_55_121, bk_55_139, bk_55_150, bk_55_168, mv_f0_3, h3, hbw, mv_p0_3, w_ix hw0 hl7, n3, e0', mv_f0_7, m2, g4', r34, Int.one_ne_zero, Option.bind_some, Bool.cond_decide, am_oI_some, am_oV_some, am_oI_ite, am_oV_ite, am_bind_ite, Int.toNat_natCast, Int.toNat_zero, Int.reduceToNat, ite_true, ite_false, not_true_eq_false, not_false_eq_true, decide_true, decide_false, decide_eq_true_eq, Bool.false_eq_true, Nat.add_zero, am_rok1_0, am_rok1_1, cond_true, cond_false, am_w_nat1, true_or, or_true, false_or, or_false, true_and, and_true, false_and, and_false, Int.reduceEq, Int.reduceNeg, Int.reduceLT, Int.reduceLE, or_self, and_self]
          · have e0' : ((l : Int) = 0) = False := eq_false e0
            have n3 := n2
            rw [show whi l = 999 from if_neg (by omega), show wlo l = 0 from rfl] at n3
            simp only [hln, mv_f0_4, h4, hh, mv_c0, bk_55_63, bk_55_103, bk_55_115, bk_55_118, bk_55_121, bk_55_139, bk_55_150, bk_55_168, mv_f0_3, h3, hbw, mv_p0_3, w_ix hw0 hl7, n3, e0', mv_f0_7, m2, g4', r34, Int.one_ne_zero, Option.bind_some, Bool.cond_decide, am_oI_some, am_oV_some, am_oI_ite, am_oV_ite, am_bind_ite, Int.toNat_natCast, Int.toNat_zero, Int.reduceToNat, ite_true, ite_false, not_true_eq_false, not_false_eq_true, decide_true, decide_false, decide_eq_true_eq, Bool.false_eq_true, Nat.add_zero, am_rok1_0, am_rok1_1, cond_true, cond_false, am_w_nat1, true_or, or_true, false_or, or_false, true_and, and_true, false_and, and_false, Int.reduceEq, Int.reduceNeg, Int.reduceLT, Int.reduceLE, or_self, and_self]
end STEPW
section ITEMSW
variable {x mo m : Nat} {A : Nat → Nat} {N P K T : Nat → Nat → Int} {h g : am_H} {L : Int} {f : Nat → Int} {w0 : Nat} {E : Nat → Int}
theorem it_loopW (tf : TF L f) (hw0 : w0 < 24) : ∀ (k : Nat) (S M : Nat → Nat → Int) (a : Nat) (X : Int) (y7 y6 : am_V), 0 ≤ X → X < 256 → cnt (hasb X) 2 + k = 2 → CT S L f → MTp M L f → S 0 6 = -1 → M 0 4 = -1 → (a : Int) ≤ L → S 0 5 = a → M 0 3 = skp L f a → WUk w0 E S M → ∃ S' M', am_run am_ms 29 6 [am_R (x + 3), am_K 17, am_K 6, am_K 7, am_R (x + 11), am_I X, am_I ((cnt (hasb X) 2 : Nat) : Int), y7] [] (zv x N P K T S m A h) = some (none, zv x N P K T S' m A h) ∧ am_run am_ms 55 34 [am_R mo, am_I 0, am_K 20, am_I ((2 * w0 : Nat) : Int), am_I X, am_I (ixf 17 (chr L f (skp L f a))), y6] [] (mv mo M g) = some (none, mv mo M' g) ∧ IO 8 4 (WUk w0 E) L f S M S' M' := by
  have h240 := tf.1
  intro k
  induction k with
  | zero =>
    intro S M a X y7 y6 hX0 hX1 hc ct mt h6 h4 ha h5 h3 ru
    exact it_stepW (k := 0) tf hw0 S M a X y7 y6 hX0 hX1 hc ct mt h6 h4 ha h5 h3 ru (fun e => absurd e (by omega))
  | succ k ih =>
    intro S M a X y7 y6 hX0 hX1 hc ct mt h6 h4 ha h5 h3 ru
    exact it_stepW (k := k + 1) tf hw0 S M a X y7 y6 hX0 hX1 hc ct mt h6 h4 ha h5 h3 ru (fun _ S M a X y7 y6 h1 h2 h3 => ih S M a X y7 y6 h1 h2 (by omega))
/-- the reading of items -/
theorem itemsW (tf : TF L f) {S M : Nat → Nat → Int} {a : Nat} (ps : PS S M L f a) (ru : WUk w0 E S M) (hw0 : w0 < 24) (h11 : M 0 11 = ((w0 + 1 : Nat) : Int)) : ∃ S' M', am_cV 29 [am_R (x + 3), am_K 17, am_K 6, am_K 7, am_R (x + 11)] (zv x N P K T S m A h) = some (zv x N P K T S' m A h) ∧ am_cV 55 [am_R mo, am_I 0] (mv mo M g) = some (mv mo M' g) ∧ IO 8 4 (WUk w0 E) L f S M S' M' := by
  obtain ⟨⟨ct, mt⟩, ⟨h6, h4⟩, ha, h5, h3⟩ := ps
  have hc0 : cnt (hasb 0) 2 = 0 := by decide +kernel
  have l := l_m (mo := mo) (g := g) tf mt ha h3
  have sp := m_spot (mv mo (dup M 0 3 (skp L f a : Int)) g) tx_20 (chm L f (skp L f a))
  rw [ix_m tx_20 tf] at sp
  obtain ⟨S', M', r1, r2, io⟩ := it_loopW (x := x) (mo := mo) (m := m) (A := A) (N := N) (P := P) (K := K) (T := T) (h := h) (g := g) tf (E := E) hw0 2 S (dup M 0 3 (skp L f a : Int)) a 0 (am_K 1) (am_K 1) (by omega) (by omega) (by omega) ct (MTp_f mt (by omega) _) h6 (by rw [dup_t, va_up_ne _ _ (by omega)]; exact h4) ha h5 (by rw [dup_t, va_up_self]) ⟨fun j hj => by rw [dup_o _ _ _ (by omega)]; exact ru.1 j hj, fun j hj => by rw [dup_o _ _ _ (by omega)]; exact ru.2 j hj⟩
  rw [hc0] at r1
  refine ⟨S', M', ?_, ?_, ⟨⟨io.1.1, MRd_trans (MRd_f _ M (by omega) _) io.1.2⟩, io.2⟩⟩
  · rw [am_cV, en_29, bk_29_0]
    have r1' : am_run am_ms 29 6 [am_R (x + 3), am_K 17, am_K 6, am_K 7, am_R (x + 11), am_I 0, am_I 0, am_K 1] [] (zv x N P K T S m A h) = some (none, zv x N P K T S' m A h) := r1
    rw [r1', am_oV_some]
  · have e1 : ixf 20 (chr L f (skp L f a)) = ixf 17 (chr L f (skp L f a)) := rfl
    rw [e1] at sp
    have eb : Nat.beq 20 0 = false := rfl
    have eb2 : Nat.beq 20 1 = false := rfl
    have hr1 : am_w (2 * am_w (((w0 + 1 : Nat) : Int) - 1)) = ((2 * w0 : Nat) : Int) := by
      rw [am_w_id (x := ((w0 + 1 : Nat) : Int) - 1) (by omega) (by omega), am_w_id (by omega) (by omega)]
      omega
    rw [am_cV]
    simp only [en_55, bk_55_0, bk_55_9, bk_55_11, bk_55_32, mv_f0_11, mv_c0, l, sp, eb, eb2, Bool.not_false, Bool.and_self, h11, hr1, r2, Int.one_ne_zero, Option.bind_some, Bool.cond_decide, am_oI_some, am_oV_some, am_oI_ite, am_oV_ite, am_bind_ite, Int.toNat_natCast, Int.toNat_zero, Int.reduceToNat, ite_true, ite_false, not_true_eq_false, not_false_eq_true, decide_true, decide_false, decide_eq_true_eq, Bool.false_eq_true, Nat.add_zero, am_rok1_0, am_rok1_1, cond_true, cond_false, am_w_nat1, true_or, or_true, false_or, or_false, true_and, and_true, false_and, and_false, Int.reduceEq, Int.reduceNeg, Int.reduceLT, Int.reduceLE, or_self, and_self]
end ITEMSW
