/-! ===== reading a clause, a drive ===== -/
/-- what was read of a drive, by class and model -/
def DRd (S M : Nat → Nat → Int) : Prop := ((S 0 4 = 0 ∨ S 0 4 = 1) ∧ M 0 13 = S 0 4) ∧ (0 ≤ S 0 3 ∧ S 0 3 ≤ 24 ∧ M 0 11 = S 0 3) ∧ RUk S M ∧ ∀ i : Nat, (i : Int) < S 0 3 → (S 3 i = M 4 (2 * i) ∧ S 4 i = M 4 (2 * i + 1)) ∧ (0 ≤ S 3 i ∧ S 3 i ≤ 31) ∧ 0 ≤ S 4 i ∧ S 4 i ≤ 999
theorem SF_SR {r : Nat} {S S' : Nat → Nat → Int} (s : SR r S S') (hr : r ≤ 8) : SF S S' := ⟨fun j h => s.1 j (by omega) (by omega), fun q h => s.2 q (by omega) (by omega)⟩
theorem MX_MRd {r : Nat} {M M' : Nat → Nat → Int} (s : MRd r M M') (hr : r = 2 ∨ r = 4) : MX M M' := ⟨fun q h => s.2 q (by omega) (by omega), fun j _ => by rw [s.2 5 (by omega) (by omega)], fun j _ => by rw [s.2 6 (by omega) (by omega)], fun j h => s.1 j (by omega) (by omega)⟩
/-- the end of a reading: something wrong, alike; or all well -/
def RE (Q : Prop) (L : Int) (f : Nat → Int) (S M S' M' : Nat → Nat → Int) : Prop := ((SF S S' ∧ MX M M') ∧ CT S' L f ∧ MTp M' L f) ∧ ((0 ≤ S' 0 6 ∧ M' 0 4 = S' 0 6) ∨ ((∃ a, PS S' M' L f a) ∧ Q))
section CLS
variable {x mo m : Nat} {A : Nat → Nat} {N P K T S : Nat → Nat → Int} {M : Nat → Nat → Int} {h g : am_H} {L : Int} {f : Nat → Int} {a : Nat}
theorem rc_s (tf : TF L f) (ps : PS S M L f a) (dr : DRd S M) (hc : chr L f (skp L f a) = 115) (h4 : S 0 4 = 0) : ∃ S' M', am_cV 30 [am_R (x + 3)] (zv x N P K T S m A h) = some (zv x N P K T S' m A h) ∧ am_cV 56 [am_R mo] (mv mo M g) = some (mv mo M' g) ∧ RE (DRd S' M' ∧ S' 0 4 + S' 0 3 = S 0 4 + S 0 3 + 1) L f S M S' M' := by
  have h240 := tf.1
  obtain ⟨⟨ct, mt⟩, ⟨w6, f4⟩, ha, h5, h3⟩ := ps
  obtain ⟨⟨d1, d2⟩, ⟨d3, d4, d5⟩, d6, d7⟩ := dr
  have u := u_c (x := x) (N := N) (P := P) (K := K) (T := T) (m := m) (A := A) (h := h) tf ct ha h5
  have l := l_m (mo := mo) (g := g) tf mt ha h3
  have hcm : chm L f (skp L f a) = 115 := (chm_eq (by omega)).mpr hc
  have hin := chr_in (L := L) (f := f) (a := skp L f a) (by omega)
  rw [hc] at u
  rw [hcm] at l
  generalize skp L f a = b at u l hin
  have ps1 : PS (dup (dup S 0 5 ((b + 1 : Nat) : Int)) 0 4 1) (dup (dup (dup M 0 3 (b : Int)) 0 13 1) 0 3 ((b + 1 : Nat) : Int)) L f (b + 1) := by
    refine ⟨⟨CT_f (CT_f ct (by omega) _) (by omega) _, MTp_f (MTp_f (MTp_f mt (by omega) _) (by omega) _) (by omega) _⟩, ⟨?_, ?_⟩, by omega, ?_, ?_⟩
    · rw [dup_t, va_up_ne _ _ (by omega), dup_t, va_up_ne _ _ (by omega)]; exact w6
    · rw [dup_t, va_up_ne _ _ (by omega), dup_t, va_up_ne _ _ (by omega), dup_t, va_up_ne _ _ (by omega)]; exact f4
    · rw [dup_t, va_up_ne _ _ (by omega), dup_t, va_up_self]
    · rw [dup_t, va_up_self]
  obtain ⟨S', M', r1, r2, ⟨sr, mr⟩, io⟩ := itemsR (x := x) (mo := mo) (m := m) (A := A) (N := N) (P := P) (K := K) (T := T) (h := h) (g := g) tf ps1 (by
    intro k hk
    rw [dup_o _ _ _ (by omega), dup_o _ _ _ (by omega), dup_o _ _ _ (by omega), dup_o _ _ _ (by omega), dup_o _ _ _ (by omega)]
    exact d6 k hk)
  have hbw : am_w ((b : Int) + 1) = ((b + 1 : Nat) : Int) := am_w_nat1 (by omega)
  have s5 : dup S 0 5 (b : Int) 0 5 = b := by rw [dup_t, va_up_self]
  have s4 : dup S 0 5 (b : Int) 0 4 = 0 := by rw [dup_t, va_up_ne _ _ (by omega)]; exact h4
  have m13 : dup M 0 3 (b : Int) 0 13 = 0 := by rw [dup_t, va_up_ne _ _ (by omega), d2]; exact h4
  have m3 : dup (dup M 0 3 (b : Int)) 0 13 1 0 3 = b := by rw [dup_t, va_up_ne _ _ (by omega), dup_t, va_up_self]
  refine ⟨S', M', ?_, ?_, ⟨⟨SF_trans (SF_trans (SF_f S (by omega) _) (SF_f _ (by omega) _)) (SF_SR sr (by omega)), MX_trans (MX_trans (MX_trans (MX_f M (by omega) _) (MX_f _ (by omega) _)) (MX_f _ (by omega) _)) (MX_MRd mr (by omega))⟩, CT_SR ps1.1.1 sr (by omega), MTp_MRd ps1.1.2 mr (by omega)⟩, io.imp (fun q => q) (fun q => ⟨q.1, ?_⟩)⟩
  · rw [am_cV]
    simp only [en_30, bk_30_0, bk_30_25, bk_30_158, zv_c3, u, zv_f3_7, s4, zv_f3_8, s5, hbw, zv_p3_8, dup_dup, zv_p3_7, zv_f3_0, r1, Option.bind_some, Bool.cond_decide, am_oI_some, am_oV_some, am_oI_ite, am_oV_ite, am_bind_ite, Int.toNat_natCast, Int.toNat_zero, Int.reduceToNat, ite_true, ite_false, not_true_eq_false, not_false_eq_true, decide_true, decide_false, decide_eq_true_eq, Bool.false_eq_true, Nat.add_zero, am_rok1_0, am_rok1_1, cond_true, cond_false, am_w_nat1, true_or, or_true, false_or, or_false, true_and, and_true, false_and, and_false, Int.reduceEq, Int.reduceNeg, Int.reduceLT, Int.reduceLE, or_self, and_self]
  · rw [am_cV]
    simp only [en_56, bk_56_0, bk_56_25, bk_56_114, mv_c0, l, mv_f0_13, m13, mv_p0_13, mv_f0_3, m3, hbw, mv_p0_3, r2, Option.bind_some, Bool.cond_decide, am_oI_some, am_oV_some, am_oI_ite, am_oV_ite, am_bind_ite, Int.toNat_natCast, Int.toNat_zero, Int.reduceToNat, ite_true, ite_false, not_true_eq_false, not_false_eq_true, decide_true, decide_false, decide_eq_true_eq, Bool.false_eq_true, Nat.add_zero, am_rok1_0, am_rok1_1, cond_true, cond_false, am_w_nat1, true_or, or_true, false_or, or_false, true_and, and_true, false_and, and_false, Int.reduceEq, Int.reduceNeg, Int.reduceLT, Int.reduceLE, or_self, and_self]
  · have e4 : S' 0 4 = 1 := by rw [sr.1 4 (by omega) (by omega), dup_t, va_up_self]
    have e3 : S' 0 3 = S 0 3 := by rw [sr.1 3 (by omega) (by omega), dup_t, va_up_ne _ _ (by omega), dup_t, va_up_ne _ _ (by omega)]
    have k13 : M' 0 13 = 1 := by rw [mr.1 13 (by omega) (by omega), dup_t, va_up_ne _ _ (by omega), dup_t, va_up_self]
    have k11 : M' 0 11 = M 0 11 := by rw [mr.1 11 (by omega) (by omega), dup_t, va_up_ne _ _ (by omega), dup_t, va_up_ne _ _ (by omega), dup_t, va_up_ne _ _ (by omega)]
    have r3 : S' 3 = S 3 := by rw [sr.2 3 (by omega) (by omega), dup_o _ _ _ (by omega), dup_o _ _ _ (by omega)]
    have r4 : S' 4 = S 4 := by rw [sr.2 4 (by omega) (by omega), dup_o _ _ _ (by omega), dup_o _ _ _ (by omega)]
    have q4 : M' 4 = M 4 := by rw [mr.2 4 (by omega) (by omega), dup_o _ _ _ (by omega), dup_o _ _ _ (by omega), dup_o _ _ _ (by omega)]
    refine ⟨⟨⟨Or.inr e4, by rw [e4, k13]⟩, ⟨by omega, by omega, by rw [k11, e3]; exact d5⟩, q.2, fun i hi => ?_⟩, by omega⟩
    rw [r3, r4, q4]
    exact d7 i (by omega)
theorem w_2w {w : Nat} (hw : w < 24) : am_w (2 * (w : Int)) = ((2 * w : Nat) : Int) := by
  rw [am_w_id (by omega) (by omega)]
  omega
theorem rc_w (tf : TF L f) (ps : PS S M L f a) (dr : DRd S M) (hc : chr L f (skp L f a) = 119) (h4 : S 0 3 < 24) : ∃ S' M', am_cV 30 [am_R (x + 3)] (zv x N P K T S m A h) = some (zv x N P K T S' m A h) ∧ am_cV 56 [am_R mo] (mv mo M g) = some (mv mo M' g) ∧ RE (DRd S' M' ∧ S' 0 4 + S' 0 3 = S 0 4 + S 0 3 + 1) L f S M S' M' := by
  have h240 := tf.1
  obtain ⟨⟨ct, mt⟩, ⟨w6, f4⟩, ha, h5, h3⟩ := ps
  obtain ⟨⟨d1, d2⟩, ⟨d3, d4, d5⟩, d6, d7⟩ := dr
  have u := u_c (x := x) (N := N) (P := P) (K := K) (T := T) (m := m) (A := A) (h := h) tf ct ha h5
  have l := l_m (mo := mo) (g := g) tf mt ha h3
  have hcm : chm L f (skp L f a) = 119 := (chm_eq (by omega)).mpr hc
  have hin := chr_in (L := L) (f := f) (a := skp L f a) (by omega)
  rw [hc] at u
  rw [hcm] at l
  generalize skp L f a = b at u l hin
  obtain ⟨w, hw⟩ : ∃ w : Nat, S 0 3 = w := ⟨(S 0 3).toNat, by omega⟩
  have hw24 : w < 24 := by omega
  have ps1 : PS (dup (dup (dup S 0 5 ((b + 1 : Nat) : Int)) 8 0 0) 8 1 0) (dup (dup (dup (dup (dup M 0 3 (b : Int)) 4 (2 * w) 0) 4 (2 * w + 1) 0) 0 11 ((w + 1 : Nat) : Int)) 0 3 ((b + 1 : Nat) : Int)) L f (b + 1) := by
    refine ⟨⟨CT_r (CT_r (CT_f ct (by omega) _) (by omega) _ _) (by omega) _ _, MTp_f (MTp_f (MTp_r (MTp_r (MTp_f mt (by omega) _) (by omega) _ _) (by omega) _ _) (by omega) _) (by omega) _⟩, ⟨?_, ?_⟩, by omega, ?_, ?_⟩
    · rw [dup_o _ _ _ (by omega), dup_o _ _ _ (by omega), dup_t, va_up_ne _ _ (by omega)]; exact w6
    · rw [dup_t, va_up_ne _ _ (by omega), dup_t, va_up_ne _ _ (by omega), dup_o _ _ _ (by omega), dup_o _ _ _ (by omega), dup_t, va_up_ne _ _ (by omega)]; exact f4
    · rw [dup_o _ _ _ (by omega), dup_o _ _ _ (by omega), dup_t, va_up_self]
    · rw [dup_t, va_up_self]
  have e8 : dup (dup (dup S 0 5 ((b + 1 : Nat) : Int)) 8 0 0) 8 1 0 8 = va_up (va_up (S 8) 0 0) 1 0 := by rw [dup_t, dup_t, dup_o _ _ _ (by omega)]
  have e4 : dup (dup (dup (dup (dup M 0 3 (b : Int)) 4 (2 * w) 0) 4 (2 * w + 1) 0) 0 11 ((w + 1 : Nat) : Int)) 0 3 ((b + 1 : Nat) : Int) 4 = va_up (va_up (M 4) (2 * w) 0) (2 * w + 1) 0 := by rw [dup_o _ _ _ (by omega), dup_o _ _ _ (by omega), dup_t, dup_t, dup_o _ _ _ (by omega)]
  obtain ⟨S2, M2, r1, r2, ⟨sr, mr⟩, io⟩ := itemsW (x := x) (mo := mo) (m := m) (A := A) (N := N) (P := P) (K := K) (T := T) (h := h) (g := g) (w0 := w) (E := M 4) tf ps1 (by
    unfold WUk
    rw [e8, e4]
    refine ⟨fun k hk => ?_, fun j hj => ?_⟩
    · rcases (show k = 0 ∨ k = 1 by omega) with q | q
      · subst q
        rw [va_up_ne _ _ (by omega), va_up_self, va_up_ne _ _ (by omega)]
        refine ⟨?_, by decide, by decide⟩
        show 0 = va_up (M 4) (2 * w) 0 (2 * w)
        rw [va_up_self]
      · subst q
        rw [va_up_self, va_up_self]
        exact ⟨rfl, by decide, by decide⟩
    · rw [va_up_ne _ _ (by omega), va_up_ne _ _ (by omega)]) hw24 (by rw [dup_t, va_up_ne _ _ (by omega), dup_t, va_up_self])
  have hbq : b < 2147483647 := by omega
  have hwq : w < 2147483647 := by omega
  have hwq2 : 2 * w < 2147483647 := by omega
  have s5 : dup S 0 5 (b : Int) 0 5 = b := by rw [dup_t, va_up_self]
  have s3 : dup S 0 5 (b : Int) 0 3 = w := by rw [dup_t, va_up_ne _ _ (by omega)]; exact hw
  have t3 : S2 0 3 = w := by rw [sr.1 3 (by omega) (by omega), dup_o _ _ _ (by omega), dup_o _ _ _ (by omega), dup_t, va_up_ne _ _ (by omega)]; exact hw
  have hw0 : (0 : Int) ≤ (w : Int) := by omega
  have hw1 : (w : Int) < 24 := by omega
  have hnw : ¬ (24 : Int) ≤ (w : Int) := by omega
  have wa := zv_w3 (x := x) (N := N) (P := P) (K := K) (T := T) (S := S2) (m := m) (A := A) (h := h) (S2 8 0) hw0 hw1
  have wb := zv_w4 (x := x) (N := N) (P := P) (K := K) (T := T) (S := dup S2 3 w (S2 8 0)) (m := m) (A := A) (h := h) (S2 8 1) hw0 hw1
  rw [Int.toNat_natCast] at wa wb
  have ta : dup S2 3 w (S2 8 0) 0 3 = w := by rw [dup_o _ _ _ (by omega)]; exact t3
  have tb' : dup (dup S2 3 w (S2 8 0)) 4 w (S2 8 1) 0 3 = w := by rw [dup_o _ _ _ (by omega)]; exact ta
  have t8 : dup S2 3 w (S2 8 0) 8 = S2 8 := dup_o _ _ _ (by omega)
  have ra := zv_r8 (x := x) (N := N) (P := P) (K := K) (T := T) (S := S2) (m := m) (A := A) (h := h) (j := 0) (by omega) (by omega)
  have rb := zv_r8 (x := x) (N := N) (P := P) (K := K) (T := T) (S := dup S2 3 w (S2 8 0)) (m := m) (A := A) (h := h) (j := 1) (by omega) (by omega)
  rw [t8] at rb
  have wc := zv_w8 (x := x) (N := N) (P := P) (K := K) (T := T) (S := dup S 0 5 ((b + 1 : Nat) : Int)) (m := m) (A := A) (h := h) (j := 0) 0 (by omega) (by omega)
  have wd := zv_w8 (x := x) (N := N) (P := P) (K := K) (T := T) (S := dup (dup S 0 5 ((b + 1 : Nat) : Int)) 8 0 0) (m := m) (A := A) (h := h) (j := 1) 0 (by omega) (by omega)
  have k11 : dup M 0 3 (b : Int) 0 11 = w := by rw [dup_t, va_up_ne _ _ (by omega), d5]; exact hw
  have k11a : dup (dup M 0 3 (b : Int)) 4 (2 * w) 0 0 11 = w := by rw [dup_o _ _ _ (by omega)]; exact k11
  have k11b : dup (dup (dup M 0 3 (b : Int)) 4 (2 * w) 0) 4 (2 * w + 1) 0 0 11 = w := by rw [dup_o _ _ _ (by omega)]; exact k11a
  have k3 : dup (dup (dup (dup M 0 3 (b : Int)) 4 (2 * w) 0) 4 (2 * w + 1) 0) 0 11 ((w + 1 : Nat) : Int) 0 3 = b := by rw [dup_t, va_up_ne _ _ (by omega), dup_o _ _ _ (by omega), dup_o _ _ _ (by omega), dup_t, va_up_self]
  have mwa := mv_w4 (m := mo) (M := dup M 0 3 (b : Int)) (h := g) (j := ((2 * w : Nat) : Int)) 0 (by omega) (by omega)
  have mwb := mv_w4 (m := mo) (M := dup (dup M 0 3 (b : Int)) 4 (2 * w) 0) (h := g) (j := ((2 * w + 1 : Nat) : Int)) 0 (by omega) (by omega)
  rw [Int.toNat_natCast] at mwa mwb
  refine ⟨dup (dup (dup S2 3 w (S2 8 0)) 4 w (S2 8 1)) 0 3 ((w + 1 : Nat) : Int), M2, ?_, ?_, ⟨⟨SF_trans (SF_trans (SF_trans (SF_trans (SF_trans (SF_trans (SF_f S (j := 5) ⟨by decide, by decide⟩ _) (SF_r _ (r := 8) ⟨by decide, by decide⟩ _ _)) (SF_r _ (r := 8) ⟨by decide, by decide⟩ _ _)) (SF_SR sr (by decide))) (SF_r _ (r := 3) ⟨by decide, by decide⟩ _ _)) (SF_r _ (r := 4) ⟨by decide, by decide⟩ _ _)) (SF_f _ (j := 3) ⟨by decide, by decide⟩ _), MX_trans (MX_trans (MX_trans (MX_trans (MX_trans (MX_f M (j := 3) (by decide) _) (MX_r _ (r := 4) (by decide) _ _)) (MX_r _ (r := 4) (by decide) _ _)) (MX_f _ (j := 11) (by decide) _)) (MX_f _ (j := 3) (by decide) _)) (MX_MRd mr (by decide))⟩, CT_f (CT_r (CT_r (CT_SR ps1.1.1 sr (by decide)) (by decide) _ _) (by decide) _ _) (by decide) _, MTp_MRd ps1.1.2 mr (by decide)⟩, io.imp (fun q => ?_) (fun q => ?_)⟩
  · rw [am_cV]
    simp only [en_30, bk_30_0, bk_30_52, bk_30_78, bk_30_101, bk_30_127, bk_30_158, zv_c3, u, zv_f3_3, s3, hnw, zv_f3_8, s5, am_w_nat1 hbq, zv_p3_8, dup_dup, zv_f3_6, wc, wd, r1, zv_f3_1, zv_f3_2, t3, ta, tb', ra, rb, wa, wb, am_w_nat1 hwq, zv_p3_3, Int.reduceEq, Int.reduceToNat, Option.bind_some, Bool.cond_decide, am_oI_some, am_oV_some, am_oI_ite, am_oV_ite, am_bind_ite, Int.toNat_natCast, Int.toNat_zero, Int.reduceToNat, ite_true, ite_false, not_true_eq_false, not_false_eq_true, decide_true, decide_false, decide_eq_true_eq, Bool.false_eq_true, Nat.add_zero, am_rok1_0, am_rok1_1, cond_true, cond_false, am_w_nat1, true_or, or_true, false_or, or_false, true_and, and_true, false_and, and_false, Int.reduceEq, Int.reduceNeg, Int.reduceLT, Int.reduceLE, or_self, and_self]
  · rw [am_cV]
    simp only [en_56, bk_56_0, bk_56_41, bk_56_67, bk_56_87, bk_56_114, mv_c0, l, mv_f0_11, k11, hnw, mv_f0_7, w_2w hw24, mwa, k11a, am_w_nat1 hwq2, mwb, k11b, am_w_nat1 hwq, mv_p0_11, mv_f0_3, k3, am_w_nat1 hbq, mv_p0_3, r2, Int.reduceEq, Option.bind_some, Bool.cond_decide, am_oI_some, am_oV_some, am_oI_ite, am_oV_ite, am_bind_ite, Int.toNat_natCast, Int.toNat_zero, Int.reduceToNat, ite_true, ite_false, not_true_eq_false, not_false_eq_true, decide_true, decide_false, decide_eq_true_eq, Bool.false_eq_true, Nat.add_zero, am_rok1_0, am_rok1_1, cond_true, cond_false, am_w_nat1, true_or, or_true, false_or, or_false, true_and, and_true, false_and, and_false, Int.reduceEq, Int.reduceNeg, Int.reduceLT, Int.reduceLE, or_self, and_self]
  · have z6 : dup (dup (dup S2 3 w (S2 8 0)) 4 w (S2 8 1)) 0 3 ((w + 1 : Nat) : Int) 0 6 = S2 0 6 := by rw [dup_t, va_up_ne _ _ (by decide), dup_o _ _ _ (by decide), dup_o _ _ _ (by decide)]
    rw [z6]
    exact q
  · obtain ⟨⟨a', ps2⟩, wu⟩ := q
    have zf : ∀ j, j ≠ 3 → dup (dup (dup S2 3 w (S2 8 0)) 4 w (S2 8 1)) 0 3 ((w + 1 : Nat) : Int) 0 j = S2 0 j := fun j hj => by rw [dup_t, va_up_ne _ _ hj, dup_o _ _ _ (by decide), dup_o _ _ _ (by decide)]
    refine ⟨⟨a', ⟨CT_f (CT_r (CT_r ps2.1.1 (by decide) _ _) (by decide) _ _) (by decide) _, ps2.1.2⟩, ⟨by rw [zf 6 (by decide)]; exact ps2.2.1.1, ps2.2.1.2⟩, ps2.2.2.1, by rw [zf 5 (by decide)]; exact ps2.2.2.2.1, ps2.2.2.2.2⟩, ?_⟩
    have z3 : dup (dup (dup S2 3 w (S2 8 0)) 4 w (S2 8 1)) 0 3 ((w + 1 : Nat) : Int) 0 3 = ((w + 1 : Nat) : Int) := by rw [dup_t, va_up_self]
    have z4 : dup (dup (dup S2 3 w (S2 8 0)) 4 w (S2 8 1)) 0 3 ((w + 1 : Nat) : Int) 0 4 = S 0 4 := by rw [zf 4 (by decide), sr.1 4 (by decide) (by decide), dup_o _ _ _ (by decide), dup_o _ _ _ (by decide), dup_t, va_up_ne _ _ (by decide)]
    have y3 : dup (dup (dup S2 3 w (S2 8 0)) 4 w (S2 8 1)) 0 3 ((w + 1 : Nat) : Int) 3 = va_up (S 3) w (S2 8 0) := by rw [dup_o _ _ _ (by decide), dup_o _ _ _ (by decide), dup_t, sr.2 3 (by decide) (by decide), dup_o _ _ _ (by decide), dup_o _ _ _ (by decide), dup_o _ _ _ (by decide)]
    have y4 : dup (dup (dup S2 3 w (S2 8 0)) 4 w (S2 8 1)) 0 3 ((w + 1 : Nat) : Int) 4 = va_up (S 4) w (S2 8 1) := by rw [dup_o _ _ _ (by decide), dup_t, dup_o _ _ _ (by decide), sr.2 4 (by decide) (by decide), dup_o _ _ _ (by decide), dup_o _ _ _ (by decide), dup_o _ _ _ (by decide)]
    have y2 : dup (dup (dup S2 3 w (S2 8 0)) 4 w (S2 8 1)) 0 3 ((w + 1 : Nat) : Int) 2 = S 2 := by rw [dup_o _ _ _ (by decide), dup_o _ _ _ (by decide), dup_o _ _ _ (by decide), sr.2 2 (by decide) (by decide), dup_o _ _ _ (by decide), dup_o _ _ _ (by decide), dup_o _ _ _ (by decide)]
    have j13 : M2 0 13 = M 0 13 := by rw [mr.1 13 (by decide) (by decide), dup_t, va_up_ne _ _ (by decide), dup_t, va_up_ne _ _ (by decide), dup_o _ _ _ (by decide), dup_o _ _ _ (by decide), dup_t, va_up_ne _ _ (by decide)]
    have j11 : M2 0 11 = ((w + 1 : Nat) : Int) := by rw [mr.1 11 (by decide) (by decide), dup_t, va_up_ne _ _ (by decide), dup_t, va_up_self]
    have j2 : M2 2 = M 2 := by rw [mr.2 2 (by decide) (by decide), dup_o _ _ _ (by decide), dup_o _ _ _ (by decide), dup_o _ _ _ (by decide), dup_o _ _ _ (by decide), dup_o _ _ _ (by decide)]
    clear wa wb wc wd mwa mwb ra rb r1 r2 u l
    unfold DRd RUk
    rw [z3, z4, y3, y4, y2, j13, j11, j2]
    refine ⟨⟨⟨d1, d2⟩, ⟨by omega, by omega, rfl⟩, d6, fun i hi => ?_⟩, by omega⟩
    by_cases ei : i = w
    · subst ei
      rw [va_up_self, va_up_self]
      have v0 := wu.1 0 (by decide)
      have v1 := wu.1 1 (by decide)
      exact ⟨⟨v0.1, v1.1⟩, v0.2, v1.2⟩
    · rw [va_up_ne _ _ ei, va_up_ne _ _ ei, wu.2 (2 * i) (by omega), wu.2 (2 * i + 1) (by omega)]
      exact d7 i (by omega)
theorem rc_n (tf : TF L f) (ps : PS S M L f a) (dr : DRd S M) (hs : ¬ (chr L f (skp L f a) = 115 ∧ S 0 4 = 0)) (hw : ¬ (chr L f (skp L f a) = 119 ∧ S 0 3 < 24)) : ∃ S' M', am_cV 30 [am_R (x + 3)] (zv x N P K T S m A h) = some (zv x N P K T S' m A h) ∧ am_cV 56 [am_R mo] (mv mo M g) = some (mv mo M' g) ∧ RE (DRd S' M' ∧ S' 0 4 + S' 0 3 = S 0 4 + S 0 3 + 1) L f S M S' M' := by
  have h240 := tf.1
  obtain ⟨⟨ct, mt⟩, ⟨w6, f4⟩, ha, h5, h3⟩ := ps
  obtain ⟨⟨d1, d2⟩, ⟨d3, d4, d5⟩, d6, d7⟩ := dr
  have u := u_c (x := x) (N := N) (P := P) (K := K) (T := T) (m := m) (A := A) (h := h) tf ct ha h5
  have l := l_m (mo := mo) (g := g) tf mt ha h3
  have hb := skp_r (f := f) ha
  have q1 := chm_eq (L := L) (f := f) (a := skp L f a) (c := 115) (by omega)
  have q2 := chm_eq (L := L) (f := f) (a := skp L f a) (c := 119) (by omega)
  generalize chm L f (skp L f a) = c' at l q1 q2
  generalize chr L f (skp L f a) = c at u q1 q2 hs hw
  generalize skp L f a = b at u l hb
  have s5 : dup S 0 5 (b : Int) 0 5 = b := by rw [dup_t, va_up_self]
  have s4 : dup S 0 5 (b : Int) 0 4 = S 0 4 := by rw [dup_t, va_up_ne _ _ (by omega)]
  have s3 : dup S 0 5 (b : Int) 0 3 = S 0 3 := by rw [dup_t, va_up_ne _ _ (by omega)]
  have m13 : dup M 0 3 (b : Int) 0 13 = S 0 4 := by rw [dup_t, va_up_ne _ _ (by omega)]; exact d2
  have m11 : dup M 0 3 (b : Int) 0 11 = S 0 3 := by rw [dup_t, va_up_ne _ _ (by omega)]; exact d5
  have fl := m_fails (mo := mo) (g := g) (M := dup M 0 3 (b : Int)) (b := (b : Int)) (by rw [dup_t, va_up_ne _ _ (by omega)]; exact f4) (by rw [dup_t, va_up_self])
  refine ⟨dup (dup S 0 5 (b : Int)) 0 6 (b : Int), dup (dup M 0 3 (b : Int)) 0 4 (b : Int), ?_, ?_, ⟨⟨SF_trans (SF_f S (by omega) _) (SF_f _ (by omega) _), MX_trans (MX_f M (by omega) _) (MX_f _ (by omega) _)⟩, CT_f (CT_f ct (by omega) _) (by omega) _, MTp_f (MTp_f mt (by omega) _) (by omega) _⟩, Or.inl ⟨by rw [dup_t, va_up_self]; omega, by rw [dup_t, va_up_self, dup_t, va_up_self]⟩⟩
  · rw [am_cV]
    by_cases e1 : c = 115
    · have e4 : ¬ S 0 4 = 0 := fun q => hs ⟨e1, q⟩
      rw [e1] at u
      simp only [en_30, bk_30_0, bk_30_52, bk_30_150, bk_30_158, zv_c3, u, zv_f3_7, s4, e4, zv_f3_8, s5, zv_p3_9, Int.reduceEq, Option.bind_some, Bool.cond_decide, am_oI_some, am_oV_some, am_oI_ite, am_oV_ite, am_bind_ite, Int.toNat_natCast, Int.toNat_zero, Int.reduceToNat, ite_true, ite_false, not_true_eq_false, not_false_eq_true, decide_true, decide_false, decide_eq_true_eq, Bool.false_eq_true, Nat.add_zero, am_rok1_0, am_rok1_1, cond_true, cond_false, am_w_nat1, true_or, or_true, false_or, or_false, true_and, and_true, false_and, and_false, Int.reduceEq, Int.reduceNeg, Int.reduceLT, Int.reduceLE, or_self, and_self]
    · by_cases e2 : c = 119
      · have e3 : 24 ≤ S 0 3 := by omega
        rw [e2] at u
        simp only [en_30, bk_30_0, bk_30_52, bk_30_150, bk_30_158, zv_c3, u, zv_f3_3, s3, e3, zv_f3_8, s5, zv_p3_9, Int.reduceEq, Option.bind_some, Bool.cond_decide, am_oI_some, am_oV_some, am_oI_ite, am_oV_ite, am_bind_ite, Int.toNat_natCast, Int.toNat_zero, Int.reduceToNat, ite_true, ite_false, not_true_eq_false, not_false_eq_true, decide_true, decide_false, decide_eq_true_eq, Bool.false_eq_true, Nat.add_zero, am_rok1_0, am_rok1_1, cond_true, cond_false, am_w_nat1, true_or, or_true, false_or, or_false, true_and, and_true, false_and, and_false, Int.reduceEq, Int.reduceNeg, Int.reduceLT, Int.reduceLE, or_self, and_self]
      · simp only [en_30, bk_30_0, bk_30_52, bk_30_150, bk_30_158, zv_c3, u, e1, e2, zv_f3_8, s5, zv_p3_9, Option.bind_some, Bool.cond_decide, am_oI_some, am_oV_some, am_oI_ite, am_oV_ite, am_bind_ite, Int.toNat_natCast, Int.toNat_zero, Int.reduceToNat, ite_true, ite_false, not_true_eq_false, not_false_eq_true, decide_true, decide_false, decide_eq_true_eq, Bool.false_eq_true, Nat.add_zero, am_rok1_0, am_rok1_1, cond_true, cond_false, am_w_nat1, true_or, or_true, false_or, or_false, true_and, and_true, false_and, and_false, Int.reduceEq, Int.reduceNeg, Int.reduceLT, Int.reduceLE, or_self, and_self]
  · rw [am_cV]
    by_cases e1 : c' = 115
    · have e4 : ¬ S 0 4 = 0 := fun q => hs ⟨q1.mp e1, q⟩
      rw [e1] at l
      simp only [en_56, bk_56_0, bk_56_41, bk_56_110, bk_56_114, mv_c0, l, mv_f0_13, m13, e4, fl, Int.reduceEq, Option.bind_some, Bool.cond_decide, am_oI_some, am_oV_some, am_oI_ite, am_oV_ite, am_bind_ite, Int.toNat_natCast, Int.toNat_zero, Int.reduceToNat, ite_true, ite_false, not_true_eq_false, not_false_eq_true, decide_true, decide_false, decide_eq_true_eq, Bool.false_eq_true, Nat.add_zero, am_rok1_0, am_rok1_1, cond_true, cond_false, am_w_nat1, true_or, or_true, false_or, or_false, true_and, and_true, false_and, and_false, Int.reduceEq, Int.reduceNeg, Int.reduceLT, Int.reduceLE, or_self, and_self]
    · by_cases e2 : c' = 119
      · have e3 : 24 ≤ S 0 3 := by have := q2.mp e2; omega
        rw [e2] at l
        simp only [en_56, bk_56_0, bk_56_41, bk_56_110, bk_56_114, mv_c0, l, mv_f0_11, m11, e3, fl, Int.reduceEq, Option.bind_some, Bool.cond_decide, am_oI_some, am_oV_some, am_oI_ite, am_oV_ite, am_bind_ite, Int.toNat_natCast, Int.toNat_zero, Int.reduceToNat, ite_true, ite_false, not_true_eq_false, not_false_eq_true, decide_true, decide_false, decide_eq_true_eq, Bool.false_eq_true, Nat.add_zero, am_rok1_0, am_rok1_1, cond_true, cond_false, am_w_nat1, true_or, or_true, false_or, or_false, true_and, and_true, false_and, and_false, Int.reduceEq, Int.reduceNeg, Int.reduceLT, Int.reduceLE, or_self, and_self]
      · simp only [en_56, bk_56_0, bk_56_41, bk_56_110, bk_56_114, mv_c0, l, e1, e2, fl, Option.bind_some, Bool.cond_decide, am_oI_some, am_oV_some, am_oI_ite, am_oV_ite, am_bind_ite, Int.toNat_natCast, Int.toNat_zero, Int.reduceToNat, ite_true, ite_false, not_true_eq_false, not_false_eq_true, decide_true, decide_false, decide_eq_true_eq, Bool.false_eq_true, Nat.add_zero, am_rok1_0, am_rok1_1, cond_true, cond_false, am_w_nat1, true_or, or_true, false_or, or_false, true_and, and_true, false_and, and_false, Int.reduceEq, Int.reduceNeg, Int.reduceLT, Int.reduceLE, or_self, and_self]
theorem rc_all (tf : TF L f) (ps : PS S M L f a) (dr : DRd S M) : ∃ S' M', am_cV 30 [am_R (x + 3)] (zv x N P K T S m A h) = some (zv x N P K T S' m A h) ∧ am_cV 56 [am_R mo] (mv mo M g) = some (mv mo M' g) ∧ RE (DRd S' M' ∧ S' 0 4 + S' 0 3 = S 0 4 + S 0 3 + 1) L f S M S' M' := by
  by_cases hs : chr L f (skp L f a) = 115 ∧ S 0 4 = 0
  · exact rc_s tf ps dr hs.1 hs.2
  · by_cases hw : chr L f (skp L f a) = 119 ∧ S 0 3 < 24
    · exact rc_w tf ps dr hw.1 hw.2
    · exact rc_n tf ps dr hs hw
end CLS
