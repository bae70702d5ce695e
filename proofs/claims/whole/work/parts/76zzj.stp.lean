/-! ===== reading a step ===== -/
/-- the steps that were read, by class and model -/
def SCr (S M : Nat → Nat → Int) (n : Nat) : Prop := (S 0 7 = n ∧ n ≤ 16) ∧ ∀ i : Nat, i < n → (M 5 (192 + 3 * i) = S 5 i ∧ M 5 (192 + 3 * i + 1) = S 6 i ∧ M 5 (192 + 3 * i + 2) = S 7 i) ∧ (0 ≤ S 5 i ∧ S 5 i ≤ 8) ∧ (S 5 i = 0 → 0 ≤ S 7 i ∧ S 7 i ≤ 999) ∧ (S 5 i = 1 → S 7 i = -1)
def ad (S : Nat → Nat → Int) (n : Nat) (a b c : Int) : Nat → Nat → Int := dup (dup (dup (dup S 5 n a) 6 n b) 7 n c) 0 7 ((n + 1 : Nat) : Int)
def mst (M : Nat → Nat → Int) (n b : Nat) (l : Int) : Nat → Nat → Int := dup (dup (dup (dup (dup M 0 3 (b : Int)) 5 (192 + 3 * n + 1) (-1)) 5 (192 + 3 * n + 2) (-1)) 0 3 ((b + 1 : Nat) : Int)) 5 (192 + 3 * n) l
theorem w_r2 {r : Nat} (h : r < 1000) : am_w ((r : Int) + 2) = ((r + 2 : Nat) : Int) := by
  rw [am_w_id (by omega) (by omega)]
  omega
section STP
variable {x mo m : Nat} {A : Nat → Nat} {N P K T S S1 : Nat → Nat → Int} {M M' : Nat → Nat → Int} {h g : am_H} {L : Int} {f : Nat → Int} {a n b : Nat}
theorem s_add (h7 : S 0 7 = n) (hn : n < 16) (p q r : Int) : am_cV 36 [am_R (x + 7), am_I p, am_I q, am_I r] (zv x N P K T S m A h) = some (zv x N P K T (ad S n p q r) m A h) := by
  have hn0 : (0 : Int) ≤ (n : Int) := by omega
  have hn1 : (n : Int) < 16 := by omega
  have hn2 : ¬ (16 : Int) ≤ (n : Int) := by omega
  have hq : n < 2147483647 := by omega
  have w1 := zv_w5 (x := x) (N := N) (P := P) (K := K) (T := T) (S := S) (m := m) (A := A) (h := h) p hn0 hn1
  have w2 := zv_w6 (x := x) (N := N) (P := P) (K := K) (T := T) (S := dup S 5 n p) (m := m) (A := A) (h := h) q hn0 hn1
  have w3 := zv_w7 (x := x) (N := N) (P := P) (K := K) (T := T) (S := dup (dup S 5 n p) 6 n q) (m := m) (A := A) (h := h) r hn0 hn1
  rw [Int.toNat_natCast] at w1 w2 w3
  have e1 : dup S 5 n p 0 7 = n := by rw [dup_o _ _ _ (by omega)]; exact h7
  have e2 : dup (dup S 5 n p) 6 n q 0 7 = n := by rw [dup_o _ _ _ (by omega)]; exact e1
  have e3 : dup (dup (dup S 5 n p) 6 n q) 7 n r 0 7 = n := by rw [dup_o _ _ _ (by omega)]; exact e2
  unfold ad
  rw [am_cV]
  simp only [en_36, bk_36_0, bk_36_27, bk_36_49, zv_f7_3, h7, hn2, zv_f7_0, zv_f7_1, zv_f7_2, w1, w2, w3, e1, e2, e3, zv_p7_3, am_w_nat1 hq, Option.bind_some, Bool.cond_decide, am_oI_some, am_oV_some, am_oI_ite, am_oV_ite, am_bind_ite, Int.toNat_natCast, Int.toNat_zero, Int.reduceToNat, ite_true, ite_false, not_true_eq_false, not_false_eq_true, decide_true, decide_false, decide_eq_true_eq, Bool.false_eq_true, Nat.add_zero, am_rok1_0, am_rok1_1, cond_true, cond_false, am_w_nat1, true_or, or_true, false_or, or_false, true_and, and_true, false_and, and_false, Int.reduceEq, Int.reduceNeg, Int.reduceLT, Int.reduceLE, or_self, and_self]
theorem ad_f (S : Nat → Nat → Int) (n : Nat) (p q r : Int) {j : Nat} (hj : j ≠ 7) : ad S n p q r 0 j = S 0 j := by
  unfold ad
  rw [dup_t, va_up_ne _ _ hj, dup_o _ _ _ (by omega), dup_o _ _ _ (by omega), dup_o _ _ _ (by omega)]
theorem ad_SF (S : Nat → Nat → Int) (n : Nat) (p q r : Int) : SF S (ad S n p q r) := SF_trans (SF_trans (SF_trans (SF_r S (r := 5) (by omega) _ _) (SF_r _ (r := 6) (by omega) _ _)) (SF_r _ (r := 7) (by omega) _ _)) (SF_f _ (j := 7) (by omega) _)
theorem ad_CT (c : CT S L f) (n : Nat) (p q r : Int) : CT (ad S n p q r) L f := CT_f (CT_r (CT_r (CT_r c (by omega) _ _) (by omega) _ _) (by omega) _ _) (by omega) _
theorem sc_ad (sc : SCr S M n) (hn : n < 16) (e5 : S1 5 = S 5) (e6 : S1 6 = S 6) (e7 : S1 7 = S 7) {p q r : Int} (hm : ∀ j, j < 192 + 3 * n → M' 5 j = M 5 j) (m0 : M' 5 (192 + 3 * n) = p) (m1 : M' 5 (192 + 3 * n + 1) = q) (m2 : M' 5 (192 + 3 * n + 2) = r) (h8 : 0 ≤ p ∧ p ≤ 8) (h0 : p = 0 → 0 ≤ r ∧ r ≤ 999) (h1 : p = 1 → r = -1) : SCr (ad S1 n p q r) M' (n + 1) := by
  have k7 : ad S1 n p q r 0 7 = ((n + 1 : Nat) : Int) := by unfold ad; rw [dup_t, va_up_self]
  have k5 : ad S1 n p q r 5 = va_up (S 5) n p := by unfold ad; rw [dup_o _ _ _ (by omega), dup_o _ _ _ (by omega), dup_o _ _ _ (by omega), dup_t, e5]
  have k6 : ad S1 n p q r 6 = va_up (S 6) n q := by unfold ad; rw [dup_o _ _ _ (by omega), dup_o _ _ _ (by omega), dup_t, dup_o _ _ _ (by omega), e6]
  have k8 : ad S1 n p q r 7 = va_up (S 7) n r := by unfold ad; rw [dup_o _ _ _ (by omega), dup_t, dup_o _ _ _ (by omega), dup_o _ _ _ (by omega), e7]
  unfold SCr
  rw [k7, k5, k6, k8]
  refine ⟨⟨rfl, by omega⟩, fun i hi => ?_⟩
  by_cases e : i = n
  · subst e
    rw [va_up_self, va_up_self, va_up_self]
    exact ⟨⟨m0, m1, m2⟩, h8, h0, h1⟩
  · rw [va_up_ne _ _ e, va_up_ne _ _ e, va_up_ne _ _ e, hm _ (by omega), hm _ (by omega), hm _ (by omega)]
    exact sc.2 i (by omega)
theorem mst_MX (M : Nat → Nat → Int) (n b : Nat) (l : Int) : MX M (mst M n b l) := MX_trans (MX_trans (MX_trans (MX_trans (MX_f M (j := 3) (by omega) _) (MX_5 _ (by omega) _)) (MX_5 _ (by omega) _)) (MX_f _ (j := 3) (by omega) _)) (MX_5 _ (by omega) _)
theorem mst_MT (c : MTp M L f) (n b : Nat) (l : Int) : MTp (mst M n b l) L f := MTp_r (MTp_f (MTp_r (MTp_r (MTp_f c (by omega) _) (by omega) _ _) (by omega) _ _) (by omega) _) (by omega) _ _
theorem mst_3 (M : Nat → Nat → Int) (n b : Nat) (l : Int) : mst M n b l 0 3 = ((b + 1 : Nat) : Int) := by unfold mst; rw [dup_o _ _ _ (by omega), dup_t, va_up_self]
theorem mst_4 (M : Nat → Nat → Int) (n b : Nat) (l : Int) : mst M n b l 0 4 = M 0 4 := by unfold mst; rw [dup_o _ _ _ (by omega), dup_t, va_up_ne _ _ (by omega), dup_o _ _ _ (by omega), dup_o _ _ _ (by omega), dup_t, va_up_ne _ _ (by omega)]
theorem mst_5 (M : Nat → Nat → Int) (n b : Nat) (l : Int) : mst M n b l 5 = va_up (va_up (va_up (M 5) (192 + 3 * n + 1) (-1)) (192 + 3 * n + 2) (-1)) (192 + 3 * n) l := by unfold mst; rw [dup_t, dup_o _ _ _ (by omega), dup_t, dup_t, dup_o _ _ _ (by omega)]
theorem mst_lt (M : Nat → Nat → Int) (n b : Nat) (l : Int) : ∀ j, j < 192 + 3 * n → mst M n b l 5 j = M 5 j := fun j hj => by rw [mst_5, va_up_ne _ _ (by omega), va_up_ne _ _ (by omega), va_up_ne _ _ (by omega)]
theorem mst_50 (M : Nat → Nat → Int) (n b : Nat) (l : Int) : mst M n b l 5 (192 + 3 * n) = l := by rw [mst_5, va_up_self]
theorem mst_51 (M : Nat → Nat → Int) (n b : Nat) (l : Int) : mst M n b l 5 (192 + 3 * n + 1) = -1 := by rw [mst_5, va_up_ne _ _ (by omega), va_up_ne _ _ (by omega), va_up_self]
theorem mst_52 (M : Nat → Nat → Int) (n b : Nat) (l : Int) : mst M n b l 5 (192 + 3 * n + 2) = -1 := by rw [mst_5, va_up_ne _ _ (by omega), va_up_self]
/-- the model's step, behind its letter -/
theorem ms_pre (tf : TF L f) (mt : MTp M L f) (ha : (a : Int) ≤ L) (h3 : M 0 3 = a) (hb : skp L f a = b) (hn : n < 16) {l : Int} (hl : ixf 18 (chr L f b) = l) (hl0 : 0 ≤ l) : am_cV 58 [am_R mo, am_I ((192 + 3 * n : Nat) : Int)] (mv mo M g) = am_oV (am_run am_ms 58 (if l = 2 then 65 else 60) [am_R mo, am_I ((192 + 3 * n : Nat) : Int), am_I l, am_K 1] [] (mv mo (mst M n b l) g)) := by
  have h240 := tf.1
  have lk := l_m (mo := mo) (g := g) tf mt ha h3
  have hr := (skp_r (f := f) ha).2
  rw [hb] at lk hr
  have sp := m_spot (mv mo (dup M 0 3 (b : Int)) g) tx_21 (chm L f b)
  rw [ix_m tx_21 tf, show ixf 21 (chr L f b) = ixf 18 (chr L f b) from rfl, hl] at sp
  have hl1 : ¬ l = -1 := by omega
  have hrq : 192 + 3 * n < 2147483647 := by omega
  have hrq2 : 192 + 3 * n < 1000 := by omega
  have hbq : b < 2147483647 := by omega
  have wa := mv_w5 (m := mo) (M := dup M 0 3 (b : Int)) (h := g) (j := ((192 + 3 * n + 1 : Nat) : Int)) (-1) (by omega) (by omega)
  have wb := mv_w5 (m := mo) (M := dup (dup M 0 3 (b : Int)) 5 (192 + 3 * n + 1) (-1)) (h := g) (j := ((192 + 3 * n + 2 : Nat) : Int)) (-1) (by omega) (by omega)
  have wc := mv_w5 (m := mo) (M := dup (dup (dup (dup M 0 3 (b : Int)) 5 (192 + 3 * n + 1) (-1)) 5 (192 + 3 * n + 2) (-1)) 0 3 ((b + 1 : Nat) : Int)) (h := g) (j := ((192 + 3 * n : Nat) : Int)) l (by omega) (by omega)
  rw [Int.toNat_natCast] at wa wb wc
  have k3 : dup (dup (dup M 0 3 (b : Int)) 5 (192 + 3 * n + 1) (-1)) 5 (192 + 3 * n + 2) (-1) 0 3 = b := by rw [dup_o _ _ _ (by omega), dup_o _ _ _ (by omega), dup_t, va_up_self]
  unfold mst
  rw [am_cV]
  by_cases e2 : l = 2
  · rw [if_pos e2]
    have e2' : (l = 2) = True := eq_true e2
    simp only [en_58, bk_58_0, bk_58_23, bk_58_38, mv_c0, lk, sp, mv_f0_8, am_w_nat1 hrq, w_r2 hrq2, wa, wb, wc, hl1, mv_f0_3, k3, mv_p0_3, am_w_nat1 hbq, e2', Option.bind_some, Bool.cond_decide, am_oI_some, am_oV_some, am_oI_ite, am_oV_ite, am_bind_ite, Int.toNat_natCast, Int.toNat_zero, Int.reduceToNat, ite_true, ite_false, not_true_eq_false, not_false_eq_true, decide_true, decide_false, decide_eq_true_eq, Bool.false_eq_true, Nat.add_zero, am_rok1_0, am_rok1_1, cond_true, cond_false, am_w_nat1, true_or, or_true, false_or, or_false, true_and, and_true, false_and, and_false, Int.reduceEq, Int.reduceNeg, Int.reduceLT, Int.reduceLE, or_self, and_self]
  · rw [if_neg e2]
    simp only [en_58, bk_58_0, bk_58_23, bk_58_38, mv_c0, lk, sp, mv_f0_8, am_w_nat1 hrq, w_r2 hrq2, wa, wb, wc, hl1, mv_f0_3, k3, mv_p0_3, am_w_nat1 hbq, e2, Option.bind_some, Bool.cond_decide, am_oI_some, am_oV_some, am_oI_ite, am_oV_ite, am_bind_ite, Int.toNat_natCast, Int.toNat_zero, Int.reduceToNat, ite_true, ite_false, not_true_eq_false, not_false_eq_true, decide_true, decide_false, decide_eq_true_eq, Bool.false_eq_true, Nat.add_zero, am_rok1_0, am_rok1_1, cond_true, cond_false, am_w_nat1, true_or, or_true, false_or, or_false, true_and, and_true, false_and, and_false, Int.reduceEq, Int.reduceNeg, Int.reduceLT, Int.reduceLE, or_self, and_self]
/-- the class's step, behind its letter -/
theorem cs_pre (tf : TF L f) (ct : CT S L f) (ha : (a : Int) ≤ L) (h5 : S 0 5 = a) (hb : skp L f a = b) {l : Int} (hl : ixf 18 (chr L f b) = l) (hl0 : 0 ≤ l) : am_cV 37 [am_R (x + 3)] (zv x N P K T S m A h) = am_oV (if l = 0 then am_run am_ms 37 47 [am_R (x + 3), am_I l, am_I (-1), am_I (-1)] [] (zv x N P K T (dup S 0 5 ((b + 1 : Nat) : Int)) m A h) else am_run am_ms 37 44 [am_R (x + 3), am_I l, am_I (-1), am_I (-1)] [am_I 1, am_I l] (zv x N P K T (dup S 0 5 ((b + 1 : Nat) : Int)) m A h)) := by
  have h240 := tf.1
  have u := u_c (x := x) (N := N) (P := P) (K := K) (T := T) (m := m) (A := A) (h := h) tf ct ha h5
  have hr := (skp_r (f := f) ha).2
  rw [hb] at u hr
  have hcr := chr_r tf b
  have ic := i2c_id hcr
  have ix := s_idx (zv x N P K T (dup S 0 5 (b : Int)) m A h) tx_18 hcr
  rw [hl] at ix
  have hx1 : am_istx 18 = true := rfl
  have s5 : dup S 0 5 (b : Int) 0 5 = b := by rw [dup_t, va_up_self]
  have hbq : b < 2147483647 := by omega
  rw [am_cV]
  simp only [en_37, bk_37_0, bk_37_24, zv_c3, u, ic, hx1, ix, hl0, zv_f3_8, s5, zv_p3_8, am_w_nat1 hbq, dup_dup, Option.bind_some, Bool.cond_decide, am_oI_some, am_oV_some, am_oI_ite, am_oV_ite, am_bind_ite, Int.toNat_natCast, Int.toNat_zero, Int.reduceToNat, ite_true, ite_false, not_true_eq_false, not_false_eq_true, decide_true, decide_false, decide_eq_true_eq, Bool.false_eq_true, Nat.add_zero, am_rok1_0, am_rok1_1, cond_true, cond_false, am_w_nat1, true_or, or_true, false_or, or_false, true_and, and_true, false_and, and_false, Int.reduceEq, Int.reduceNeg, Int.reduceLT, Int.reduceLE, or_self, and_self]
theorem rs_no (tf : TF L f) (ps : PS S M L f a) (hn : n < 16) (hl : ixf 18 (chr L f (skp L f a)) = -1) : ∃ S' M', am_cV 37 [am_R (x + 3)] (zv x N P K T S m A h) = some (zv x N P K T S' m A h) ∧ am_cV 58 [am_R mo, am_I ((192 + 3 * n : Nat) : Int)] (mv mo M g) = some (mv mo M' g) ∧ RE (SCr S' M' (n + 1)) L f S M S' M' := by
  have h240 := tf.1
  obtain ⟨⟨ct, mt⟩, ⟨w6, f4⟩, ha, h5, h3⟩ := ps
  have u := u_c (x := x) (N := N) (P := P) (K := K) (T := T) (m := m) (A := A) (h := h) tf ct ha h5
  have lk := l_m (mo := mo) (g := g) tf mt ha h3
  have hb := skp_r (f := f) ha
  have hcr := chr_r tf (skp L f a)
  have ic := i2c_id hcr
  have ix := s_idx (zv x N P K T (dup S 0 5 (skp L f a : Int)) m A h) tx_18 hcr
  have sp := m_spot (mv mo (dup M 0 3 (skp L f a : Int)) g) tx_21 (chm L f (skp L f a))
  rw [ix_m tx_21 tf, show ixf 21 (chr L f (skp L f a)) = ixf 18 (chr L f (skp L f a)) from rfl, hl] at sp
  rw [hl] at ix
  generalize skp L f a = b at *
  have hx1 : am_istx 18 = true := rfl
  have s5 : dup S 0 5 (b : Int) 0 5 = b := by rw [dup_t, va_up_self]
  have hrq : 192 + 3 * n < 2147483647 := by omega
  have hrq2 : 192 + 3 * n < 1000 := by omega
  have wa := mv_w5 (m := mo) (M := dup M 0 3 (b : Int)) (h := g) (j := ((192 + 3 * n + 1 : Nat) : Int)) (-1) (by omega) (by omega)
  have wb := mv_w5 (m := mo) (M := dup (dup M 0 3 (b : Int)) 5 (192 + 3 * n + 1) (-1)) (h := g) (j := ((192 + 3 * n + 2 : Nat) : Int)) (-1) (by omega) (by omega)
  rw [Int.toNat_natCast] at wa wb
  have fl := m_fails (mo := mo) (g := g) (M := dup (dup (dup M 0 3 (b : Int)) 5 (192 + 3 * n + 1) (-1)) 5 (192 + 3 * n + 2) (-1)) (b := (b : Int)) (by rw [dup_o _ _ _ (by omega), dup_o _ _ _ (by omega), dup_t, va_up_ne _ _ (by omega)]; exact f4) (by rw [dup_o _ _ _ (by omega), dup_o _ _ _ (by omega), dup_t, va_up_self])
  have hneg : ¬ (0 : Int) ≤ -1 := by omega
  refine ⟨dup (dup S 0 5 (b : Int)) 0 6 (b : Int), dup (dup (dup (dup M 0 3 (b : Int)) 5 (192 + 3 * n + 1) (-1)) 5 (192 + 3 * n + 2) (-1)) 0 4 (b : Int), ?_, ?_, ⟨⟨SF_trans (SF_f S (by omega) _) (SF_f _ (by omega) _), MX_trans (MX_trans (MX_trans (MX_f M (j := 3) (by omega) _) (MX_5 _ (by omega) _)) (MX_5 _ (by omega) _)) (MX_f _ (j := 4) (by omega) _)⟩, CT_f (CT_f ct (by omega) _) (by omega) _, MTp_f (MTp_r (MTp_r (MTp_f mt (by omega) _) (by omega) _ _) (by omega) _ _) (by omega) _⟩, Or.inl ⟨by rw [dup_t, va_up_self]; omega, by rw [dup_t, va_up_self, dup_t, va_up_self]⟩⟩
  · rw [am_cV]
    simp only [en_37, bk_37_0, zv_c3, u, ic, hx1, ix, hneg, zv_f3_8, s5, zv_p3_9, Option.bind_some, Bool.cond_decide, am_oI_some, am_oV_some, am_oI_ite, am_oV_ite, am_bind_ite, Int.toNat_natCast, Int.toNat_zero, Int.reduceToNat, ite_true, ite_false, not_true_eq_false, not_false_eq_true, decide_true, decide_false, decide_eq_true_eq, Bool.false_eq_true, Nat.add_zero, am_rok1_0, am_rok1_1, cond_true, cond_false, am_w_nat1, true_or, or_true, false_or, or_false, true_and, and_true, false_and, and_false, Int.reduceEq, Int.reduceNeg, Int.reduceLT, Int.reduceLE, or_self, and_self]
  · rw [am_cV]
    simp only [en_58, bk_58_0, bk_58_23, mv_c0, lk, sp, mv_f0_8, am_w_nat1 hrq, w_r2 hrq2, wa, wb, fl, Option.bind_some, Bool.cond_decide, am_oI_some, am_oV_some, am_oI_ite, am_oV_ite, am_bind_ite, Int.toNat_natCast, Int.toNat_zero, Int.reduceToNat, ite_true, ite_false, not_true_eq_false, not_false_eq_true, decide_true, decide_false, decide_eq_true_eq, Bool.false_eq_true, Nat.add_zero, am_rok1_0, am_rok1_1, cond_true, cond_false, am_w_nat1, true_or, or_true, false_or, or_false, true_and, and_true, false_and, and_false, Int.reduceEq, Int.reduceNeg, Int.reduceLT, Int.reduceLE, or_self, and_self]
theorem rs_23 (tf : TF L f) (ps : PS S M L f a) (sc : SCr S M n) (hn : n < 16) {l : Int} (hl : ixf 18 (chr L f (skp L f a)) = l) (h2 : l = 2 ∨ l = 3) (hbL : (skp L f a : Int) < L) : ∃ S' M', am_cV 37 [am_R (x + 3)] (zv x N P K T S m A h) = some (zv x N P K T S' m A h) ∧ am_cV 58 [am_R mo, am_I ((192 + 3 * n : Nat) : Int)] (mv mo M g) = some (mv mo M' g) ∧ RE (SCr S' M' (n + 1)) L f S M S' M' := by
  have h240 := tf.1
  obtain ⟨⟨ct, mt⟩, ⟨w6, f4⟩, ha, h5, h3⟩ := ps
  have cp := cs_pre (x := x) (N := N) (P := P) (K := K) (T := T) (m := m) (A := A) (h := h) tf ct ha h5 rfl hl (by omega)
  have mp := ms_pre (mo := mo) (g := g) tf mt ha h3 rfl hn hl (by omega)
  generalize skp L f a = b at *
  have h7 : dup S 0 5 ((b + 1 : Nat) : Int) 0 7 = n := by rw [dup_t, va_up_ne _ _ (by omega)]; exact sc.1.1
  have sa := s_add (x := x) (N := N) (P := P) (K := K) (T := T) (m := m) (A := A) (h := h) h7 hn l (-1) (-1)
  have l0 : ¬ l = 0 := by omega
  have l1 : ¬ l = 1 := by omega
  rw [if_neg l0] at cp
  refine ⟨ad (dup S 0 5 ((b + 1 : Nat) : Int)) n l (-1) (-1), mst M n b l, ?_, ?_, ⟨⟨SF_trans (SF_f S (by omega) _) (ad_SF _ _ _ _ _), mst_MX _ _ _ _⟩, ad_CT (CT_f ct (by omega) _) _ _ _ _, mst_MT mt _ _ _⟩, Or.inr ⟨⟨b + 1, ⟨ad_CT (CT_f ct (by omega) _) _ _ _ _, mst_MT mt _ _ _⟩, ⟨by rw [ad_f _ _ _ _ _ (by omega), dup_t, va_up_ne _ _ (by omega)]; exact w6, by rw [mst_4]; exact f4⟩, by omega, by rw [ad_f _ _ _ _ _ (by omega), dup_t, va_up_self], mst_3 _ _ _ _⟩, sc_ad sc hn (dup_o _ _ _ (by omega)) (dup_o _ _ _ (by omega)) (dup_o _ _ _ (by omega)) (mst_lt M n b l) (mst_50 _ _ _ _) (mst_51 _ _ _ _) (mst_52 _ _ _ _) (by omega) (by omega) (by omega)⟩⟩
  · rw [cp]
    rcases h2 with e | e
    · rw [e] at sa ⊢
      simp only [bk_37_44, bk_37_58, bk_37_73, bk_37_90, zv_f3_4, zv_c7, sa, Int.reduceEq, Option.bind_some, Bool.cond_decide, am_oI_some, am_oV_some, am_oI_ite, am_oV_ite, am_bind_ite, Int.toNat_natCast, Int.toNat_zero, Int.reduceToNat, ite_true, ite_false, not_true_eq_false, not_false_eq_true, decide_true, decide_false, decide_eq_true_eq, Bool.false_eq_true, Nat.add_zero, am_rok1_0, am_rok1_1, cond_true, cond_false, am_w_nat1, true_or, or_true, false_or, or_false, true_and, and_true, false_and, and_false, Int.reduceEq, Int.reduceNeg, Int.reduceLT, Int.reduceLE, or_self, and_self]
    · rw [e] at sa ⊢
      simp only [bk_37_44, bk_37_58, bk_37_73, bk_37_90, zv_f3_4, zv_c7, sa, Int.reduceEq, Option.bind_some, Bool.cond_decide, am_oI_some, am_oV_some, am_oI_ite, am_oV_ite, am_bind_ite, Int.toNat_natCast, Int.toNat_zero, Int.reduceToNat, ite_true, ite_false, not_true_eq_false, not_false_eq_true, decide_true, decide_false, decide_eq_true_eq, Bool.false_eq_true, Nat.add_zero, am_rok1_0, am_rok1_1, cond_true, cond_false, am_w_nat1, true_or, or_true, false_or, or_false, true_and, and_true, false_and, and_false, Int.reduceEq, Int.reduceNeg, Int.reduceLT, Int.reduceLE, or_self, and_self]
  · rw [mp]
    rcases h2 with e | e
    · rw [e, if_pos rfl]
      simp only [bk_58_65, Option.bind_some, Bool.cond_decide, am_oI_some, am_oV_some, am_oI_ite, am_oV_ite, am_bind_ite, Int.toNat_natCast, Int.toNat_zero, Int.reduceToNat, ite_true, ite_false, not_true_eq_false, not_false_eq_true, decide_true, decide_false, decide_eq_true_eq, Bool.false_eq_true, Nat.add_zero, am_rok1_0, am_rok1_1, cond_true, cond_false, am_w_nat1, true_or, or_true, false_or, or_false, true_and, and_true, false_and, and_false, Int.reduceEq, Int.reduceNeg, Int.reduceLT, Int.reduceLE, or_self, and_self]
    · rw [e, if_neg (by omega)]
      simp only [bk_58_60, bk_58_65, Int.reduceEq, Option.bind_some, Bool.cond_decide, am_oI_some, am_oV_some, am_oI_ite, am_oV_ite, am_bind_ite, Int.toNat_natCast, Int.toNat_zero, Int.reduceToNat, ite_true, ite_false, not_true_eq_false, not_false_eq_true, decide_true, decide_false, decide_eq_true_eq, Bool.false_eq_true, Nat.add_zero, am_rok1_0, am_rok1_1, cond_true, cond_false, am_w_nat1, true_or, or_true, false_or, or_false, true_and, and_true, false_and, and_false, Int.reduceEq, Int.reduceNeg, Int.reduceLT, Int.reduceLE, or_self, and_self]
theorem rs_1 (tf : TF L f) (ps : PS S M L f a) (sc : SCr S M n) (hn : n < 16) (hl : ixf 18 (chr L f (skp L f a)) = 1) (hbL : (skp L f a : Int) < L) : ∃ S' M', am_cV 37 [am_R (x + 3)] (zv x N P K T S m A h) = some (zv x N P K T S' m A h) ∧ am_cV 58 [am_R mo, am_I ((192 + 3 * n : Nat) : Int)] (mv mo M g) = some (mv mo M' g) ∧ RE (SCr S' M' (n + 1)) L f S M S' M' := by
  have h240 := tf.1
  obtain ⟨⟨ct, mt⟩, ⟨w6, f4⟩, ha, h5, h3⟩ := ps
  have cp := cs_pre (x := x) (N := N) (P := P) (K := K) (T := T) (m := m) (A := A) (h := h) tf ct ha h5 rfl hl (by omega)
  have mp := ms_pre (mo := mo) (g := g) tf mt ha h3 rfl hn hl (by omega)
  generalize skp L f a = b at *
  have hb1L : ((b + 1 : Nat) : Int) ≤ L := by omega
  have ct1 : CT (dup S 0 5 ((b + 1 : Nat) : Int)) L f := CT_f ct (by omega) _
  have mt1 : MTp (mst M n b 1) L f := mst_MT mt _ _ _
  have n1 := n_c (x := x) (N := N) (P := P) (K := K) (T := T) (m := m) (A := A) (h := h) tf ct1 hb1L (by rw [dup_t, va_up_self]) (by rw [dup_t, va_up_ne _ _ (by omega)]; exact w6) 0 31
  have n2 := n_m (mo := mo) (g := g) tf mt1 hb1L (mst_3 _ _ _ _) (by rw [mst_4]; exact f4) 0 31
  have hs := (skp_r (f := f) hb1L).2
  have wo := rnw_ok (L := L) (f := f) (lo := 0) (hi := 31) hs
  have wn := rnw_no (L := L) (f := f) (lo := 0) (hi := 31) hs
  have pr := (rnp_r (L := L) (f := f) 3 _ hs).2.1
  rw [dup_dup] at n1
  generalize rnw L f 0 31 (skp L f (b + 1)) = w at n1 n2 wo wn
  generalize rnv L f 3 (skp L f (b + 1)) 0 = v at n1 n2 wo
  generalize rnp L f 3 (skp L f (b + 1)) = p at n1 wo pr
  generalize rnq L f 0 31 (skp L f (b + 1)) = q at n2 wo
  have h7 : dup (dup S 0 5 (p : Int)) 0 6 w 0 7 = n := by rw [dup_t, va_up_ne _ _ (by omega), dup_t, va_up_ne _ _ (by omega)]; exact sc.1.1
  have sa := s_add (x := x) (N := N) (P := P) (K := K) (T := T) (m := m) (A := A) (h := h) h7 hn 1 v (-1)
  have hrq : 192 + 3 * n < 2147483647 := by omega
  have wa := mv_w5 (m := mo) (M := dup (dup (mst M n b 1) 0 3 (q : Int)) 0 4 w) (h := g) (j := ((192 + 3 * n + 1 : Nat) : Int)) v (by omega) (by omega)
  rw [Int.toNat_natCast] at wa
  have g6 : ad (dup (dup S 0 5 (p : Int)) 0 6 w) n 1 v (-1) 0 6 = w := by rw [ad_f _ _ _ _ _ (by omega), dup_t, va_up_self]
  have g4 : dup (dup (dup (mst M n b 1) 0 3 (q : Int)) 0 4 w) 5 (192 + 3 * n + 1) v 0 4 = w := by rw [dup_o _ _ _ (by omega), dup_t, va_up_self]
  have ctf : CT (ad (dup (dup S 0 5 (p : Int)) 0 6 w) n 1 v (-1)) L f := ad_CT (CT_f (CT_f ct (by omega) _) (by omega) _) _ _ _ _
  have mtf : MTp (dup (dup (dup (mst M n b 1) 0 3 (q : Int)) 0 4 w) 5 (192 + 3 * n + 1) v) L f := MTp_r (MTp_f (MTp_f mt1 (by omega) _) (by omega) _) (by omega) _ _
  rw [if_neg (by omega)] at cp mp
  refine ⟨ad (dup (dup S 0 5 (p : Int)) 0 6 w) n 1 v (-1), dup (dup (dup (mst M n b 1) 0 3 (q : Int)) 0 4 w) 5 (192 + 3 * n + 1) v, ?_, ?_, ⟨⟨SF_trans (SF_trans (SF_f S (by omega) _) (SF_f _ (by omega) _)) (ad_SF _ _ _ _ _), MX_trans (MX_trans (MX_trans (mst_MX _ _ _ _) (MX_f _ (j := 3) (by omega) _)) (MX_f _ (j := 4) (by omega) _)) (MX_5 _ (by omega) _)⟩, ctf, mtf⟩, ?_⟩
  · rw [cp]
    simp only [bk_37_44, bk_37_47, bk_37_73, bk_37_90, zv_c3, n1, zv_f3_4, zv_c7, sa, Int.reduceEq, Option.bind_some, Bool.cond_decide, am_oI_some, am_oV_some, am_oI_ite, am_oV_ite, am_bind_ite, Int.toNat_natCast, Int.toNat_zero, Int.reduceToNat, ite_true, ite_false, not_true_eq_false, not_false_eq_true, decide_true, decide_false, decide_eq_true_eq, Bool.false_eq_true, Nat.add_zero, am_rok1_0, am_rok1_1, cond_true, cond_false, am_w_nat1, true_or, or_true, false_or, or_false, true_and, and_true, false_and, and_false, Int.reduceEq, Int.reduceNeg, Int.reduceLT, Int.reduceLE, or_self, and_self]
  · rw [mp]
    by_cases ew : w = -1
    · rw [ew] at g4 n2 wa ⊢
      simp only [bk_58_60, bk_58_66, bk_58_87, bk_58_99, mv_f0_8, mv_c0, n2, am_w_nat1 hrq, wa, mv_f0_4, g4, Int.reduceEq, Int.reduceLE, Option.bind_some, Bool.cond_decide, am_oI_some, am_oV_some, am_oI_ite, am_oV_ite, am_bind_ite, Int.toNat_natCast, Int.toNat_zero, Int.reduceToNat, ite_true, ite_false, not_true_eq_false, not_false_eq_true, decide_true, decide_false, decide_eq_true_eq, Bool.false_eq_true, Nat.add_zero, am_rok1_0, am_rok1_1, cond_true, cond_false, am_w_nat1, true_or, or_true, false_or, or_false, true_and, and_true, false_and, and_false, Int.reduceEq, Int.reduceNeg, Int.reduceLT, Int.reduceLE, or_self, and_self]
    · have g4' : ¬ dup (dup (dup (mst M n b 1) 0 3 (q : Int)) 0 4 w) 5 (192 + 3 * n + 1) v 0 4 = -1 := by rw [g4]; exact ew
      simp only [bk_58_60, bk_58_66, bk_58_87, bk_58_99, mv_f0_8, mv_c0, n2, am_w_nat1 hrq, wa, mv_f0_4, g4', Int.reduceEq, Int.reduceLE, Option.bind_some, Bool.cond_decide, am_oI_some, am_oV_some, am_oI_ite, am_oV_ite, am_bind_ite, Int.toNat_natCast, Int.toNat_zero, Int.reduceToNat, ite_true, ite_false, not_true_eq_false, not_false_eq_true, decide_true, decide_false, decide_eq_true_eq, Bool.false_eq_true, Nat.add_zero, am_rok1_0, am_rok1_1, cond_true, cond_false, am_w_nat1, true_or, or_true, false_or, or_false, true_and, and_true, false_and, and_false, Int.reduceEq, Int.reduceNeg, Int.reduceLT, Int.reduceLE, or_self, and_self]
  · by_cases ew : w = -1
    · right
      obtain ⟨hv, hq⟩ := wo ew
      refine ⟨⟨p, ⟨ctf, mtf⟩, ⟨by rw [g6]; exact ew, by rw [g4]; exact ew⟩, pr, by rw [ad_f _ _ _ _ _ (by omega), dup_t, va_up_ne _ _ (by omega), dup_t, va_up_self], by rw [dup_o _ _ _ (by omega), dup_t, va_up_ne _ _ (by omega), dup_t, va_up_self, hq]⟩, ?_⟩
      have e5 : dup (dup (dup (mst M n b 1) 0 3 (q : Int)) 0 4 w) 5 (192 + 3 * n + 1) v 5 = va_up (mst M n b 1 5) (192 + 3 * n + 1) v := by rw [dup_t, dup_o _ _ _ (by omega), dup_o _ _ _ (by omega)]
      refine sc_ad sc hn (by rw [dup_o _ _ _ (by omega), dup_o _ _ _ (by omega)]) (by rw [dup_o _ _ _ (by omega), dup_o _ _ _ (by omega)]) (by rw [dup_o _ _ _ (by omega), dup_o _ _ _ (by omega)]) (fun j hj => ?_) ?_ ?_ ?_ (by omega) (by omega) (by omega)
      · rw [e5, va_up_ne _ _ (by omega)]; exact mst_lt M n b 1 j hj
      · rw [e5, va_up_ne _ _ (by omega)]; exact mst_50 _ _ _ _
      · rw [e5, va_up_self]
      · rw [e5, va_up_ne _ _ (by omega)]; exact mst_52 _ _ _ _
    · left
      rw [g6, g4]
      exact ⟨wn ew, rfl⟩
end STP
