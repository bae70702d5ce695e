/-! ===== reading a script ===== -/
section SCRI
variable {x mo m : Nat} {A : Nat → Nat} {N P K T S S2 : Nat → Nat → Int} {M M4 : Nat → Nat → Int} {h g : am_H} {L : Int} {f : Nat → Int} {a n b p : Nat}
/-- behind the key of a put -/
theorem rs_val (tf : TF L f) (sc : SCr S M n) (hn : n < 16) (sf : SF S S2) (mx : MX M M4) (ps : PS S2 M4 L f p) (h7 : S2 0 7 = n) (e5 : S2 5 = S 5) (e6 : S2 6 = S 6) (e7 : S2 7 = S 7) {v : Int} (hm : ∀ j, j < 192 + 3 * n → M4 5 j = M 5 j) (m0 : M4 5 (192 + 3 * n) = 0) (m1 : M4 5 (192 + 3 * n + 1) = v) (m2 : M4 5 (192 + 3 * n + 2) = -1) : ∃ S' M', am_run am_ms 37 73 [am_R (x + 3), am_I 0, am_I v, am_I (-1)] [] (zv x N P K T S2 m A h) = some (none, zv x N P K T S' m A h) ∧ am_run am_ms 58 100 [am_R mo, am_I ((192 + 3 * n : Nat) : Int), am_I 0, am_K 1] [] (mv mo M4 g) = some (none, mv mo M' g) ∧ RE (SCr S' M' (n + 1)) L f S M S' M' := by
  have h240 := tf.1
  obtain ⟨⟨ct, mt⟩, ⟨w6, f4⟩, ha, h5, h3⟩ := ps
  have u := u_c (x := x) (N := N) (P := P) (K := K) (T := T) (m := m) (A := A) (h := h) tf ct ha h5
  have lk := l_m (mo := mo) (g := g) tf mt ha h3
  have hb := skp_r (f := f) ha
  have q1 := chm_eq (L := L) (f := f) (a := skp L f p) (c := 61) (by omega)
  have hin := chr_in (L := L) (f := f) (a := skp L f p)
  generalize skp L f p = b at u lk hb q1 hin
  have s5 : dup S2 0 5 (b : Int) 0 5 = b := by rw [dup_t, va_up_self]
  by_cases e61 : chr L f b = 61
  · have hbL := (hin (by omega)).1
    rw [e61] at u
    rw [q1.mpr e61] at lk
    have hb1L : ((b + 1 : Nat) : Int) ≤ L := by omega
    have ct1 : CT (dup S2 0 5 ((b + 1 : Nat) : Int)) L f := CT_f ct (by omega) _
    have mt1 : MTp (dup M4 0 3 ((b + 1 : Nat) : Int)) L f := MTp_f mt (by omega) _
    have n1 := n_c (x := x) (N := N) (P := P) (K := K) (T := T) (m := m) (A := A) (h := h) tf ct1 hb1L (by rw [dup_t, va_up_self]) (by rw [dup_t, va_up_ne _ _ (by omega)]; exact w6) 0 999
    have n2 := n_m (mo := mo) (g := g) tf mt1 hb1L (by rw [dup_t, va_up_self]) (by rw [dup_t, va_up_ne _ _ (by omega)]; exact f4) 0 999
    have hs := (skp_r (f := f) hb1L).2
    have wo := rnw_ok (L := L) (f := f) (lo := 0) (hi := 999) hs
    have wn := rnw_no (L := L) (f := f) (lo := 0) (hi := 999) hs
    have pr := (rnp_r (L := L) (f := f) 3 _ hs).2.1
    rw [dup_dup] at n1 n2
    generalize rnw L f 0 999 (skp L f (b + 1)) = w at n1 n2 wo wn
    generalize rnv L f 3 (skp L f (b + 1)) 0 = v2 at n1 n2 wo
    generalize rnp L f 3 (skp L f (b + 1)) = p2 at n1 wo pr
    generalize rnq L f 0 999 (skp L f (b + 1)) = q at n2 wo
    have h71 : dup (dup S2 0 5 (p2 : Int)) 0 6 w 0 7 = n := by rw [dup_t, va_up_ne _ _ (by omega), dup_t, va_up_ne _ _ (by omega)]; exact h7
    have sa := s_add (x := x) (N := N) (P := P) (K := K) (T := T) (m := m) (A := A) (h := h) h71 hn 0 v v2
    have hrq2 : 192 + 3 * n < 1000 := by omega
    have hbq : b < 2147483647 := by omega
    have wa := mv_w5 (m := mo) (M := dup (dup M4 0 3 (q : Int)) 0 4 w) (h := g) (j := ((192 + 3 * n + 2 : Nat) : Int)) v2 (by omega) (by omega)
    rw [Int.toNat_natCast] at wa
    have g6 : ad (dup (dup S2 0 5 (p2 : Int)) 0 6 w) n 0 v v2 0 6 = w := by rw [ad_f _ _ _ _ _ (by omega), dup_t, va_up_self]
    have g4 : dup (dup (dup M4 0 3 (q : Int)) 0 4 w) 5 (192 + 3 * n + 2) v2 0 4 = w := by rw [dup_o _ _ _ (by omega), dup_t, va_up_self]
    have ctf : CT (ad (dup (dup S2 0 5 (p2 : Int)) 0 6 w) n 0 v v2) L f := ad_CT (CT_f (CT_f ct (by omega) _) (by omega) _) _ _ _ _
    have mtf : MTp (dup (dup (dup M4 0 3 (q : Int)) 0 4 w) 5 (192 + 3 * n + 2) v2) L f := MTp_r (MTp_f (MTp_f mt (by omega) _) (by omega) _) (by omega) _ _
    have rv : am_cI 35 [am_R (x + 3)] (zv x N P K T S2 m A h) = some (v2, zv x N P K T (dup (dup S2 0 5 (p2 : Int)) 0 6 w) m A h) := by
      rw [am_cI]
      simp only [en_35, bk_35_0, bk_35_19, zv_c3, u, zv_f3_8, s5, zv_p3_8, am_w_nat1 hbq, dup_dup, n1, Option.bind_some, Bool.cond_decide, am_oI_some, am_oV_some, am_oI_ite, am_oV_ite, am_bind_ite, Int.toNat_natCast, Int.toNat_zero, Int.reduceToNat, ite_true, ite_false, not_true_eq_false, not_false_eq_true, decide_true, decide_false, decide_eq_true_eq, Bool.false_eq_true, Nat.add_zero, am_rok1_0, am_rok1_1, cond_true, cond_false, am_w_nat1, true_or, or_true, false_or, or_false, true_and, and_true, false_and, and_false, Int.reduceEq, Int.reduceNeg, Int.reduceLT, Int.reduceLE, or_self, and_self]
    have k3 : dup M4 0 3 (b : Int) 0 3 = b := by rw [dup_t, va_up_self]
    refine ⟨ad (dup (dup S2 0 5 (p2 : Int)) 0 6 w) n 0 v v2, dup (dup (dup M4 0 3 (q : Int)) 0 4 w) 5 (192 + 3 * n + 2) v2, ?_, ?_, ⟨⟨SF_trans (SF_trans (SF_trans sf (SF_f _ (by omega) _)) (SF_f _ (by omega) _)) (ad_SF _ _ _ _ _), MX_trans (MX_trans (MX_trans mx (MX_f _ (j := 3) (by omega) _)) (MX_f _ (j := 4) (by omega) _)) (MX_5 _ (by omega) _)⟩, ctf, mtf⟩, ?_⟩
    · simp only [bk_37_73, bk_37_90, zv_f3_9, w6, zv_c3, rv, zv_f3_4, zv_c7, sa, Int.reduceEq, Option.bind_some, Bool.cond_decide, am_oI_some, am_oV_some, am_oI_ite, am_oV_ite, am_bind_ite, Int.toNat_natCast, Int.toNat_zero, Int.reduceToNat, ite_true, ite_false, not_true_eq_false, not_false_eq_true, decide_true, decide_false, decide_eq_true_eq, Bool.false_eq_true, Nat.add_zero, am_rok1_0, am_rok1_1, cond_true, cond_false, am_w_nat1, true_or, or_true, false_or, or_false, true_and, and_true, false_and, and_false, Int.reduceEq, Int.reduceNeg, Int.reduceLT, Int.reduceLE, or_self, and_self]
    · simp only [bk_58_100, bk_58_114, bk_58_136, mv_c0, lk, mv_f0_3, k3, mv_p0_3, am_w_nat1 hbq, dup_dup, mv_f0_8, w_r2 hrq2, n2, wa, Int.reduceEq, Option.bind_some, Bool.cond_decide, am_oI_some, am_oV_some, am_oI_ite, am_oV_ite, am_bind_ite, Int.toNat_natCast, Int.toNat_zero, Int.reduceToNat, ite_true, ite_false, not_true_eq_false, not_false_eq_true, decide_true, decide_false, decide_eq_true_eq, Bool.false_eq_true, Nat.add_zero, am_rok1_0, am_rok1_1, cond_true, cond_false, am_w_nat1, true_or, or_true, false_or, or_false, true_and, and_true, false_and, and_false, Int.reduceEq, Int.reduceNeg, Int.reduceLT, Int.reduceLE, or_self, and_self]
    · by_cases ew : w = -1
      · right
        obtain ⟨hv, hq⟩ := wo ew
        refine ⟨⟨p2, ⟨ctf, mtf⟩, ⟨by rw [g6]; exact ew, by rw [g4]; exact ew⟩, pr, by rw [ad_f _ _ _ _ _ (by omega), dup_t, va_up_ne _ _ (by omega), dup_t, va_up_self], by rw [dup_o _ _ _ (by omega), dup_t, va_up_ne _ _ (by omega), dup_t, va_up_self, hq]⟩, ?_⟩
        have e5' : dup (dup (dup M4 0 3 (q : Int)) 0 4 w) 5 (192 + 3 * n + 2) v2 5 = va_up (M4 5) (192 + 3 * n + 2) v2 := by rw [dup_t, dup_o _ _ _ (by omega), dup_o _ _ _ (by omega)]
        refine sc_ad sc hn (by rw [dup_o _ _ _ (by omega), dup_o _ _ _ (by omega)]; exact e5) (by rw [dup_o _ _ _ (by omega), dup_o _ _ _ (by omega)]; exact e6) (by rw [dup_o _ _ _ (by omega), dup_o _ _ _ (by omega)]; exact e7) (fun j hj => ?_) ?_ ?_ ?_ (by omega) (fun _ => hv) (by omega)
        · rw [e5', va_up_ne _ _ (by omega)]; exact hm j hj
        · rw [e5', va_up_ne _ _ (by omega)]; exact m0
        · rw [e5', va_up_ne _ _ (by omega)]; exact m1
        · rw [e5', va_up_self]
      · left
        rw [g6, g4]
        exact ⟨wn ew, rfl⟩
  · have e61' : ¬ chm L f b = 61 := fun z => e61 (q1.mp z)
    have h71 : dup (dup S2 0 5 (b : Int)) 0 6 (b : Int) 0 7 = n := by rw [dup_t, va_up_ne _ _ (by omega), dup_t, va_up_ne _ _ (by omega)]; exact h7
    have sa := s_add (x := x) (N := N) (P := P) (K := K) (T := T) (m := m) (A := A) (h := h) h71 hn 0 v (-1)
    have fl := m_fails (mo := mo) (g := g) (M := dup M4 0 3 (b : Int)) (b := (b : Int)) (by rw [dup_t, va_up_ne _ _ (by omega)]; exact f4) (by rw [dup_t, va_up_self])
    have rv : am_cI 35 [am_R (x + 3)] (zv x N P K T S2 m A h) = some (-1, zv x N P K T (dup (dup S2 0 5 (b : Int)) 0 6 (b : Int)) m A h) := by
      rw [am_cI]
      simp only [en_35, bk_35_0, zv_c3, u, e61, zv_f3_8, s5, zv_p3_9, Option.bind_some, Bool.cond_decide, am_oI_some, am_oV_some, am_oI_ite, am_oV_ite, am_bind_ite, Int.toNat_natCast, Int.toNat_zero, Int.reduceToNat, ite_true, ite_false, not_true_eq_false, not_false_eq_true, decide_true, decide_false, decide_eq_true_eq, Bool.false_eq_true, Nat.add_zero, am_rok1_0, am_rok1_1, cond_true, cond_false, am_w_nat1, true_or, or_true, false_or, or_false, true_and, and_true, false_and, and_false, Int.reduceEq, Int.reduceNeg, Int.reduceLT, Int.reduceLE, or_self, and_self]
    refine ⟨ad (dup (dup S2 0 5 (b : Int)) 0 6 (b : Int)) n 0 v (-1), dup (dup M4 0 3 (b : Int)) 0 4 (b : Int), ?_, ?_, ⟨⟨SF_trans (SF_trans (SF_trans sf (SF_f _ (by omega) _)) (SF_f _ (by omega) _)) (ad_SF _ _ _ _ _), MX_trans (MX_trans mx (MX_f _ (j := 3) (by omega) _)) (MX_f _ (j := 4) (by omega) _)⟩, ad_CT (CT_f (CT_f ct (by omega) _) (by omega) _) _ _ _ _, MTp_f (MTp_f mt (by omega) _) (by omega) _⟩, Or.inl ⟨by rw [ad_f _ _ _ _ _ (by omega), dup_t, va_up_self]; omega, by rw [ad_f _ _ _ _ _ (by omega), dup_t, va_up_self, dup_t, va_up_self]⟩⟩
    · simp only [bk_37_73, bk_37_90, zv_f3_9, w6, zv_c3, rv, zv_f3_4, zv_c7, sa, Int.reduceEq, Option.bind_some, Bool.cond_decide, am_oI_some, am_oV_some, am_oI_ite, am_oV_ite, am_bind_ite, Int.toNat_natCast, Int.toNat_zero, Int.reduceToNat, ite_true, ite_false, not_true_eq_false, not_false_eq_true, decide_true, decide_false, decide_eq_true_eq, Bool.false_eq_true, Nat.add_zero, am_rok1_0, am_rok1_1, cond_true, cond_false, am_w_nat1, true_or, or_true, false_or, or_false, true_and, and_true, false_and, and_false, Int.reduceEq, Int.reduceNeg, Int.reduceLT, Int.reduceLE, or_self, and_self]
    · simp only [bk_58_100, mv_c0, lk, e61', fl, Option.bind_some, Bool.cond_decide, am_oI_some, am_oV_some, am_oI_ite, am_oV_ite, am_bind_ite, Int.toNat_natCast, Int.toNat_zero, Int.reduceToNat, ite_true, ite_false, not_true_eq_false, not_false_eq_true, decide_true, decide_false, decide_eq_true_eq, Bool.false_eq_true, Nat.add_zero, am_rok1_0, am_rok1_1, cond_true, cond_false, am_w_nat1, true_or, or_true, false_or, or_false, true_and, and_true, false_and, and_false, Int.reduceEq, Int.reduceNeg, Int.reduceLT, Int.reduceLE, or_self, and_self]
theorem rs_0 (tf : TF L f) (ps : PS S M L f a) (sc : SCr S M n) (hn : n < 16) (hl : ixf 18 (chr L f (skp L f a)) = 0) (hbL : (skp L f a : Int) < L) : ∃ S' M', am_cV 37 [am_R (x + 3)] (zv x N P K T S m A h) = some (zv x N P K T S' m A h) ∧ am_cV 58 [am_R mo, am_I ((192 + 3 * n : Nat) : Int)] (mv mo M g) = some (mv mo M' g) ∧ RE (SCr S' M' (n + 1)) L f S M S' M' := by
  have h240 := tf.1
  obtain ⟨⟨ct, mt⟩, ⟨w6, f4⟩, ha, h5, h3⟩ := ps
  have cp := cs_pre (x := x) (N := N) (P := P) (K := K) (T := T) (m := m) (A := A) (h := h) tf ct ha h5 rfl hl (by omega)
  have mp := ms_pre (mo := mo) (g := g) tf mt ha h3 rfl hn hl (by omega)
  generalize skp L f a = b at *
  have hb1L : ((b + 1 : Nat) : Int) ≤ L := by omega
  have ct1 : CT (dup S 0 5 ((b + 1 : Nat) : Int)) L f := CT_f ct (by omega) _
  have mt1 : MTp (mst M n b 0) L f := mst_MT mt _ _ _
  have n1 := n_c (x := x) (N := N) (P := P) (K := K) (T := T) (m := m) (A := A) (h := h) tf ct1 hb1L (by rw [dup_t, va_up_self]) (by rw [dup_t, va_up_ne _ _ (by omega)]; exact w6) 0 31
  have n2 := n_m (mo := mo) (g := g) tf mt1 hb1L (mst_3 _ _ _ _) (by rw [mst_4]; exact f4) 0 31
  have hs := (skp_r (f := f) hb1L).2
  have wo := rnw_ok (L := L) (f := f) (lo := 0) (hi := 31) hs
  have wn := rnw_no (L := L) (f := f) (lo := 0) (hi := 31) hs
  have pr := (rnp_r (L := L) (f := f) 3 _ hs).2.1
  rw [dup_dup] at n1
  generalize rnw L f 0 31 (skp L f (b + 1)) = w at n1 n2 wo wn
  generalize rnv L f 3 (skp L f (b + 1)) 0 = v at n1 n2 wo
  generalize rnp L f 3 (skp L f (b + 1)) = p at n1 wo pr
  generalize rnq L f 0 31 (skp L f (b + 1)) = q at n2 wo
  have h7 : dup (dup S 0 5 (p : Int)) 0 6 w 0 7 = n := by rw [dup_t, va_up_ne _ _ (by omega), dup_t, va_up_ne _ _ (by omega)]; exact sc.1.1
  have hrq : 192 + 3 * n < 2147483647 := by omega
  have wa := mv_w5 (m := mo) (M := dup (dup (mst M n b 0) 0 3 (q : Int)) 0 4 w) (h := g) (j := ((192 + 3 * n + 1 : Nat) : Int)) v (by omega) (by omega)
  rw [Int.toNat_natCast] at wa
  have g4 : dup (dup (dup (mst M n b 0) 0 3 (q : Int)) 0 4 w) 5 (192 + 3 * n + 1) v 0 4 = w := by rw [dup_o _ _ _ (by omega), dup_t, va_up_self]
  have s6 : dup (dup S 0 5 (p : Int)) 0 6 w 0 6 = w := by rw [dup_t, va_up_self]
  have ct2 : CT (dup (dup S 0 5 (p : Int)) 0 6 w) L f := CT_f (CT_f ct (by omega) _) (by omega) _
  have mtf : MTp (dup (dup (dup (mst M n b 0) 0 3 (q : Int)) 0 4 w) 5 (192 + 3 * n + 1) v) L f := MTp_r (MTp_f (MTp_f mt1 (by omega) _) (by omega) _) (by omega) _ _
  have sf : SF S (dup (dup S 0 5 (p : Int)) 0 6 w) := SF_trans (SF_f S (by omega) _) (SF_f _ (by omega) _)
  have mx : MX M (dup (dup (dup (mst M n b 0) 0 3 (q : Int)) 0 4 w) 5 (192 + 3 * n + 1) v) := MX_trans (MX_trans (MX_trans (mst_MX _ _ _ _) (MX_f _ (j := 3) (by omega) _)) (MX_f _ (j := 4) (by omega) _)) (MX_5 _ (by omega) _)
  rw [if_pos rfl] at cp
  rw [if_neg (by omega)] at mp
  by_cases ew : w = -1
  · obtain ⟨hv, hq⟩ := wo ew
    have e5' : dup (dup (dup (mst M n b 0) 0 3 (q : Int)) 0 4 w) 5 (192 + 3 * n + 1) v 5 = va_up (mst M n b 0 5) (192 + 3 * n + 1) v := by rw [dup_t, dup_o _ _ _ (by omega), dup_o _ _ _ (by omega)]
    have ps2 : PS (dup (dup S 0 5 (p : Int)) 0 6 w) (dup (dup (dup (mst M n b 0) 0 3 (q : Int)) 0 4 w) 5 (192 + 3 * n + 1) v) L f p := ⟨⟨ct2, mtf⟩, ⟨by rw [s6]; exact ew, by rw [g4]; exact ew⟩, pr, by rw [dup_t, va_up_ne _ _ (by omega), dup_t, va_up_self], by rw [dup_o _ _ _ (by omega), dup_t, va_up_ne _ _ (by omega), dup_t, va_up_self, hq]⟩
    obtain ⟨S', M', r1, r2, re⟩ := rs_val (x := x) (mo := mo) (m := m) (A := A) (N := N) (P := P) (K := K) (T := T) (h := h) (g := g) (v := v) tf sc hn sf mx ps2 h7 (by rw [dup_o _ _ _ (by omega), dup_o _ _ _ (by omega)]) (by rw [dup_o _ _ _ (by omega), dup_o _ _ _ (by omega)]) (by rw [dup_o _ _ _ (by omega), dup_o _ _ _ (by omega)]) (fun j hj => by rw [e5', va_up_ne _ _ (by omega)]; exact mst_lt M n b 0 j hj) (by rw [e5', va_up_ne _ _ (by omega)]; exact mst_50 _ _ _ _) (by rw [e5', va_up_self]) (by rw [e5', va_up_ne _ _ (by omega)]; exact mst_52 _ _ _ _)
    have g4' : dup (dup (dup (mst M n b 0) 0 3 (q : Int)) 0 4 w) 5 (192 + 3 * n + 1) v 0 4 = -1 := by rw [g4]; exact ew
    refine ⟨S', M', ?_, ?_, re⟩
    · rw [cp]
      simp only [bk_37_47, zv_c3, n1, r1, Option.bind_some, Bool.cond_decide, am_oI_some, am_oV_some, am_oI_ite, am_oV_ite, am_bind_ite, Int.toNat_natCast, Int.toNat_zero, Int.reduceToNat, ite_true, ite_false, not_true_eq_false, not_false_eq_true, decide_true, decide_false, decide_eq_true_eq, Bool.false_eq_true, Nat.add_zero, am_rok1_0, am_rok1_1, cond_true, cond_false, am_w_nat1, true_or, or_true, false_or, or_false, true_and, and_true, false_and, and_false, Int.reduceEq, Int.reduceNeg, Int.reduceLT, Int.reduceLE, or_self, and_self]
    · rw [mp]
      simp only [bk_58_60, bk_58_66, bk_58_87, mv_f0_8, mv_c0, n2, am_w_nat1 hrq, wa, mv_f0_4, g4', r2, Int.reduceEq, Int.reduceLE, Option.bind_some, Bool.cond_decide, am_oI_some, am_oV_some, am_oI_ite, am_oV_ite, am_bind_ite, Int.toNat_natCast, Int.toNat_zero, Int.reduceToNat, ite_true, ite_false, not_true_eq_false, not_false_eq_true, decide_true, decide_false, decide_eq_true_eq, Bool.false_eq_true, Nat.add_zero, am_rok1_0, am_rok1_1, cond_true, cond_false, am_w_nat1, true_or, or_true, false_or, or_false, true_and, and_true, false_and, and_false, Int.reduceEq, Int.reduceNeg, Int.reduceLT, Int.reduceLE, or_self, and_self]
  · have sa := s_add (x := x) (N := N) (P := P) (K := K) (T := T) (m := m) (A := A) (h := h) h7 hn 0 v (-1)
    have s6' : ¬ dup (dup S 0 5 (p : Int)) 0 6 w 0 6 = -1 := by rw [s6]; exact ew
    have g4' : ¬ dup (dup (dup (mst M n b 0) 0 3 (q : Int)) 0 4 w) 5 (192 + 3 * n + 1) v 0 4 = -1 := by rw [g4]; exact ew
    refine ⟨ad (dup (dup S 0 5 (p : Int)) 0 6 w) n 0 v (-1), dup (dup (dup (mst M n b 0) 0 3 (q : Int)) 0 4 w) 5 (192 + 3 * n + 1) v, ?_, ?_, ⟨⟨SF_trans sf (ad_SF _ _ _ _ _), mx⟩, ad_CT ct2 _ _ _ _, mtf⟩, Or.inl ⟨by rw [ad_f _ _ _ _ _ (by omega), s6]; exact wn ew, by rw [ad_f _ _ _ _ _ (by omega), s6, g4]⟩⟩
    · rw [cp]
      simp only [bk_37_47, bk_37_73, bk_37_90, zv_c3, n1, zv_f3_9, s6', zv_f3_4, zv_c7, sa, Option.bind_some, Bool.cond_decide, am_oI_some, am_oV_some, am_oI_ite, am_oV_ite, am_bind_ite, Int.toNat_natCast, Int.toNat_zero, Int.reduceToNat, ite_true, ite_false, not_true_eq_false, not_false_eq_true, decide_true, decide_false, decide_eq_true_eq, Bool.false_eq_true, Nat.add_zero, am_rok1_0, am_rok1_1, cond_true, cond_false, am_w_nat1, true_or, or_true, false_or, or_false, true_and, and_true, false_and, and_false, Int.reduceEq, Int.reduceNeg, Int.reduceLT, Int.reduceLE, or_self, and_self]
    · rw [mp]
      simp only [bk_58_60, bk_58_66, bk_58_87, bk_58_99, mv_f0_8, mv_c0, n2, am_w_nat1 hrq, wa, mv_f0_4, g4', Int.reduceEq, Int.reduceLE, Option.bind_some, Bool.cond_decide, am_oI_some, am_oV_some, am_oI_ite, am_oV_ite, am_bind_ite, Int.toNat_natCast, Int.toNat_zero, Int.reduceToNat, ite_true, ite_false, not_true_eq_false, not_false_eq_true, decide_true, decide_false, decide_eq_true_eq, Bool.false_eq_true, Nat.add_zero, am_rok1_0, am_rok1_1, cond_true, cond_false, am_w_nat1, true_or, or_true, false_or, or_false, true_and, and_true, false_and, and_false, Int.reduceEq, Int.reduceNeg, Int.reduceLT, Int.reduceLE, or_self, and_self]
theorem w_d48 {c : Int} (h0 : 0 ≤ c) (h1 : c ≤ 255) : am_w (c - 48) = c - 48 := am_w_id (by omega) (by omega)
theorem rs_4 (tf : TF L f) (ps : PS S M L f a) (sc : SCr S M n) (hn : n < 16) {l : Int} (hl : ixf 18 (chr L f (skp L f a)) = l) (hl4 : 4 ≤ l ∧ l ≤ 8) (hbL : (skp L f a : Int) < L) : ∃ S' M', am_cV 37 [am_R (x + 3)] (zv x N P K T S m A h) = some (zv x N P K T S' m A h) ∧ am_cV 58 [am_R mo, am_I ((192 + 3 * n : Nat) : Int)] (mv mo M g) = some (mv mo M' g) ∧ RE (SCr S' M' (n + 1)) L f S M S' M' := by
  have h240 := tf.1
  obtain ⟨⟨ct, mt⟩, ⟨w6, f4⟩, ha, h5, h3⟩ := ps
  have cp := cs_pre (x := x) (N := N) (P := P) (K := K) (T := T) (m := m) (A := A) (h := h) tf ct ha h5 rfl hl (by omega)
  have mp := ms_pre (mo := mo) (g := g) tf mt ha h3 rfl hn hl (by omega)
  generalize skp L f a = b0 at *
  have hb1L : ((b0 + 1 : Nat) : Int) ≤ L := by omega
  have ct1 : CT (dup S 0 5 ((b0 + 1 : Nat) : Int)) L f := CT_f ct (by omega) _
  have mt1 : MTp (mst M n b0 l) L f := mst_MT mt _ _ _
  have u := u_c (x := x) (N := N) (P := P) (K := K) (T := T) (m := m) (A := A) (h := h) tf ct1 hb1L (by rw [dup_t, va_up_self])
  have lk := l_m (mo := mo) (g := g) tf mt1 hb1L (mst_3 _ _ _ _)
  have hb := skp_r (f := f) hb1L
  rw [dup_dup] at u
  generalize skp L f (b0 + 1) = b at u lk hb
  have s5 : dup S 0 5 (b : Int) 0 5 = b := by rw [dup_t, va_up_self]
  have k3 : dup (mst M n b0 l) 0 3 (b : Int) 0 3 = b := by rw [dup_t, va_up_self]
  have k4 : dup (mst M n b0 l) 0 3 (b : Int) 0 4 = -1 := by rw [dup_t, va_up_ne _ _ (by omega), mst_4]; exact f4
  have ct2 : CT (dup S 0 5 (b : Int)) L f := CT_f ct (by omega) _
  have mt2 : MTp (dup (mst M n b0 l) 0 3 (b : Int)) L f := MTp_f mt1 (by omega) _
  have dc := d_c (x := x) (N := N) (P := P) (K := K) (T := T) (m := m) (A := A) (h := h) tf ct2 s5
  have dm := d_m (mo := mo) (g := g) tf mt2 k3
  have mh := m_here (mo := mo) (g := g) tf mt2 k3
  have l0 : ¬ l = 0 := by omega
  have l1 : ¬ l = 1 := by omega
  have l2 : ¬ l = 2 := by omega
  have l3 : ¬ l = 3 := by omega
  have l22 : 2 ≤ l := by omega
  rw [if_neg l0] at cp
  rw [if_neg l2] at mp
  by_cases ed : dg L f b = true
  · rw [if_pos ed] at dc dm
    have hd := of_decide_eq_true ed
    have hc : chr L f b = f b := if_pos hd.1
    have hc' : chm L f b = f b := if_pos hd.1
    rw [hc] at u
    rw [hc'] at lk mh
    have hfr := tf.2 b hd.1
    have w48 := w_d48 (c := f b) (by omega) (by omega)
    have h7 : dup S 0 5 ((b + 1 : Nat) : Int) 0 7 = n := by rw [dup_t, va_up_ne _ _ (by omega)]; exact sc.1.1
    have sa := s_add (x := x) (N := N) (P := P) (K := K) (T := T) (m := m) (A := A) (h := h) h7 hn l (f b - 48) (-1)
    have hrq : 192 + 3 * n < 2147483647 := by omega
    have hbq : b < 2147483647 := by omega
    have wa := mv_w5 (m := mo) (M := dup (mst M n b0 l) 0 3 (b : Int)) (h := g) (j := ((192 + 3 * n + 1 : Nat) : Int)) (f b - 48) (by omega) (by omega)
    rw [Int.toNat_natCast] at wa
    have k3' : dup (dup (mst M n b0 l) 0 3 (b : Int)) 5 (192 + 3 * n + 1) (f b - 48) 0 3 = b := by rw [dup_o _ _ _ (by omega)]; exact k3
    have rdg : am_cI 34 [am_R (x + 3)] (zv x N P K T (dup S 0 5 ((b0 + 1 : Nat) : Int)) m A h) = some (f b - 48, zv x N P K T (dup S 0 5 ((b + 1 : Nat) : Int)) m A h) := by
      rw [am_cI]
      simp only [en_34, bk_34_0, bk_34_22, zv_c3, u, dc, zv_f3_8, s5, zv_p3_8, am_w_nat1 hbq, dup_dup, w48, Int.one_ne_zero, Option.bind_some, Bool.cond_decide, am_oI_some, am_oV_some, am_oI_ite, am_oV_ite, am_bind_ite, Int.toNat_natCast, Int.toNat_zero, Int.reduceToNat, ite_true, ite_false, not_true_eq_false, not_false_eq_true, decide_true, decide_false, decide_eq_true_eq, Bool.false_eq_true, Nat.add_zero, am_rok1_0, am_rok1_1, cond_true, cond_false, am_w_nat1, true_or, or_true, false_or, or_false, true_and, and_true, false_and, and_false, Int.reduceEq, Int.reduceNeg, Int.reduceLT, Int.reduceLE, or_self, and_self]
    have mtf : MTp (dup (dup (dup (mst M n b0 l) 0 3 (b : Int)) 5 (192 + 3 * n + 1) (f b - 48)) 0 3 ((b + 1 : Nat) : Int)) L f := MTp_f (MTp_r mt2 (by omega) _ _) (by omega) _
    have ctf : CT (ad (dup S 0 5 ((b + 1 : Nat) : Int)) n l (f b - 48) (-1)) L f := ad_CT (CT_f ct (by omega) _) _ _ _ _
    have e5' : dup (dup (dup (mst M n b0 l) 0 3 (b : Int)) 5 (192 + 3 * n + 1) (f b - 48)) 0 3 ((b + 1 : Nat) : Int) 5 = va_up (mst M n b0 l 5) (192 + 3 * n + 1) (f b - 48) := by rw [dup_o _ _ _ (by omega), dup_t, dup_o _ _ _ (by omega)]
    refine ⟨ad (dup S 0 5 ((b + 1 : Nat) : Int)) n l (f b - 48) (-1), dup (dup (dup (mst M n b0 l) 0 3 (b : Int)) 5 (192 + 3 * n + 1) (f b - 48)) 0 3 ((b + 1 : Nat) : Int), ?_, ?_, ⟨⟨SF_trans (SF_f S (by omega) _) (ad_SF _ _ _ _ _), MX_trans (MX_trans (MX_trans (mst_MX _ _ _ _) (MX_f _ (j := 3) (by omega) _)) (MX_5 _ (by omega) _)) (MX_f _ (j := 3) (by omega) _)⟩, ctf, mtf⟩, Or.inr ⟨⟨b + 1, ⟨ctf, mtf⟩, ⟨by rw [ad_f _ _ _ _ _ (by omega), dup_t, va_up_ne _ _ (by omega)]; exact w6, by rw [dup_t, va_up_ne _ _ (by omega), dup_o _ _ _ (by omega)]; exact k4⟩, by omega, by rw [ad_f _ _ _ _ _ (by omega), dup_t, va_up_self], by rw [dup_t, va_up_self]⟩, ?_⟩⟩
    · rw [cp]
      simp only [bk_37_44, bk_37_58, bk_37_73, bk_37_90, zv_c3, l0, l1, l2, l3, rdg, zv_f3_4, zv_c7, sa, Option.bind_some, Bool.cond_decide, am_oI_some, am_oV_some, am_oI_ite, am_oV_ite, am_bind_ite, Int.toNat_natCast, Int.toNat_zero, Int.reduceToNat, ite_true, ite_false, not_true_eq_false, not_false_eq_true, decide_true, decide_false, decide_eq_true_eq, Bool.false_eq_true, Nat.add_zero, am_rok1_0, am_rok1_1, cond_true, cond_false, am_w_nat1, true_or, or_true, false_or, or_false, true_and, and_true, false_and, and_false, Int.reduceEq, Int.reduceNeg, Int.reduceLT, Int.reduceLE, or_self, and_self]
    · rw [mp]
      simp only [bk_58_60, bk_58_66, bk_58_141, bk_58_158, bk_58_179, l3, l22, mv_c0, lk, dm, mv_f0_8, mh, w48, am_w_nat1 hrq, wa, mv_f0_3, k3', am_w_nat1 hbq, mv_p0_3, Int.one_ne_zero, Option.bind_some, Bool.cond_decide, am_oI_some, am_oV_some, am_oI_ite, am_oV_ite, am_bind_ite, Int.toNat_natCast, Int.toNat_zero, Int.reduceToNat, ite_true, ite_false, not_true_eq_false, not_false_eq_true, decide_true, decide_false, decide_eq_true_eq, Bool.false_eq_true, Nat.add_zero, am_rok1_0, am_rok1_1, cond_true, cond_false, am_w_nat1, true_or, or_true, false_or, or_false, true_and, and_true, false_and, and_false, Int.reduceEq, Int.reduceNeg, Int.reduceLT, Int.reduceLE, or_self, and_self]
    · refine sc_ad sc hn (dup_o _ _ _ (by omega)) (dup_o _ _ _ (by omega)) (dup_o _ _ _ (by omega)) (fun j hj => ?_) ?_ ?_ ?_ (by omega) (by omega) (by omega)
      · rw [e5', va_up_ne _ _ (by omega)]; exact mst_lt M n b0 l j hj
      · rw [e5', va_up_ne _ _ (by omega)]; exact mst_50 _ _ _ _
      · rw [e5', va_up_self]
      · rw [e5', va_up_ne _ _ (by omega)]; exact mst_52 _ _ _ _
  · rw [if_neg ed] at dc dm
    have fl := m_fails (mo := mo) (g := g) k4 k3
    have h7 : dup (dup S 0 5 (b : Int)) 0 6 (b : Int) 0 7 = n := by rw [dup_t, va_up_ne _ _ (by omega), dup_t, va_up_ne _ _ (by omega)]; exact sc.1.1
    have sa := s_add (x := x) (N := N) (P := P) (K := K) (T := T) (m := m) (A := A) (h := h) h7 hn l (-1) (-1)
    have rdg : am_cI 34 [am_R (x + 3)] (zv x N P K T (dup S 0 5 ((b0 + 1 : Nat) : Int)) m A h) = some (-1, zv x N P K T (dup (dup S 0 5 (b : Int)) 0 6 (b : Int)) m A h) := by
      rw [am_cI]
      simp only [en_34, bk_34_0, zv_c3, u, dc, zv_f3_8, s5, zv_p3_9, Option.bind_some, Bool.cond_decide, am_oI_some, am_oV_some, am_oI_ite, am_oV_ite, am_bind_ite, Int.toNat_natCast, Int.toNat_zero, Int.reduceToNat, ite_true, ite_false, not_true_eq_false, not_false_eq_true, decide_true, decide_false, decide_eq_true_eq, Bool.false_eq_true, Nat.add_zero, am_rok1_0, am_rok1_1, cond_true, cond_false, am_w_nat1, true_or, or_true, false_or, or_false, true_and, and_true, false_and, and_false, Int.reduceEq, Int.reduceNeg, Int.reduceLT, Int.reduceLE, or_self, and_self]
    refine ⟨ad (dup (dup S 0 5 (b : Int)) 0 6 (b : Int)) n l (-1) (-1), dup (dup (mst M n b0 l) 0 3 (b : Int)) 0 4 (b : Int), ?_, ?_, ⟨⟨SF_trans (SF_trans (SF_f S (by omega) _) (SF_f _ (by omega) _)) (ad_SF _ _ _ _ _), MX_trans (MX_trans (mst_MX _ _ _ _) (MX_f _ (j := 3) (by omega) _)) (MX_f _ (j := 4) (by omega) _)⟩, ad_CT (CT_f (CT_f ct (by omega) _) (by omega) _) _ _ _ _, MTp_f mt2 (by omega) _⟩, Or.inl ⟨by rw [ad_f _ _ _ _ _ (by omega), dup_t, va_up_self]; omega, by rw [ad_f _ _ _ _ _ (by omega), dup_t, va_up_self, dup_t, va_up_self]⟩⟩
    · rw [cp]
      simp only [bk_37_44, bk_37_58, bk_37_73, bk_37_90, zv_c3, l0, l1, l2, l3, rdg, zv_f3_4, zv_c7, sa, Option.bind_some, Bool.cond_decide, am_oI_some, am_oV_some, am_oI_ite, am_oV_ite, am_bind_ite, Int.toNat_natCast, Int.toNat_zero, Int.reduceToNat, ite_true, ite_false, not_true_eq_false, not_false_eq_true, decide_true, decide_false, decide_eq_true_eq, Bool.false_eq_true, Nat.add_zero, am_rok1_0, am_rok1_1, cond_true, cond_false, am_w_nat1, true_or, or_true, false_or, or_false, true_and, and_true, false_and, and_false, Int.reduceEq, Int.reduceNeg, Int.reduceLT, Int.reduceLE, or_self, and_self]
    · rw [mp]
      simp only [bk_58_60, bk_58_66, bk_58_141, l3, l22, mv_c0, lk, dm, fl, Option.bind_some, Bool.cond_decide, am_oI_some, am_oV_some, am_oI_ite, am_oV_ite, am_bind_ite, Int.toNat_natCast, Int.toNat_zero, Int.reduceToNat, ite_true, ite_false, not_true_eq_false, not_false_eq_true, decide_true, decide_false, decide_eq_true_eq, Bool.false_eq_true, Nat.add_zero, am_rok1_0, am_rok1_1, cond_true, cond_false, am_w_nat1, true_or, or_true, false_or, or_false, true_and, and_true, false_and, and_false, Int.reduceEq, Int.reduceNeg, Int.reduceLT, Int.reduceLE, or_self, and_self]
theorem rs_all (tf : TF L f) (ps : PS S M L f a) (sc : SCr S M n) (hn : n < 16) : ∃ S' M', am_cV 37 [am_R (x + 3)] (zv x N P K T S m A h) = some (zv x N P K T S' m A h) ∧ am_cV 58 [am_R mo, am_I ((192 + 3 * n : Nat) : Int)] (mv mo M g) = some (mv mo M' g) ∧ RE (SCr S' M' (n + 1)) L f S M S' M' := by
  rcases ixf_r tx_18 (chr L f (skp L f a)) with ⟨e, _⟩ | ⟨l, e, hl, el, _⟩
  · exact rs_no tf ps hn e
  · have hl9 : l < 9 := hl
    have hcb := tx_18.2.2.2.2 l hl
    have hin := chr_in (L := L) (f := f) (a := skp L f a) (by omega)
    rcases (show l = 0 ∨ l = 1 ∨ (l = 2 ∨ l = 3) ∨ 4 ≤ l by omega) with q | q | q | q
    · exact rs_0 tf ps sc hn (by rw [e, q]; rfl) hin.1
    · exact rs_1 tf ps sc hn (by rw [e, q]; rfl) hin.1
    · exact rs_23 tf ps sc hn e (by omega) hin.1
    · exact rs_4 tf ps sc hn e (by omega) hin.1
end SCRI
