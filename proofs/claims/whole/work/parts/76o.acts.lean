/-! ===== the nine acts by hand ===== -/
theorem WR_HD {n m : Nat} {N K S : Nat → Nat → Int} {HD HD' : Nat → Nat → Nat → Int} {M : Nat → Nat → Int} (w : WR n m N K S HD M) (hh : ∀ i : Nat, (i : Int) < S 0 15 → HD' (hslot S i) = HD (hslot S i)) : WR n m N K S HD' M := by
  obtain ⟨a, b, c, d, e⟩ := w
  refine ⟨a, b, c, d, ?_⟩
  rcases e with e | ⟨Z, e1, e2, e3, e4, e5⟩
  · exact Or.inl e
  · exact Or.inr ⟨Z, e1, e2, e3, e4, fun i hi => by rw [hh i hi]; exact e5 i hi⟩
section ACTS
variable {x mo lo n m Z : Nat} {A : Nat → Nat} {N P K T S M : Nat → Nat → Int} {HD : Nat → Nat → Nat → Int} {h g : am_H}
theorem cl_ref {cy my : Nat} {as : List am_V} {what a b : Int} {k : Nat} (hk : k < 4) (w : WR n m N K S HD M) (hc : CA cy as x lo m A N P K T S HD h (-1 - (k : Int)) N) (ht : am_cI 170 [am_R mo, am_I what, am_I a, am_I b] (mv mo (dup M 0 0 0) g) = some ((k : Int), mv mo (dup M 0 0 0) g)) (hmy : ∀ v M', am_cI 172 [am_R mo, am_I what, am_I a, am_I b] (mv mo M g) = some (v, mv mo M' g) → am_cI my (am_R mo :: as) (mv mo M g) = some (v, mv mo M' g)) : CL cy my as x mo lo (n + 3000) m A N P K T S M h g := by
  obtain ⟨m', A', h', P', c1, hs1, fr, hsl, hm1⟩ := hc
  have mk0 := MK_f M (j := 0) (by omega) 0
  have t := m_act_no (M := M) (k := k) hk ht
  refine ⟨-1, N, P', K, T, stS S (-1 - (k : Int)), _, m', A', h', _, ?_, hmy _ _ t, ?_, hs1, fr⟩
  · rw [if_neg (by omega)] at c1
    exact c1
  · have := WR_refuse (m' := m') (k := k) w ⟨fr.2.2, hs1.1⟩ hk mk0
    have es : stS S (-1 - (k : Int)) = dup S 9 k (am_w (S 9 k + 1)) := by
      unfold stS
      rw [if_neg (by omega), show (-1 - (-1 - (k : Int))).toNat = k by omega]
    rw [es]
    exact WR_mono this (by omega)
theorem cl_put (hlo : x + 107 ≤ lo) (w : WR n m N K S HD M) (hs : HS lo m A HD h) (hn : n + 3000 < 2147483647) (k b : Int) : CL 162 173 [am_I k, am_I b] x mo lo (n + 3000) m A N P K T S M h g := by
  have d := w.2.2.2.1
  have hm := hm_of d
  have h15 : 0 ≤ S 0 15 ∧ S 0 15 ≤ 40 := ⟨d.2.1.1, d.2.1.2.1⟩
  have hmy : ∀ v M', am_cI 172 [am_R mo, am_I 0, am_I k, am_I b] (mv mo M g) = some (v, mv mo M' g) → am_cI 173 [am_R mo, am_I k, am_I b] (mv mo M g) = some (v, mv mo M' g) := by
    intro v M' t
    rw [am_cI]; simp (disch := omega) only [en_173, bk_173_0, t, am_w_id, mv_c0, mv_f0_0, mv_f0_1, mv_f0_2, mv_f0_3, mv_f0_4, mv_f0_5, mv_f0_6, mv_f0_7, mv_f0_8, mv_f0_9, mv_f0_10, mv_f0_11, mv_f0_12, mv_f0_13, mv_f0_14, mv_f0_15, mv_f0_16, mv_f0_17, mv_f0_18, mv_f0_19, mv_f0_20, mv_f0_21, mv_f0_22, mv_f0_23, mv_f0_24, mv_f0_25, mv_f0_26, mv_f0_27, mv_f0_28, mv_f0_29, mv_f0_30, mv_r1, mv_r2, mv_r3, mv_r4, mv_r5, mv_r6, mv_r7, mv_r8, mv_r9, mv_r10, mv_r11, mv_r12, mv_r13, mv_r14, mv_l1, mv_l2, mv_l3, mv_l4, mv_l5, mv_l6, mv_l7, mv_l8, mv_l9, mv_l10, mv_l11, mv_l12, mv_l13, mv_l14, mr2, mr3, mr4, mr5, mr6, mr7, mr8, mr9, mr13, mr1_4, mr0_6, mr1_5, mr1_0, mr1_1, mr1_2, mr1_3, mr1_6, mr1_7, mw2, mw3, mw4, mw5, mw6, mw7, mw8, mw9, mw13, mw1_4, mw0_6, mw1_5, mw1_0, mw1_1, mw1_2, mw1_3, mw1_6, mw1_7, drow_o, drow_t, Option.bind_some, Bool.cond_decide, am_oI_some, am_oV_some, am_oI_ite, am_oV_ite, am_bind_ite, Int.toNat_natCast, Int.toNat_zero, Int.reduceToNat, ite_true, ite_false, not_true_eq_false, not_false_eq_true, decide_true, decide_false, decide_eq_true_eq, Bool.false_eq_true, Nat.add_zero, am_rok1_0, am_rok1_1, cond_true, cond_false, am_w_nat1, true_or, or_true, false_or, or_false, true_and, and_true, false_and, and_false, Int.reduceEq, Int.reduceNeg, Int.reduceLT, Int.reduceLE, or_self, and_self, if_pos, if_neg]
  rcases w.2.2.2.2 with w0 | ⟨Z, wd⟩
  · have h0 := w0.2.1.1
    exact cl_act0 w w0 (ca_put hlo hs d.1 h15 hm k b (Or.inl (fun q => by omega)) (by omega) (fun m A h => ⟨P, by
      have := n_write (d := x + 13) (D := N) (h := zv x N P K T S m A h) h0 k b (x + 31)
      rw [zv_dN] at this
      exact this⟩)) hmy
  · obtain ⟨Ad, iv, rl, mr, pk, f14, f30, bd, nd, ru, pk8⟩ := ctx2 mo wd
    have hZ0 : 0 < N 0 0 := by have := iv.pw.1; have := iv.1.2.1; omega
    by_cases hk : 0 ≤ k ∧ k < 32
    · by_cases hb : 0 ≤ b ∧ b < 1000
      · exact cl_act w wd hn (what := 0) (a := k) (b := b) (by omega) (fun _ => by omega) (fun q => by omega) (fun hv => ca_put hlo hs d.1 h15 hm k b (Or.inr hb) hv (fun m A h => zn_write (x := x) (P := P) (K := K) (T := T) (S := S) (m := m) (A := A) (h := h) iv.1 k b (fun _ => w_ok_all iv _))) (fun _ => rfl) hmy
      · have c1 := ca_put_out (x := x) (N := N) (P := P) (K := K) (T := T) (m := m) (A := A) (h := h) d.1 h15 (k := k) (b := b) ⟨hZ0, hk⟩ (by omega)
        have hst : st Ad Z 0 k b = 1 := by
          unfold st
          rw [if_pos rfl, if_neg (fun q => q hk), if_pos (by omega)]
        have t0 := m_tries_no (mo := mo) (g := g) (by omega) mr (rl_CQ iv rl) pk8 (what := 0) (a := k) (b := b) (by rw [hst]; omega)
        rw [hst] at t0
        have t := m_act_no (M := M) (k := 1) (by omega) t0
        refine ⟨-1, N, P, K, T, stS S (-2), _, m, A, h, HD, c1, hmy _ _ t, ?_, hs, FR_refl lo m h⟩
        have w2 := WR_refuse (m' := m) (k := 1) w ⟨Nat.le_refl m, hs.1⟩ (by omega) (MK_f M (j := 0) (by omega) 0)
        have es : stS S (-2) = dup S 9 1 (am_w (S 9 1 + 1)) := by unfold stS; rw [if_neg (by omega)]; rfl
        rw [es]
        refine WR_HD (WR_mono w2 (by omega)) (fun i hi => ?_)
        rw [dup_o _ _ _ (by omega)] at hi
        have eh : hslot (dup S 9 1 (am_w (S 9 1 + 1))) i = hslot S i := by unfold hslot; rw [dup_o _ _ _ (by omega)]
        rw [eh]
        (try dsimp only)
        rw [if_neg (hslot_ne d.1 (by omega) hi (by omega))]
    · have hno : wr_no N k b = -1 := by unfold wr_no; rw [if_pos (fun q => hk q.2)]
      have hst : st Ad Z 0 k b = 0 := by unfold st; rw [if_pos rfl, if_pos hk]
      have t0 := m_tries_no (mo := mo) (g := g) (by omega) mr (rl_CQ iv rl) pk8 (what := 0) (a := k) (b := b) (by rw [hst]; omega)
      rw [hst] at t0
      refine cl_ref (k := 0) (by omega) w (ca_put hlo hs d.1 h15 hm k b (Or.inl (fun q => hk q.2)) (by omega) (fun m A h => ?_)) t0 hmy
      obtain ⟨P', c⟩ := zn_write (x := x) (P := P) (K := K) (T := T) (S := S) (m := m) (A := A) (h := h) iv.1 k b (fun q => by omega)
      have e1 : wr_v N Z k b = -1 - ((0 : Nat) : Int) := by unfold wr_v; rw [hno]; rfl
      have e2 : wr_D N Z k b = N := by unfold wr_D; rw [hno]; rfl
      rw [e1, e2] at c
      exact ⟨P', c⟩
theorem cl_delete (hlo : x + 107 ≤ lo) (w : WR n m N K S HD M) (hs : HS lo m A HD h) (hn : n + 3000 < 2147483647) (k : Int) : CL 174 175 [am_I k] x mo lo (n + 3000) m A N P K T S M h g := by
  have d := w.2.2.2.1
  have hm := hm_of d
  have h15 : 0 ≤ S 0 15 ∧ S 0 15 ≤ 40 := ⟨d.2.1.1, d.2.1.2.1⟩
  have hmy : ∀ v M', am_cI 172 [am_R mo, am_I 1, am_I k, am_I 0] (mv mo M g) = some (v, mv mo M' g) → am_cI 175 [am_R mo, am_I k] (mv mo M g) = some (v, mv mo M' g) := by
    intro v M' t
    rw [am_cI]; simp (disch := omega) only [en_175, bk_175_0, t, am_w_id, mv_c0, mv_f0_0, mv_f0_1, mv_f0_2, mv_f0_3, mv_f0_4, mv_f0_5, mv_f0_6, mv_f0_7, mv_f0_8, mv_f0_9, mv_f0_10, mv_f0_11, mv_f0_12, mv_f0_13, mv_f0_14, mv_f0_15, mv_f0_16, mv_f0_17, mv_f0_18, mv_f0_19, mv_f0_20, mv_f0_21, mv_f0_22, mv_f0_23, mv_f0_24, mv_f0_25, mv_f0_26, mv_f0_27, mv_f0_28, mv_f0_29, mv_f0_30, mv_r1, mv_r2, mv_r3, mv_r4, mv_r5, mv_r6, mv_r7, mv_r8, mv_r9, mv_r10, mv_r11, mv_r12, mv_r13, mv_r14, mv_l1, mv_l2, mv_l3, mv_l4, mv_l5, mv_l6, mv_l7, mv_l8, mv_l9, mv_l10, mv_l11, mv_l12, mv_l13, mv_l14, mr2, mr3, mr4, mr5, mr6, mr7, mr8, mr9, mr13, mr1_4, mr0_6, mr1_5, mr1_0, mr1_1, mr1_2, mr1_3, mr1_6, mr1_7, mw2, mw3, mw4, mw5, mw6, mw7, mw8, mw9, mw13, mw1_4, mw0_6, mw1_5, mw1_0, mw1_1, mw1_2, mw1_3, mw1_6, mw1_7, drow_o, drow_t, Option.bind_some, Bool.cond_decide, am_oI_some, am_oV_some, am_oI_ite, am_oV_ite, am_bind_ite, Int.toNat_natCast, Int.toNat_zero, Int.reduceToNat, ite_true, ite_false, not_true_eq_false, not_false_eq_true, decide_true, decide_false, decide_eq_true_eq, Bool.false_eq_true, Nat.add_zero, am_rok1_0, am_rok1_1, cond_true, cond_false, am_w_nat1, true_or, or_true, false_or, or_false, true_and, and_true, false_and, and_false, Int.reduceEq, Int.reduceNeg, Int.reduceLT, Int.reduceLE, or_self, and_self, if_pos, if_neg]
  rcases w.2.2.2.2 with w0 | ⟨Z, wd⟩
  · have h0 := w0.2.1.1
    exact cl_act0 w w0 (ca_delete hlo hs d.1 h15 hm k (by omega) (fun m A h => ⟨P, by
      have := n_write (d := x + 13) (D := N) (h := zv x N P K T S m A h) h0 k (-1) (x + 31)
      rw [zv_dN] at this
      exact this⟩)) hmy
  · obtain ⟨Ad, iv, rl, mr, pk, f14, f30, bd, nd, ru, pk8⟩ := ctx2 mo wd
    exact cl_act w wd hn (what := 1) (a := k) (b := -1) (by omega) (fun q => by omega) (fun _ => rfl) (fun hv => ca_delete hlo hs d.1 h15 hm k hv (fun m A h => zn_write (x := x) (P := P) (K := K) (T := T) (S := S) (m := m) (A := A) (h := h) iv.1 k (-1) (fun _ => w_ok_all iv _))) (fun q => by omega) hmy
theorem cl_clean (hlo : x + 107 ≤ lo) (w : WR n m N K S HD M) (hs : HS lo m A HD h) (hn : n + 3000 < 2147483647) : CL 177 178 [] x mo lo (n + 3000) m A N P K T S M h g := by
  have d := w.2.2.2.1
  have hm := hm_of d
  have h15 : 0 ≤ S 0 15 ∧ S 0 15 ≤ 40 := ⟨d.2.1.1, d.2.1.2.1⟩
  have hmy : ∀ v M', am_cI 172 [am_R mo, am_I 2, am_I 0, am_I 0] (mv mo M g) = some (v, mv mo M' g) → am_cI 178 (am_R mo :: []) (mv mo M g) = some (v, mv mo M' g) := by
    intro v M' t
    rw [am_cI]; simp (disch := omega) only [en_178, bk_178_0, t, am_w_id, mv_c0, mv_f0_0, mv_f0_1, mv_f0_2, mv_f0_3, mv_f0_4, mv_f0_5, mv_f0_6, mv_f0_7, mv_f0_8, mv_f0_9, mv_f0_10, mv_f0_11, mv_f0_12, mv_f0_13, mv_f0_14, mv_f0_15, mv_f0_16, mv_f0_17, mv_f0_18, mv_f0_19, mv_f0_20, mv_f0_21, mv_f0_22, mv_f0_23, mv_f0_24, mv_f0_25, mv_f0_26, mv_f0_27, mv_f0_28, mv_f0_29, mv_f0_30, mv_r1, mv_r2, mv_r3, mv_r4, mv_r5, mv_r6, mv_r7, mv_r8, mv_r9, mv_r10, mv_r11, mv_r12, mv_r13, mv_r14, mv_l1, mv_l2, mv_l3, mv_l4, mv_l5, mv_l6, mv_l7, mv_l8, mv_l9, mv_l10, mv_l11, mv_l12, mv_l13, mv_l14, mr2, mr3, mr4, mr5, mr6, mr7, mr8, mr9, mr13, mr1_4, mr0_6, mr1_5, mr1_0, mr1_1, mr1_2, mr1_3, mr1_6, mr1_7, mw2, mw3, mw4, mw5, mw6, mw7, mw8, mw9, mw13, mw1_4, mw0_6, mw1_5, mw1_0, mw1_1, mw1_2, mw1_3, mw1_6, mw1_7, drow_o, drow_t, Option.bind_some, Bool.cond_decide, am_oI_some, am_oV_some, am_oI_ite, am_oV_ite, am_bind_ite, Int.toNat_natCast, Int.toNat_zero, Int.reduceToNat, ite_true, ite_false, not_true_eq_false, not_false_eq_true, decide_true, decide_false, decide_eq_true_eq, Bool.false_eq_true, Nat.add_zero, am_rok1_0, am_rok1_1, cond_true, cond_false, am_w_nat1, true_or, or_true, false_or, or_false, true_and, and_true, false_and, and_false, Int.reduceEq, Int.reduceNeg, Int.reduceLT, Int.reduceLE, or_self, and_self, if_pos, if_neg]
  rcases w.2.2.2.2 with w0 | ⟨Z, wd⟩
  · have h0 := w0.2.1.1
    exact cl_act0 w w0 (ca_clean hlo hs d.1 h15 hm (by omega) (fun m A h => by
      have := n_clean (d := x + 13) (D := N) (h := zv x N P K T S m A h) h0
      rw [zv_dN] at this
      exact this)) hmy
  · obtain ⟨Ad, iv, rl, mr, pk, f14, f30, bd, nd, ru, pk8⟩ := ctx2 mo wd
    refine cl_act w wd hn (what := 2) (a := 0) (b := 0) (by omega) (fun q => by omega) (fun q => by omega) (fun hv => ca_clean hlo hs d.1 h15 hm hv (fun m A h => ?_)) (fun _ => rfl) hmy
    have c := d_cleanByHand (d := x + 13) (D := N) (h := zv x N P K T S m A h) iv.1
    rw [zv_dN, zv_dN] at c
    exact c
theorem cl_crash (hlo : x + 107 ≤ lo) (w : WR n m N K S HD M) (hs : HS lo m A HD h) (hn : n + 3000 < 2147483647) : CL 183 184 [] x mo lo (n + 3000) m A N P K T S M h g := by
  have d := w.2.2.2.1
  have hm := hm_of d
  have h15 : 0 ≤ S 0 15 ∧ S 0 15 ≤ 40 := ⟨d.2.1.1, d.2.1.2.1⟩
  have hmy : ∀ v M', am_cI 172 [am_R mo, am_I 3, am_I 0, am_I 0] (mv mo M g) = some (v, mv mo M' g) → am_cI 184 (am_R mo :: []) (mv mo M g) = some (v, mv mo M' g) := by
    intro v M' t
    rw [am_cI]; simp (disch := omega) only [en_184, bk_184_0, t, am_w_id, mv_c0, mv_f0_0, mv_f0_1, mv_f0_2, mv_f0_3, mv_f0_4, mv_f0_5, mv_f0_6, mv_f0_7, mv_f0_8, mv_f0_9, mv_f0_10, mv_f0_11, mv_f0_12, mv_f0_13, mv_f0_14, mv_f0_15, mv_f0_16, mv_f0_17, mv_f0_18, mv_f0_19, mv_f0_20, mv_f0_21, mv_f0_22, mv_f0_23, mv_f0_24, mv_f0_25, mv_f0_26, mv_f0_27, mv_f0_28, mv_f0_29, mv_f0_30, mv_r1, mv_r2, mv_r3, mv_r4, mv_r5, mv_r6, mv_r7, mv_r8, mv_r9, mv_r10, mv_r11, mv_r12, mv_r13, mv_r14, mv_l1, mv_l2, mv_l3, mv_l4, mv_l5, mv_l6, mv_l7, mv_l8, mv_l9, mv_l10, mv_l11, mv_l12, mv_l13, mv_l14, mr2, mr3, mr4, mr5, mr6, mr7, mr8, mr9, mr13, mr1_4, mr0_6, mr1_5, mr1_0, mr1_1, mr1_2, mr1_3, mr1_6, mr1_7, mw2, mw3, mw4, mw5, mw6, mw7, mw8, mw9, mw13, mw1_4, mw0_6, mw1_5, mw1_0, mw1_1, mw1_2, mw1_3, mw1_6, mw1_7, drow_o, drow_t, Option.bind_some, Bool.cond_decide, am_oI_some, am_oV_some, am_oI_ite, am_oV_ite, am_bind_ite, Int.toNat_natCast, Int.toNat_zero, Int.reduceToNat, ite_true, ite_false, not_true_eq_false, not_false_eq_true, decide_true, decide_false, decide_eq_true_eq, Bool.false_eq_true, Nat.add_zero, am_rok1_0, am_rok1_1, cond_true, cond_false, am_w_nat1, true_or, or_true, false_or, or_false, true_and, and_true, false_and, and_false, Int.reduceEq, Int.reduceNeg, Int.reduceLT, Int.reduceLE, or_self, and_self, if_pos, if_neg]
  rcases w.2.2.2.2 with w0 | ⟨Z, wd⟩
  · have h0 := w0.2.1.1
    exact cl_act0 w w0 (ca_crash hlo hs d.1 h15 hm (by omega) (fun m A h => by
      have := n_crash (d := x + 13) (D := N) (h := zv x N P K T S m A h) h0
      rw [zv_dN] at this
      exact this)) hmy
  · obtain ⟨Ad, iv, rl, mr, pk, f14, f30, bd, nd, ru, pk8⟩ := ctx2 mo wd
    refine cl_act w wd hn (what := 3) (a := 0) (b := 0) (by omega) (fun q => by omega) (fun q => by omega) (fun hv => ca_crash hlo hs d.1 h15 hm hv (fun m A h => ?_)) (fun _ => rfl) hmy
    have c := d_crashByHand (d := x + 13) (D := N) (h := zv x N P K T S m A h) iv.1
    rw [zv_dN, zv_dN] at c
    exact c
theorem cl_open (hlo : x + 107 ≤ lo) (w : WR n m N K S HD M) (hs : HS lo m A HD h) (hn : n + 3000 < 2147483647) (z : Int) : CL 186 187 [am_I z] x mo lo (n + 3000) m A N P K T S M h g := by
  have d := w.2.2.2.1
  have hm := hm_of d
  have h15 : 0 ≤ S 0 15 ∧ S 0 15 ≤ 40 := ⟨d.2.1.1, d.2.1.2.1⟩
  have hmy : ∀ v M', am_cI 172 [am_R mo, am_I 4, am_I z, am_I 0] (mv mo M g) = some (v, mv mo M' g) → am_cI 187 (am_R mo :: [am_I z]) (mv mo M g) = some (v, mv mo M' g) := by
    intro v M' t
    rw [am_cI]; simp (disch := omega) only [en_187, bk_187_0, t, am_w_id, mv_c0, mv_f0_0, mv_f0_1, mv_f0_2, mv_f0_3, mv_f0_4, mv_f0_5, mv_f0_6, mv_f0_7, mv_f0_8, mv_f0_9, mv_f0_10, mv_f0_11, mv_f0_12, mv_f0_13, mv_f0_14, mv_f0_15, mv_f0_16, mv_f0_17, mv_f0_18, mv_f0_19, mv_f0_20, mv_f0_21, mv_f0_22, mv_f0_23, mv_f0_24, mv_f0_25, mv_f0_26, mv_f0_27, mv_f0_28, mv_f0_29, mv_f0_30, mv_r1, mv_r2, mv_r3, mv_r4, mv_r5, mv_r6, mv_r7, mv_r8, mv_r9, mv_r10, mv_r11, mv_r12, mv_r13, mv_r14, mv_l1, mv_l2, mv_l3, mv_l4, mv_l5, mv_l6, mv_l7, mv_l8, mv_l9, mv_l10, mv_l11, mv_l12, mv_l13, mv_l14, mr2, mr3, mr4, mr5, mr6, mr7, mr8, mr9, mr13, mr1_4, mr0_6, mr1_5, mr1_0, mr1_1, mr1_2, mr1_3, mr1_6, mr1_7, mw2, mw3, mw4, mw5, mw6, mw7, mw8, mw9, mw13, mw1_4, mw0_6, mw1_5, mw1_0, mw1_1, mw1_2, mw1_3, mw1_6, mw1_7, drow_o, drow_t, Option.bind_some, Bool.cond_decide, am_oI_some, am_oV_some, am_oI_ite, am_oV_ite, am_bind_ite, Int.toNat_natCast, Int.toNat_zero, Int.reduceToNat, ite_true, ite_false, not_true_eq_false, not_false_eq_true, decide_true, decide_false, decide_eq_true_eq, Bool.false_eq_true, Nat.add_zero, am_rok1_0, am_rok1_1, cond_true, cond_false, am_w_nat1, true_or, or_true, false_or, or_false, true_and, and_true, false_and, and_false, Int.reduceEq, Int.reduceNeg, Int.reduceLT, Int.reduceLE, or_self, and_self, if_pos, if_neg]
  rcases w.2.2.2.2 with w0 | ⟨Z, wd⟩
  · have h0 := w0.2.1.1
    exact cl_act0 w w0 (ca_open hlo hs d.1 h15 hm z (by omega) (fun m A h => by
      have := n_open (d := x + 13) (D := N) (h := zv x N P K T S m A h) h0 z
      rw [zv_dN] at this
      exact this)) hmy
  · obtain ⟨Ad, iv, rl, mr, pk, f14, f30, bd, nd, ru, pk8⟩ := ctx2 mo wd
    refine cl_act w wd hn (what := 4) (a := z) (b := 0) (by omega) (fun q => by omega) (fun q => by omega) (fun hv => ca_open hlo hs d.1 h15 hm z hv (fun m A h => ?_)) (fun _ => rfl) hmy
    have c := d_openByHand (d := x + 13) (D := N) (h := zv x N P K T S m A h) iv.1 z
    rw [zv_dN, zv_dN] at c
    exact c
theorem cl_close (hlo : x + 107 ≤ lo) (w : WR n m N K S HD M) (hs : HS lo m A HD h) (hn : n + 3000 < 2147483647) (z : Int) : CL 189 190 [am_I z] x mo lo (n + 3000) m A N P K T S M h g := by
  have d := w.2.2.2.1
  have hm := hm_of d
  have h15 : 0 ≤ S 0 15 ∧ S 0 15 ≤ 40 := ⟨d.2.1.1, d.2.1.2.1⟩
  have hmy : ∀ v M', am_cI 172 [am_R mo, am_I 5, am_I z, am_I 0] (mv mo M g) = some (v, mv mo M' g) → am_cI 190 (am_R mo :: [am_I z]) (mv mo M g) = some (v, mv mo M' g) := by
    intro v M' t
    rw [am_cI]; simp (disch := omega) only [en_190, bk_190_0, t, am_w_id, mv_c0, mv_f0_0, mv_f0_1, mv_f0_2, mv_f0_3, mv_f0_4, mv_f0_5, mv_f0_6, mv_f0_7, mv_f0_8, mv_f0_9, mv_f0_10, mv_f0_11, mv_f0_12, mv_f0_13, mv_f0_14, mv_f0_15, mv_f0_16, mv_f0_17, mv_f0_18, mv_f0_19, mv_f0_20, mv_f0_21, mv_f0_22, mv_f0_23, mv_f0_24, mv_f0_25, mv_f0_26, mv_f0_27, mv_f0_28, mv_f0_29, mv_f0_30, mv_r1, mv_r2, mv_r3, mv_r4, mv_r5, mv_r6, mv_r7, mv_r8, mv_r9, mv_r10, mv_r11, mv_r12, mv_r13, mv_r14, mv_l1, mv_l2, mv_l3, mv_l4, mv_l5, mv_l6, mv_l7, mv_l8, mv_l9, mv_l10, mv_l11, mv_l12, mv_l13, mv_l14, mr2, mr3, mr4, mr5, mr6, mr7, mr8, mr9, mr13, mr1_4, mr0_6, mr1_5, mr1_0, mr1_1, mr1_2, mr1_3, mr1_6, mr1_7, mw2, mw3, mw4, mw5, mw6, mw7, mw8, mw9, mw13, mw1_4, mw0_6, mw1_5, mw1_0, mw1_1, mw1_2, mw1_3, mw1_6, mw1_7, drow_o, drow_t, Option.bind_some, Bool.cond_decide, am_oI_some, am_oV_some, am_oI_ite, am_oV_ite, am_bind_ite, Int.toNat_natCast, Int.toNat_zero, Int.reduceToNat, ite_true, ite_false, not_true_eq_false, not_false_eq_true, decide_true, decide_false, decide_eq_true_eq, Bool.false_eq_true, Nat.add_zero, am_rok1_0, am_rok1_1, cond_true, cond_false, am_w_nat1, true_or, or_true, false_or, or_false, true_and, and_true, false_and, and_false, Int.reduceEq, Int.reduceNeg, Int.reduceLT, Int.reduceLE, or_self, and_self, if_pos, if_neg]
  rcases w.2.2.2.2 with w0 | ⟨Z, wd⟩
  · have h0 := w0.2.1.1
    exact cl_act0 w w0 (ca_close hlo hs d.1 h15 hm z (by omega) (fun m A h => by
      have := n_close (d := x + 13) (D := N) (h := zv x N P K T S m A h) h0 z
      rw [zv_dN] at this
      exact this)) hmy
  · obtain ⟨Ad, iv, rl, mr, pk, f14, f30, bd, nd, ru, pk8⟩ := ctx2 mo wd
    refine cl_act w wd hn (what := 5) (a := z) (b := 0) (by omega) (fun q => by omega) (fun q => by omega) (fun hv => ca_close hlo hs d.1 h15 hm z hv (fun m A h => ?_)) (fun _ => rfl) hmy
    have c := d_closeByHand (d := x + 13) (D := N) (h := zv x N P K T S m A h) iv.1 z
    rw [zv_dN, zv_dN] at c
    exact c
theorem cl_finish (hlo : x + 107 ≤ lo) (w : WR n m N K S HD M) (hs : HS lo m A HD h) (hn : n + 3000 < 2147483647) (z : Int) : CL 192 193 [am_I z] x mo lo (n + 3000) m A N P K T S M h g := by
  have d := w.2.2.2.1
  have hm := hm_of d
  have h15 : 0 ≤ S 0 15 ∧ S 0 15 ≤ 40 := ⟨d.2.1.1, d.2.1.2.1⟩
  have hmy : ∀ v M', am_cI 172 [am_R mo, am_I 6, am_I z, am_I 0] (mv mo M g) = some (v, mv mo M' g) → am_cI 193 (am_R mo :: [am_I z]) (mv mo M g) = some (v, mv mo M' g) := by
    intro v M' t
    rw [am_cI]; simp (disch := omega) only [en_193, bk_193_0, t, am_w_id, mv_c0, mv_f0_0, mv_f0_1, mv_f0_2, mv_f0_3, mv_f0_4, mv_f0_5, mv_f0_6, mv_f0_7, mv_f0_8, mv_f0_9, mv_f0_10, mv_f0_11, mv_f0_12, mv_f0_13, mv_f0_14, mv_f0_15, mv_f0_16, mv_f0_17, mv_f0_18, mv_f0_19, mv_f0_20, mv_f0_21, mv_f0_22, mv_f0_23, mv_f0_24, mv_f0_25, mv_f0_26, mv_f0_27, mv_f0_28, mv_f0_29, mv_f0_30, mv_r1, mv_r2, mv_r3, mv_r4, mv_r5, mv_r6, mv_r7, mv_r8, mv_r9, mv_r10, mv_r11, mv_r12, mv_r13, mv_r14, mv_l1, mv_l2, mv_l3, mv_l4, mv_l5, mv_l6, mv_l7, mv_l8, mv_l9, mv_l10, mv_l11, mv_l12, mv_l13, mv_l14, mr2, mr3, mr4, mr5, mr6, mr7, mr8, mr9, mr13, mr1_4, mr0_6, mr1_5, mr1_0, mr1_1, mr1_2, mr1_3, mr1_6, mr1_7, mw2, mw3, mw4, mw5, mw6, mw7, mw8, mw9, mw13, mw1_4, mw0_6, mw1_5, mw1_0, mw1_1, mw1_2, mw1_3, mw1_6, mw1_7, drow_o, drow_t, Option.bind_some, Bool.cond_decide, am_oI_some, am_oV_some, am_oI_ite, am_oV_ite, am_bind_ite, Int.toNat_natCast, Int.toNat_zero, Int.reduceToNat, ite_true, ite_false, not_true_eq_false, not_false_eq_true, decide_true, decide_false, decide_eq_true_eq, Bool.false_eq_true, Nat.add_zero, am_rok1_0, am_rok1_1, cond_true, cond_false, am_w_nat1, true_or, or_true, false_or, or_false, true_and, and_true, false_and, and_false, Int.reduceEq, Int.reduceNeg, Int.reduceLT, Int.reduceLE, or_self, and_self, if_pos, if_neg]
  rcases w.2.2.2.2 with w0 | ⟨Z, wd⟩
  · have h0 := w0.2.1.1
    exact cl_act0 w w0 (ca_finish hlo hs d.1 h15 hm z (by omega) (fun m A h => by
      have := n_finish (d := x + 13) (D := N) (h := zv x N P K T S m A h) h0 z
      rw [zv_dN] at this
      exact this)) hmy
  · obtain ⟨Ad, iv, rl, mr, pk, f14, f30, bd, nd, ru, pk8⟩ := ctx2 mo wd
    refine cl_act w wd hn (what := 6) (a := z) (b := 0) (by omega) (fun q => by omega) (fun q => by omega) (fun hv => ca_finish hlo hs d.1 h15 hm z hv (fun m A h => ?_)) (fun _ => rfl) hmy
    have c := d_finishByHand (d := x + 13) (D := N) (h := zv x N P K T S m A h) iv.1 z
    rw [zv_dN, zv_dN] at c
    exact c
theorem cl_reset (hlo : x + 107 ≤ lo) (w : WR n m N K S HD M) (hs : HS lo m A HD h) (hn : n + 3000 < 2147483647) (z : Int) : CL 195 196 [am_I z] x mo lo (n + 3000) m A N P K T S M h g := by
  have d := w.2.2.2.1
  have hm := hm_of d
  have h15 : 0 ≤ S 0 15 ∧ S 0 15 ≤ 40 := ⟨d.2.1.1, d.2.1.2.1⟩
  have hmy : ∀ v M', am_cI 172 [am_R mo, am_I 7, am_I z, am_I 0] (mv mo M g) = some (v, mv mo M' g) → am_cI 196 (am_R mo :: [am_I z]) (mv mo M g) = some (v, mv mo M' g) := by
    intro v M' t
    rw [am_cI]; simp (disch := omega) only [en_196, bk_196_0, t, am_w_id, mv_c0, mv_f0_0, mv_f0_1, mv_f0_2, mv_f0_3, mv_f0_4, mv_f0_5, mv_f0_6, mv_f0_7, mv_f0_8, mv_f0_9, mv_f0_10, mv_f0_11, mv_f0_12, mv_f0_13, mv_f0_14, mv_f0_15, mv_f0_16, mv_f0_17, mv_f0_18, mv_f0_19, mv_f0_20, mv_f0_21, mv_f0_22, mv_f0_23, mv_f0_24, mv_f0_25, mv_f0_26, mv_f0_27, mv_f0_28, mv_f0_29, mv_f0_30, mv_r1, mv_r2, mv_r3, mv_r4, mv_r5, mv_r6, mv_r7, mv_r8, mv_r9, mv_r10, mv_r11, mv_r12, mv_r13, mv_r14, mv_l1, mv_l2, mv_l3, mv_l4, mv_l5, mv_l6, mv_l7, mv_l8, mv_l9, mv_l10, mv_l11, mv_l12, mv_l13, mv_l14, mr2, mr3, mr4, mr5, mr6, mr7, mr8, mr9, mr13, mr1_4, mr0_6, mr1_5, mr1_0, mr1_1, mr1_2, mr1_3, mr1_6, mr1_7, mw2, mw3, mw4, mw5, mw6, mw7, mw8, mw9, mw13, mw1_4, mw0_6, mw1_5, mw1_0, mw1_1, mw1_2, mw1_3, mw1_6, mw1_7, drow_o, drow_t, Option.bind_some, Bool.cond_decide, am_oI_some, am_oV_some, am_oI_ite, am_oV_ite, am_bind_ite, Int.toNat_natCast, Int.toNat_zero, Int.reduceToNat, ite_true, ite_false, not_true_eq_false, not_false_eq_true, decide_true, decide_false, decide_eq_true_eq, Bool.false_eq_true, Nat.add_zero, am_rok1_0, am_rok1_1, cond_true, cond_false, am_w_nat1, true_or, or_true, false_or, or_false, true_and, and_true, false_and, and_false, Int.reduceEq, Int.reduceNeg, Int.reduceLT, Int.reduceLE, or_self, and_self, if_pos, if_neg]
  rcases w.2.2.2.2 with w0 | ⟨Z, wd⟩
  · have h0 := w0.2.1.1
    exact cl_act0 w w0 (ca_reset hlo hs d.1 h15 hm z (by omega) (fun m A h => by
      have := n_reset (d := x + 13) (D := N) (h := zv x N P K T S m A h) h0 z
      rw [zv_dN] at this
      exact this)) hmy
  · obtain ⟨Ad, iv, rl, mr, pk, f14, f30, bd, nd, ru, pk8⟩ := ctx2 mo wd
    refine cl_act w wd hn (what := 7) (a := z) (b := 0) (by omega) (fun q => by omega) (fun q => by omega) (fun hv => ca_reset hlo hs d.1 h15 hm z hv (fun m A h => ?_)) (fun _ => rfl) hmy
    have c := d_resetByHand (d := x + 13) (D := N) (h := zv x N P K T S m A h) iv.1 z
    rw [zv_dN, zv_dN] at c
    exact c
theorem cl_policy (hlo : x + 107 ≤ lo) (w : WR n m N K S HD M) (hs : HS lo m A HD h) (hn : n + 3000 < 2147483647) (z : Int) : CL 199 200 [am_I z] x mo lo (n + 3000) m A N P K T S M h g := by
  have d := w.2.2.2.1
  have hm := hm_of d
  have h15 : 0 ≤ S 0 15 ∧ S 0 15 ≤ 40 := ⟨d.2.1.1, d.2.1.2.1⟩
  have hmy : ∀ v M', am_cI 172 [am_R mo, am_I 8, am_I z, am_I 0] (mv mo M g) = some (v, mv mo M' g) → am_cI 200 (am_R mo :: [am_I z]) (mv mo M g) = some (v, mv mo M' g) := by
    intro v M' t
    rw [am_cI]; simp (disch := omega) only [en_200, bk_200_0, t, am_w_id, mv_c0, mv_f0_0, mv_f0_1, mv_f0_2, mv_f0_3, mv_f0_4, mv_f0_5, mv_f0_6, mv_f0_7, mv_f0_8, mv_f0_9, mv_f0_10, mv_f0_11, mv_f0_12, mv_f0_13, mv_f0_14, mv_f0_15, mv_f0_16, mv_f0_17, mv_f0_18, mv_f0_19, mv_f0_20, mv_f0_21, mv_f0_22, mv_f0_23, mv_f0_24, mv_f0_25, mv_f0_26, mv_f0_27, mv_f0_28, mv_f0_29, mv_f0_30, mv_r1, mv_r2, mv_r3, mv_r4, mv_r5, mv_r6, mv_r7, mv_r8, mv_r9, mv_r10, mv_r11, mv_r12, mv_r13, mv_r14, mv_l1, mv_l2, mv_l3, mv_l4, mv_l5, mv_l6, mv_l7, mv_l8, mv_l9, mv_l10, mv_l11, mv_l12, mv_l13, mv_l14, mr2, mr3, mr4, mr5, mr6, mr7, mr8, mr9, mr13, mr1_4, mr0_6, mr1_5, mr1_0, mr1_1, mr1_2, mr1_3, mr1_6, mr1_7, mw2, mw3, mw4, mw5, mw6, mw7, mw8, mw9, mw13, mw1_4, mw0_6, mw1_5, mw1_0, mw1_1, mw1_2, mw1_3, mw1_6, mw1_7, drow_o, drow_t, Option.bind_some, Bool.cond_decide, am_oI_some, am_oV_some, am_oI_ite, am_oV_ite, am_bind_ite, Int.toNat_natCast, Int.toNat_zero, Int.reduceToNat, ite_true, ite_false, not_true_eq_false, not_false_eq_true, decide_true, decide_false, decide_eq_true_eq, Bool.false_eq_true, Nat.add_zero, am_rok1_0, am_rok1_1, cond_true, cond_false, am_w_nat1, true_or, or_true, false_or, or_false, true_and, and_true, false_and, and_false, Int.reduceEq, Int.reduceNeg, Int.reduceLT, Int.reduceLE, or_self, and_self, if_pos, if_neg]
  rcases w.2.2.2.2 with w0 | ⟨Z, wd⟩
  · have h0 := w0.2.1.1
    exact cl_act0 w w0 (ca_policy hlo hs d.1 h15 hm z (by omega) (fun m A h => by
      have := n_policy (d := x + 13) (D := N) (h := zv x N P K T S m A h) h0 z
      rw [zv_dN] at this
      exact this)) hmy
  · obtain ⟨Ad, iv, rl, mr, pk, f14, f30, bd, nd, ru, pk8⟩ := ctx2 mo wd
    refine cl_act w wd hn (what := 8) (a := z) (b := 0) (by omega) (fun q => by omega) (fun q => by omega) (fun hv => ca_policy hlo hs d.1 h15 hm z hv (fun m A h => ?_)) (fun _ => rfl) hmy
    have c := d_choosePolicy (d := x + 13) (D := N) (h := zv x N P K T S m A h) iv.1 z
    rw [zv_dN, zv_dN] at c
    exact c
end ACTS
