/-! ===== acts on the drive itself that are not counted when refused: perform, years ===== -/
theorem hcm_o (S : Nat → Nat → Int) {r : Nat} (hr : r ≠ 0) : hcm S r = S r := by
  unfold hcm
  split
  · exact dup_o _ _ _ hr
  · exact dup_o _ _ _ hr
theorem hcm_0 (S : Nat → Nat → Int) {j : Nat} (h14 : j ≠ 14) (h15 : j ≠ 15) : hcm S 0 j = S 0 j := by
  unfold hcm
  split
  · rw [dup_t, va_up_ne _ _ h15]
  · rw [dup_t, va_up_ne _ _ h14]
section PERF
variable {x mo lo n m m' Z : Nat} {A A' : Nat → Nat} {N P K T S M : Nat → Nat → Int} {HD : Nat → Nat → Nat → Int} {h g h' : am_H}
theorem WR_slot {M1 : Nat → Nat → Int} (w : WR n m N K S HD M) (hm : m ≤ m' ∧ m' ≤ 41) (mk : MK M M1) : WR n m' N K S (fun i => if i = hslot S (S 0 15) then N else HD i) M1 := by
  have w2 := WR_MK w mk
  have d := w2.2.2.2.1
  obtain ⟨a, b, c, _, e⟩ := WR_HD (HD' := fun i => if i = hslot S (S 0 15) then N else HD i) w2 (fun i hi => by
    (try dsimp only)
    have h15 := d.2.1.2.1
    rw [if_neg (hslot_ne d.1 (by omega) hi (by omega))])
  refine ⟨a, b, c, ?_, e⟩
  refine ⟨d.1, d.2.1, d.2.2.1, ?_, d.2.2.2.2⟩
  rcases d.2.2.2.1 with q | q
  · left; omega
  · by_cases q7 : m' = 41
    · exact Or.inl q7
    · exact Or.inr ⟨q.1, by omega⟩
/-- an act of the model; the seed stays -/
theorem m_tries2 {Ad : Nat → Nat → Int} (hd : ¬ M 0 14 = 0) (mr : MR M Ad) (cq : CQ Ad Z) (pk : ∀ j, j < 609 → M 8 j = pack Ad j) (h20 : 0 ≤ M 0 20 ∧ M 0 20 ≤ 39) (h21 : 0 ≤ M 0 21 ∧ M 0 21 ≤ 40) {what a b : Int} (hw : 0 ≤ what ∧ what ≤ 8) (hs : st Ad Z what a b = -1) (dp : DP Ad Z what a) : ∃ M1, MK M M1 ∧ M1 0 29 = M 0 29 ∧ (ds_b Ad Z what a = false → am_cI 170 [am_R mo, am_I what, am_I a, am_I b] (mv mo M g) = some (3, mv mo M1 g)) ∧ (ds_b Ad Z what a = true → am_cI 170 [am_R mo, am_I what, am_I a, am_I b] (mv mo M g) = some (-1, mv mo (drow (rem_M M1) 8 (pack (ds_A Ad Z what a b))) g)) := by
  have c1 := m_stops (m := mo) (h := g) (c := 8) (by omega) mr cq hd what a b
  rw [← mv_pk (by omega) pk, hs] at c1
  have c2 := m_copy0 (m := mo) (a := 8) (b := 9) (M := M) (h := g) (by omega) (by omega) (by omega)
  have ec : mv mo (drow M 9 (M 8)) g = mv mo (drow M 9 (pack Ad)) g := mv_row_ext (by omega) pk
  rw [ec] at c2
  obtain ⟨M', me, hv, c3⟩ := m_does (m := mo) (h := g) (c := 9) (Or.inr rfl) mr cq b hw dp
  have mk := MK_ME me
  have mk9 : MK M (drow M' 9 (pack (ds_A Ad Z what a b))) := MK_trans mk (MK_row M' (by omega) _)
  refine ⟨drow M' 9 (pack (ds_A Ad Z what a b)), mk9, ?_, ?_, ?_⟩
  · rw [drow_o _ _ (by omega)]
    exact me.2 29 (by omega) (by omega)
  · intro hb
    rw [hb] at c3
    rw [if_neg (by decide)] at c3
    rw [am_cI, en_170, bk_170_0]
    simp (disch := omega) only [bk_170_22, bk_170_46, mv_f0_15, mv_f0_16, mv_c0, c1, c2, c3, Option.bind_some, Bool.cond_decide, am_oI_some, am_oV_some, am_oI_ite, am_oV_ite, am_bind_ite, Int.toNat_natCast, Int.toNat_zero, Int.reduceToNat, ite_true, ite_false, not_true_eq_false, not_false_eq_true, decide_true, decide_false, decide_eq_true_eq, Bool.false_eq_true, Nat.add_zero, am_rok1_0, am_rok1_1, cond_true, cond_false, am_w_nat1, true_or, or_true, false_or, or_false, true_and, and_true, false_and, and_false, Int.reduceEq, Int.reduceNeg, Int.reduceLT, Int.reduceLE, or_self, and_self, if_pos, if_neg]
  · intro hb
    rw [hb, if_pos rfl] at c3
    have f := mk9.2
    have c4 := m_remember (mo := mo) (M := drow M' 9 (pack (ds_A Ad Z what a b))) (g := g) (by rw [f 20 (by omega)]; exact h20) (by rw [f 21 (by omega)]; exact h21)
    have c5 := m_copy0 (m := mo) (a := 9) (b := 8) (M := rem_M (drow M' 9 (pack (ds_A Ad Z what a b)))) (h := g) (by omega) (by omega) (by omega)
    have e9 : rem_M (drow M' 9 (pack (ds_A Ad Z what a b))) 9 = pack (ds_A Ad Z what a b) := by unfold rem_M; rw [drow_o _ _ (by omega), rmM_o _ (by omega), drow_t]
    rw [e9] at c5
    rw [am_cI, en_170, bk_170_0]
    simp (disch := omega) only [bk_170_22, bk_170_46, bk_170_51, mv_f0_15, mv_f0_16, mv_c0, c1, c2, c3, c4, c5, Option.bind_some, Bool.cond_decide, am_oI_some, am_oV_some, am_oI_ite, am_oV_ite, am_bind_ite, Int.toNat_natCast, Int.toNat_zero, Int.reduceToNat, ite_true, ite_false, not_true_eq_false, not_false_eq_true, decide_true, decide_false, decide_eq_true_eq, Bool.false_eq_true, Nat.add_zero, am_rok1_0, am_rok1_1, cond_true, cond_false, am_w_nat1, true_or, or_true, false_or, or_false, true_and, and_true, false_and, and_false, Int.reduceEq, Int.reduceNeg, Int.reduceLT, Int.reduceLE, or_self, and_self, if_pos, if_neg]
/-- an act on the drive, behind the copy ahead of it -/
theorem nw_act (w : WR n m N K S HD M) (wd : WD Z n N K S HD M) (hn : n + 3000 < 2147483647) (hm : m ≤ m' ∧ m' ≤ 41 ∧ hslot S (S 0 15) < m') {what a b b' : Int} (hw : 0 ≤ what ∧ what ≤ 8) (hb0 : what = 0 → 0 ≤ b ∧ b ≤ 999) (hb1 : what = 1 → b = -1) (hbb : what = 0 → b' = b) : ∃ (why : Int) (S' M' : Nat → Nat → Int), am_cI 170 [am_R mo, am_I what, am_I a, am_I b'] (mv mo M g) = some (why, mv mo M' g) ∧ M' 0 29 = M 0 29 ∧ WR (n + 3000) m' (ac_D N Z what a b) K S' (fun i => if i = hslot S (S 0 15) then N else HD i) M' ∧ ((0 ≤ ac_v N Z what a b ∧ why = -1 ∧ S' = hcm S) ∨ (ac_v N Z what a b < 0 ∧ ¬ why = -1 ∧ S' = S)) := by
  have wd' := wd
  obtain ⟨w14, ru, ⟨Ad, iv, rl, pk8, _, bd, nd⟩, _, _⟩ := wd'
  have mr : MR M Ad := RU_MR ru rl.1.1
  have d := w.2.2.2.1
  have hd : ¬ M 0 14 = 0 := by omega
  have ar := act_all iv rl bd hn (a := a) (b := b) hw hb0 hb1
  have hst : st Ad Z what a b' = st Ad Z what a b := by
    unfold st
    by_cases q : what = 0
    · rw [hbb q]
    · rw [if_neg q, if_neg q]
  have hdA : ds_A Ad Z what a b' = ds_A Ad Z what a b := by
    unfold ds_A
    by_cases q : what = 0
    · rw [hbb q]
    · rw [if_neg q, if_neg q]
  by_cases e : st Ad Z what a b = -1
  · obtain ⟨dp, hno, hyes⟩ := ar.2 e
    obtain ⟨M1, mk1, e29, t1, t2⟩ := m_tries2 (mo := mo) (g := g) hd mr (rl_CQ iv rl) pk8 d.2.2.1 ⟨by have := d.2.1; omega, by have := d.2.1; omega⟩ hw (hst.trans e) dp
    cases eb : ds_b Ad Z what a with
    | false =>
      have hv := hno eb
      refine ⟨3, S, M1, t1 eb, e29, ?_, Or.inr ⟨by omega, by omega, rfl⟩⟩
      rw [hv.2]
      exact WR_mono (WR_slot w ⟨hm.1, hm.2.1⟩ mk1) (by omega)
    | true =>
      obtain ⟨v1, v2, rl', iv', bd'⟩ := hyes eb
      have t := t2 eb
      rw [hdA] at t
      refine ⟨-1, hcm S, _, t, ?_, ?_, Or.inl ⟨by omega, rfl, rfl⟩⟩
      · unfold rem_M
        rw [drow_o _ _ (by omega), drow_o _ _ (by omega), rmM_0 _ (by omega) (by omega)]
        exact e29
      · exact WR_commit w wd hm mk1 (by omega) iv' rl' bd' (ND_ac iv nd bd hn what a b) (fun j hj => ac_0 iv what a b (by omega))
  · obtain ⟨v1, v2, v3, v4⟩ := ar.1 e
    have t0 := m_tries_no (mo := mo) (g := g) hd mr (rl_CQ iv rl) pk8 (what := what) (a := a) (b := b') (by rw [hst]; exact e)
    rw [hst] at t0
    refine ⟨_, S, M, t0, rfl, ?_, Or.inr ⟨by omega, e, rfl⟩⟩
    rw [v2]
    exact WR_mono (WR_slot w ⟨hm.1, hm.2.1⟩ (MK_refl M)) (by omega)
theorem perf_loop (hlo : x + 107 ≤ lo) {s L : Nat} (hs4 : s < 4) : ∀ (r j n m : Nat) (A : Nat → Nat) (N P S M : Nat → Nat → Int) (HD : Nat → Nat → Nat → Int) (h : am_H), r + j = L → WR n m N K S HD M → HS lo m A HD h → 0 < N 0 0 → (s : Int) < S 0 0 → S 0 (17 + s) = L → n + 3000 * r < 2147483647 → ∃ (v : Int) (N' P' S' M' : Nat → Nat → Int) (m' : Nat) (A' : Nat → Nat) (h' : am_H) (HD' : Nat → Nat → Nat → Int), am_run am_ms 225 26 [am_R x, am_I s, am_R (x + 91 + 4 * s), am_I j] [] (zv x N P K T S m A h) = some (some (am_I v), zv x N' P' K T S' m' A' h') ∧ am_run am_ms 226 24 [am_R mo, am_I s, am_I j] [] (mv mo M g) = some (some (am_I v), mv mo M' g) ∧ WR (n + 3000 * r) m' N' K S' HD' M' ∧ HS lo m' A' HD' h' ∧ FR lo m m' h h' := by
  intro r
  induction r with
  | zero =>
    intro j n m A N P S M HD h hj w hs hN hs0 hL hn
    obtain ⟨L', sc, hL1⟩ := SC_of w.2.1 hs0
    have eL : L' = L := by have := sc.1; omega
    rw [eL] at sc
    have f3 := zs_n (x := x) (N := N) (P := P) (K := K) (T := T) (S := S) (m := m) (A := A) (h := h) hs4
    rw [hL] at f3
    have r6 := m_r6 (mo := mo) (g := g) hs4 sc
    have ej : j = L := by omega
    refine ⟨(L : Int), N, P, S, M, m, A, h, HD, ?_, ?_, WR_mono w (by omega), hs, FR_refl lo m h⟩
    · rw [bk_225_26]; simp (disch := omega) only [bk_225_89, f3, Option.bind_some, Bool.cond_decide, am_oI_some, am_oV_some, am_oI_ite, am_oV_ite, am_bind_ite, Int.toNat_natCast, Int.toNat_zero, Int.reduceToNat, ite_true, ite_false, not_true_eq_false, not_false_eq_true, decide_true, decide_false, decide_eq_true_eq, Bool.false_eq_true, Nat.add_zero, am_rok1_0, am_rok1_1, cond_true, cond_false, am_w_nat1, true_or, or_true, false_or, or_false, true_and, and_true, false_and, and_false, Int.reduceEq, Int.reduceNeg, Int.reduceLT, Int.reduceLE, or_self, and_self, if_pos, if_neg]
    · rw [ej, bk_226_24]; simp (disch := omega) only [bk_226_91, mv_f0_9, r6, Option.bind_some, Bool.cond_decide, am_oI_some, am_oV_some, am_oI_ite, am_oV_ite, am_bind_ite, Int.toNat_natCast, Int.toNat_zero, Int.reduceToNat, ite_true, ite_false, not_true_eq_false, not_false_eq_true, decide_true, decide_false, decide_eq_true_eq, Bool.false_eq_true, Nat.add_zero, am_rok1_0, am_rok1_1, cond_true, cond_false, am_w_nat1, true_or, or_true, false_or, or_false, true_and, and_true, false_and, and_false, Int.reduceEq, Int.reduceNeg, Int.reduceLT, Int.reduceLE, or_self, and_self, if_pos, if_neg]
  | succ r ih =>
    intro j n m A N P S M HD h hj w hs hN hs0 hL hn
    rw [k30] at hn ⊢
    have hn3 : n + 3000 < 2147483647 := Nat.lt_of_le_of_lt (Nat.add_le_add_left (Nat.le_add_left 3000 (3000 * r)) n) hn
    obtain ⟨L', sc, hL1⟩ := SC_of w.2.1 hs0
    have eL : L' = L := by have := sc.1; omega
    rw [eL] at sc
    have h16 := sc.2.1
    have hjL : j < L := by omega
    have hj16 : j < 16 := by omega
    have wi := sc.2.2.2 j hjL
    have d := w.2.2.2.1
    have h15 : 0 ≤ S 0 15 ∧ S 0 15 ≤ 40 := ⟨d.2.1.1, d.2.1.2.1⟩
    rcases w.2.2.2.2 with w0 | ⟨Z, wd⟩
    · exact absurd w0.2.1.1 (by omega)
    · obtain ⟨m1, A1, h1, c1, hs1, fr, hsl, hm1⟩ := h_prepare (x := x) (N := N) (P := P) (K := K) (T := T) hlo hs d.1 h15 (hm_of d)
      obtain ⟨_, iv, _⟩ := wd.2.2.1
      obtain ⟨P2, c2⟩ := zn_act (x := x) (N := N) (P := P) (K := K) (T := T) (S := S) (m := m1) (A := A1) (h := h1) iv wi.2.1 (S (10 + 3 * s + 1) j) (S (10 + 3 * s + 2) j)
      obtain ⟨why, S', M', t, _, w', hcase⟩ := nw_act (mo := mo) (g := g) w wd hn3 (m' := m1) ⟨fr.2.2, hs1.1, hsl⟩ (what := S (10 + 3 * s) j) (a := S (10 + 3 * s + 1) j) (b := S (10 + 3 * s + 2) j) (b' := S (10 + 3 * s + 2) j) wi.2.1 wi.2.2.1 wi.2.2.2 (fun _ => rfl)
      have f3 := zs_n (x := x) (N := N) (P := P) (K := K) (T := T) (S := S) (m := m) (A := A) (h := h) hs4
      rw [hL] at f3
      have f0 := zs_f0 (x := x) (N := N) (P := P) (K := K) (T := T) (S := S) (m := m1) (A := A1) (h := h1) hs4
      have f1 := zs_f1 (x := x) (N := N) (P := P) (K := K) (T := T) (S := S) (m := m1) (A := A1) (h := h1) hs4
      have f2 := zs_f2 (x := x) (N := N) (P := P) (K := K) (T := T) (S := S) (m := m1) (A := A1) (h := h1) hs4
      have r0 := zs_r0 (x := x) (N := N) (P := P) (K := K) (T := T) (S := S) (m := m1) (A := A1) (h := h1) hs4 hj16
      have r1 := zs_r1 (x := x) (N := N) (P := P) (K := K) (T := T) (S := S) (m := m1) (A := A1) (h := h1) hs4 hj16
      have r2 := zs_r2 (x := x) (N := N) (P := P) (K := K) (T := T) (S := S) (m := m1) (A := A1) (h := h1) hs4 hj16
      have r6 := m_r6 (mo := mo) (g := g) hs4 sc
      have q0 := m_r50 (mo := mo) (g := g) hs4 sc hjL
      have q1 := m_r5 (mo := mo) (g := g) (c := 1) hs4 sc hjL (by omega)
      have q2 := m_r5 (mo := mo) (g := g) (c := 2) hs4 sc hjL (by omega)
      have hN' : 0 < ac_D N Z (S (10 + 3 * s) j) (S (10 + 3 * s + 1) j) (S (10 + 3 * s + 2) j) 0 0 := by rw [ac_0 iv _ _ _ (by omega)]; exact hN
      generalize ac_D N Z (S (10 + 3 * s) j) (S (10 + 3 * s + 1) j) (S (10 + 3 * s + 2) j) = E at c2 w' hN'
      generalize ac_v N Z (S (10 + 3 * s) j) (S (10 + 3 * s + 1) j) (S (10 + 3 * s + 2) j) = v at c2 hcase
      rcases hcase with ⟨hv, ey, eS⟩ | ⟨hv, ey, eS⟩
      · have c3 := h_commit (x := x) (N := E) (P := P2) (K := K) (T := T) (S := S) (m := m1) (A := A1) (h := h1) d.1 h15
        rw [eS] at w'
        obtain ⟨u, N3, P3, S3, M3, m3, A3, h3, HD3, k1, k2, w3, hs3, fr3⟩ := ih (j + 1) (n + 3000) m1 A1 E P2 (hcm S) M' _ h1 (by omega) w' hs1 hN' (by rw [hcm_0 _ (by omega) (by omega)]; exact hs0) (by rw [hcm_0 _ (by omega) (by omega)]; exact hL) (by omega)
        rw [ey] at t
        refine ⟨u, N3, P3, S3, M3, m3, A3, h3, HD3, ?_, ?_, WR_mono w3 (by omega), hs3, FR_trans fr fr3⟩
        · clear wi q0 q1 q2 t
          rw [bk_225_26]; simp (disch := omega) only [bk_225_54, bk_225_76, zv_c0, zv_f0_4, zv_f0_9, zv_c87, f3, f0, f1, f2, r0, r1, r2, c1, c2, c3, k1, Option.bind_some, Bool.cond_decide, am_oI_some, am_oV_some, am_oI_ite, am_oV_ite, am_bind_ite, Int.toNat_natCast, Int.toNat_zero, Int.reduceToNat, ite_true, ite_false, not_true_eq_false, not_false_eq_true, decide_true, decide_false, decide_eq_true_eq, Bool.false_eq_true, Nat.add_zero, am_rok1_0, am_rok1_1, cond_true, cond_false, am_w_nat1, true_or, or_true, false_or, or_false, true_and, and_true, false_and, and_false, Int.reduceEq, Int.reduceNeg, Int.reduceLT, Int.reduceLE, or_self, and_self, if_pos, if_neg]
        · clear wi r0 r1 r2 c2
          rw [bk_226_24]; simp (disch := omega) only [bk_226_45, bk_226_62, bk_226_81, mv_c0, mv_f0_8, mv_f0_9, r6, scx0 hs4 hj16, scx1, scx2, q0, q1, q2, t, k2, Option.bind_some, Bool.cond_decide, am_oI_some, am_oV_some, am_oI_ite, am_oV_ite, am_bind_ite, Int.toNat_natCast, Int.toNat_zero, Int.reduceToNat, ite_true, ite_false, not_true_eq_false, not_false_eq_true, decide_true, decide_false, decide_eq_true_eq, Bool.false_eq_true, Nat.add_zero, am_rok1_0, am_rok1_1, cond_true, cond_false, am_w_nat1, true_or, or_true, false_or, or_false, true_and, and_true, false_and, and_false, Int.reduceEq, Int.reduceNeg, Int.reduceLT, Int.reduceLE, or_self, and_self, if_pos, if_neg]
      · rw [eS] at w'
        refine ⟨(j : Int), E, P2, S, M', m1, A1, h1, _, ?_, ?_, WR_mono w' (by omega), hs1, fr⟩
        · clear wi q0 q1 q2 t
          rw [bk_225_26]; simp (disch := omega) only [bk_225_54, bk_225_76, zv_c0, zv_f0_4, zv_f0_9, zv_c87, f3, f0, f1, f2, r0, r1, r2, c1, c2, Option.bind_some, Bool.cond_decide, am_oI_some, am_oV_some, am_oI_ite, am_oV_ite, am_bind_ite, Int.toNat_natCast, Int.toNat_zero, Int.reduceToNat, ite_true, ite_false, not_true_eq_false, not_false_eq_true, decide_true, decide_false, decide_eq_true_eq, Bool.false_eq_true, Nat.add_zero, am_rok1_0, am_rok1_1, cond_true, cond_false, am_w_nat1, true_or, or_true, false_or, or_false, true_and, and_true, false_and, and_false, Int.reduceEq, Int.reduceNeg, Int.reduceLT, Int.reduceLE, or_self, and_self, if_pos, if_neg]
        · clear wi r0 r1 r2 c2
          rw [bk_226_24]; simp (disch := omega) only [bk_226_45, bk_226_62, bk_226_81, bk_226_91, mv_c0, mv_f0_8, mv_f0_9, r6, scx0 hs4 hj16, scx1, scx2, q0, q1, q2, t, ey, Option.bind_some, Bool.cond_decide, am_oI_some, am_oV_some, am_oI_ite, am_oV_ite, am_bind_ite, Int.toNat_natCast, Int.toNat_zero, Int.reduceToNat, ite_true, ite_false, not_true_eq_false, not_false_eq_true, decide_true, decide_false, decide_eq_true_eq, Bool.false_eq_true, Nat.add_zero, am_rok1_0, am_rok1_1, cond_true, cond_false, am_w_nat1, true_or, or_true, false_or, or_false, true_and, and_true, false_and, and_false, Int.reduceEq, Int.reduceNeg, Int.reduceLT, Int.reduceLE, or_self, and_self, if_pos, if_neg]
theorem cl_perform (hlo : x + 107 ≤ lo) (w : WR n m N K S HD M) (hs : HS lo m A HD h) (hn : n + 48000 < 2147483647) (a : Int) : CL 225 226 [am_I a] x mo lo (n + 48000) m A N P K T S M h g := by
  have c1 := c_isScript (x := x) (N := N) (P := P) (K := K) (T := T) (S := S) (m := m) (A := A) (h := h) a
  have c0 := c_isDrive (x := x) (N := N) (P := P) (K := K) (T := T) (S := S) (m := m) (A := A) h
  have mk0 := MK_f M (j := 0) (by omega) 0
  obtain ⟨⟨s0, s4, s12⟩, _⟩ := w.2.1
  have m12 : dup M 0 0 0 0 12 = S 0 0 := by rw [dup_t, va_up_ne _ _ (by omega)]; exact s12
  have d1 := m_isScript (mo := mo) (M := dup M 0 0 0) (g := g) (by omega) (by omega) a
  rw [m12] at d1
  by_cases e : 0 ≤ a ∧ a < S 0 0
  · rw [if_pos e] at c1 d1
    obtain ⟨s, rfl⟩ : ∃ s : Nat, a = s := ⟨a.toNat, by omega⟩
    have hs4 : s < 4 := by omega
    rcases w.2.2.2.2 with w0 | ⟨Z, wd⟩
    · have f14 : dup M 0 0 0 0 14 = 0 := by rw [dup_t, va_up_ne _ _ (by omega)]; exact w0.1
      rw [if_neg (by have := w0.2.1.1; omega)] at c0
      refine ⟨-1, N, P, K, T, S, dup M 0 0 0, m, A, h, HD, ?_, ?_, WR_mono (WR_MK w mk0) (by omega), hs, FR_refl lo m h⟩
      · rw [am_cI, en_225, bk_225_0]; simp (disch := omega) only [bk_225_15, zv_c0, c1, c0, Option.bind_some, Bool.cond_decide, am_oI_some, am_oV_some, am_oI_ite, am_oV_ite, am_bind_ite, Int.toNat_natCast, Int.toNat_zero, Int.reduceToNat, ite_true, ite_false, not_true_eq_false, not_false_eq_true, decide_true, decide_false, decide_eq_true_eq, Bool.false_eq_true, Nat.add_zero, am_rok1_0, am_rok1_1, cond_true, cond_false, am_w_nat1, true_or, or_true, false_or, or_false, true_and, and_true, false_and, and_false, Int.reduceEq, Int.reduceNeg, Int.reduceLT, Int.reduceLE, or_self, and_self, if_pos, if_neg]
      · rw [am_cI, en_226, bk_226_0]; simp (disch := omega) only [bk_226_20, mv_p0_0, mv_c0, mv_f0_14, f14, d1, Option.bind_some, Bool.cond_decide, am_oI_some, am_oV_some, am_oI_ite, am_oV_ite, am_bind_ite, Int.toNat_natCast, Int.toNat_zero, Int.reduceToNat, ite_true, ite_false, not_true_eq_false, not_false_eq_true, decide_true, decide_false, decide_eq_true_eq, Bool.false_eq_true, Nat.add_zero, am_rok1_0, am_rok1_1, cond_true, cond_false, am_w_nat1, true_or, or_true, false_or, or_false, true_and, and_true, false_and, and_false, Int.reduceEq, Int.reduceNeg, Int.reduceLT, Int.reduceLE, or_self, and_self, if_pos, if_neg]
    · obtain ⟨Ad, iv, rl, mr, pk, f14, f30, bd, nd, ru, p8⟩ := ctx2 mo wd
      have hN : 0 < N 0 0 := by have := iv.pw.1; have := iv.1.2.1; omega
      rw [if_pos hN] at c0
      obtain ⟨L, sc, hL1⟩ := SC_of w.2.1 e.2
      have h16 := sc.2.1
      have rr := zs_rr (x := x) (N := N) (P := P) (K := K) (T := T) (S := S) (m := m) (A := A) (h := h) hs4
      obtain ⟨u, N3, P3, S3, M3, m3, A3, h3, HD3, k1, k2, w3, hs3, fr3⟩ := perf_loop (x := x) (mo := mo) (g := g) (T := T) hlo hs4 L 0 n m A N P S (dup M 0 0 0) HD h (by omega) (WR_MK w mk0) hs hN e.2 sc.1 (by omega)
      have k1' : am_run am_ms 225 26 [am_R x, am_I s, am_R (x + 91 + 4 * s), am_I 0] [] (zv x N P K T S m A h) = some (some (am_I u), zv x N3 P3 K T S3 m3 A3 h3) := k1
      have k2' : am_run am_ms 226 24 [am_R mo, am_I s, am_I 0] [] (mv mo (dup M 0 0 0) g) = some (some (am_I u), mv mo M3 g) := k2
      refine ⟨u, N3, P3, K, T, S3, M3, m3, A3, h3, HD3, ?_, ?_, WR_mono w3 (by omega), hs3, fr3⟩
      · rw [am_cI, en_225, bk_225_0]; simp (disch := omega) only [bk_225_17, zv_c0, zv_f0_2, c1, c0, rr, k1', Option.bind_some, Bool.cond_decide, am_oI_some, am_oV_some, am_oI_ite, am_oV_ite, am_bind_ite, Int.toNat_natCast, Int.toNat_zero, Int.reduceToNat, ite_true, ite_false, not_true_eq_false, not_false_eq_true, decide_true, decide_false, decide_eq_true_eq, Bool.false_eq_true, Nat.add_zero, am_rok1_0, am_rok1_1, cond_true, cond_false, am_w_nat1, true_or, or_true, false_or, or_false, true_and, and_true, false_and, and_false, Int.reduceEq, Int.reduceNeg, Int.reduceLT, Int.reduceLE, or_self, and_self, if_pos, if_neg]
      · rw [am_cI, en_226, bk_226_0]; simp (disch := omega) only [bk_226_22, mv_p0_0, mv_c0, mv_f0_14, f14, d1, k2', Option.bind_some, Bool.cond_decide, am_oI_some, am_oV_some, am_oI_ite, am_oV_ite, am_bind_ite, Int.toNat_natCast, Int.toNat_zero, Int.reduceToNat, ite_true, ite_false, not_true_eq_false, not_false_eq_true, decide_true, decide_false, decide_eq_true_eq, Bool.false_eq_true, Nat.add_zero, am_rok1_0, am_rok1_1, cond_true, cond_false, am_w_nat1, true_or, or_true, false_or, or_false, true_and, and_true, false_and, and_false, Int.reduceEq, Int.reduceNeg, Int.reduceLT, Int.reduceLE, or_self, and_self, if_pos, if_neg]
  · rw [if_neg e] at c1 d1
    refine ⟨-1, N, P, K, T, S, dup M 0 0 0, m, A, h, HD, ?_, ?_, WR_mono (WR_MK w mk0) (by omega), hs, FR_refl lo m h⟩
    · rw [am_cI, en_225, bk_225_0]; simp (disch := omega) only [bk_225_15, zv_c0, c1, Option.bind_some, Bool.cond_decide, am_oI_some, am_oV_some, am_oI_ite, am_oV_ite, am_bind_ite, Int.toNat_natCast, Int.toNat_zero, Int.reduceToNat, ite_true, ite_false, not_true_eq_false, not_false_eq_true, decide_true, decide_false, decide_eq_true_eq, Bool.false_eq_true, Nat.add_zero, am_rok1_0, am_rok1_1, cond_true, cond_false, am_w_nat1, true_or, or_true, false_or, or_false, true_and, and_true, false_and, and_false, Int.reduceEq, Int.reduceNeg, Int.reduceLT, Int.reduceLE, or_self, and_self, if_pos, if_neg]
    · rw [am_cI, en_226, bk_226_0]; simp (disch := omega) only [bk_226_20, mv_p0_0, mv_c0, d1, Option.bind_some, Bool.cond_decide, am_oI_some, am_oV_some, am_oI_ite, am_oV_ite, am_bind_ite, Int.toNat_natCast, Int.toNat_zero, Int.reduceToNat, ite_true, ite_false, not_true_eq_false, not_false_eq_true, decide_true, decide_false, decide_eq_true_eq, Bool.false_eq_true, Nat.add_zero, am_rok1_0, am_rok1_1, cond_true, cond_false, am_w_nat1, true_or, or_true, false_or, or_false, true_and, and_true, false_and, and_false, Int.reduceEq, Int.reduceNeg, Int.reduceLT, Int.reduceLE, or_self, and_self, if_pos, if_neg]
end PERF
