/-! ===== fresh, bestStreams ===== -/
theorem va_up_id (f : Nat → Int) (j : Nat) : va_up f j (f j) = f := by
  funext i
  by_cases e : i = j
  · rw [e, va_up_self]
  · rw [va_up_ne _ _ e]
def frA (T0 Ad : Nat → Nat → Int) : Nat → Nat → Int := fun r => if r = 0 ∨ r = 2 ∨ r = 3 ∨ r = 4 ∨ r = 6 then T0 r else if r = 5 then (fun _ => 0) else if r = 1 then va_up (Ad 1) 4 0 else Ad r
theorem frA_t (T0 Ad : Nat → Nat → Int) {r : Nat} (h : r = 0 ∨ r = 2 ∨ r = 3 ∨ r = 4 ∨ r = 6) : frA T0 Ad r = T0 r := if_pos h
theorem frA_5 (T0 Ad : Nat → Nat → Int) : frA T0 Ad 5 = fun _ => 0 := (if_neg (by omega)).trans (if_pos rfl)
theorem frA_1 (T0 Ad : Nat → Nat → Int) : frA T0 Ad 1 = va_up (Ad 1) 4 0 := (if_neg (by omega)).trans ((if_neg (by omega)).trans (if_pos rfl))
theorem frA_o (T0 Ad : Nat → Nat → Int) {r : Nat} (h : 7 ≤ r) : frA T0 Ad r = Ad r := (if_neg (by omega)).trans ((if_neg (by omega)).trans (if_neg (by omega)))
def fs6 (s : Nat) (f : Nat → Int) : Nat → Int := fun j => if 416 ≤ j ∧ j < 416 + s then -1 else f j
def clr (f : Nat → Int) : Nat → Int := va_up (fs6 3 (fl 32 0 f)) 419 0
theorem clr_pack {T0 Ad : Nat → Nat → Int} (h2 : ∀ z, z < 8 → T0 2 z = 0) (h3 : ∀ z, z < 8 → T0 3 z = 0) (h4 : ∀ z, z < 8 → T0 4 z = 0) (h6 : ∀ z, z < 3 → T0 6 z = -1) (h06 : T0 0 6 = Ad 0 6) (j : Nat) : clr (pack Ad) j = pack (frA T0 Ad) j := by
  have e2 := frA_t T0 Ad (r := 2) (by omega)
  have e3 := frA_t T0 Ad (r := 3) (by omega)
  have e4 := frA_t T0 Ad (r := 4) (by omega)
  have e6 := frA_t T0 Ad (r := 6) (by omega)
  have e0 := frA_t T0 Ad (r := 0) (by omega)
  have e5 := frA_5 T0 Ad
  have e1 := frA_1 T0 Ad
  have e7 := frA_o T0 Ad (r := 7) (by omega)
  have e8 := frA_o T0 Ad (r := 8) (by omega)
  have e9 := frA_o T0 Ad (r := 9) (by omega)
  have e13 := frA_o T0 Ad (r := 13) (by omega)
  have o1 : ∀ i, i ≠ 4 → va_up (Ad 1) 4 0 i = Ad 1 i := fun i hi => va_up_ne _ _ hi
  have p1 : pack (frA T0 Ad) j = if j < 8 then T0 2 j else if j < 16 then T0 3 (j - 8) else if j < 24 then T0 4 (j - 16) else if j < 32 then 0 else if j < 160 then Ad 7 (j - 32) else if j < 288 then Ad 8 (j - 160) else if j < 416 then Ad 9 (j - 288) else if j < 419 then T0 6 (j - 416) else if j = 419 then 0 else if j = 420 then Ad 0 6 else if j = 421 then Ad 1 5 else if j = 422 then Ad 1 0 else if j = 423 then Ad 1 1 else if j = 424 then Ad 1 2 else if j = 425 then Ad 1 3 else if j = 426 then Ad 1 6 else if j = 427 then Ad 1 7 else Ad 13 (j - 428) := by
    unfold pack
    rw [e2, e3, e4, e6, e0, e5, e1, e7, e8, e9, e13, h06, o1 5 (by omega), o1 0 (by omega), o1 1 (by omega), o1 2 (by omega), o1 3 (by omega), o1 6 (by omega), o1 7 (by omega), va_up_self]
  rw [p1]
  by_cases q419 : j = 419
  · rw [q419]
    exact va_up_self _ _ _
  · unfold clr
    rw [va_up_ne _ _ q419]
    by_cases q6 : 416 ≤ j ∧ j < 416 + 3
    · rw [if_neg (by omega), if_neg (by omega), if_neg (by omega), if_neg (by omega), if_neg (by omega), if_neg (by omega), if_neg (by omega), if_pos (by omega), h6 _ (by omega)]
      exact if_pos q6
    · have ef : fs6 3 (fl 32 0 (pack Ad)) j = fl 32 0 (pack Ad) j := if_neg q6
      rw [ef]
      by_cases q32 : j < 32
      · have eg : fl 32 0 (pack Ad) j = 0 := if_pos q32
        rw [eg]
        by_cases q8 : j < 8
        · rw [if_pos q8, h2 _ q8]
        · rw [if_neg q8]
          by_cases q16 : j < 16
          · rw [if_pos q16, h3 _ (by omega)]
          · rw [if_neg q16]
            by_cases q24 : j < 24
            · rw [if_pos q24, h4 _ (by omega)]
            · rw [if_neg q24, if_pos q32]
      · have eg : fl 32 0 (pack Ad) j = pack Ad j := if_neg q32
        rw [eg]
        unfold pack
        rw [if_neg (show ¬ j < 8 by omega), if_neg (show ¬ j < 16 by omega), if_neg (show ¬ j < 24 by omega), if_neg (show ¬ j < 32 by omega), if_neg (show ¬ j < 8 by omega), if_neg (show ¬ j < 16 by omega), if_neg (show ¬ j < 24 by omega), if_neg (show ¬ j < 32 by omega)]
        by_cases a1 : j < 160
        · rw [if_pos a1, if_pos a1]
        · rw [if_neg a1, if_neg a1]
          by_cases a2 : j < 288
          · rw [if_pos a2, if_pos a2]
          · rw [if_neg a2, if_neg a2]
            by_cases a3 : j < 416
            · rw [if_pos a3, if_pos a3]
            · rw [if_neg a3, if_neg a3, if_neg (show ¬ j < 419 by omega), if_neg (show ¬ j < 419 by omega), if_neg q419, if_neg q419]
section FRS
variable {x mo n m Z : Nat} {A : Nat → Nat} {N P K T S M At Ad : Nat → Nat → Int} {HD : Nat → Nat → Nat → Int} {h g : am_H}
theorem m_clears {f : Nat → Int} : am_cV 261 [am_R mo] (mv mo (drow M 9 f) g) = some (mv mo (drow M 9 (clr f)) g) := by
  have wr9 : ∀ (f : Nat → Int) (j : Nat) (v : Int), j < 609 → am_wr (mv mo (drow M 9 f) g) (mo + 9) 0 (j : Int) v = some (mv mo (drow M 9 (va_up f j v)) g) := fun f j v hj => by
    have r := mv_w9 (m := mo) (M := drow M 9 f) (h := g) (j := (j : Int)) v (by omega) (by omega)
    rw [Int.toNat_natCast, dup_drow] at r
    exact r
  have s1 : ∀ z : Nat, z < 32 → am_run am_ms 261 2 [am_R mo, am_I z] [] (mv mo (drow M 9 (fl z 0 f)) g) = am_run am_ms 261 2 [am_R mo, am_I ((z + 1 : Nat) : Int)] [] (mv mo (drow M 9 (fl (z + 1) 0 f)) g) := by
    intro z hz
    have w := wr9 (fl z 0 f) z 0 (by omega)
    have ef : va_up (fl z 0 f) z 0 = fl (z + 1) 0 f := by
      funext i
      by_cases e : i = z
      · rw [e, va_up_self]
        exact (if_pos (by omega)).symm
      · rw [va_up_ne _ _ e]
        by_cases q : i < z
        · exact (if_pos q).trans (if_pos (by omega)).symm
        · exact (if_neg q).trans (if_neg (by omega)).symm
    rw [ef] at w
    rw [bk_261_2]
    simp (disch := omega) only [mv_f0_16, w, Option.bind_some, Bool.cond_decide, am_oI_some, am_oV_some, am_oI_ite, am_oV_ite, am_bind_ite, Int.toNat_natCast, Int.toNat_zero, Int.reduceToNat, ite_true, ite_false, not_true_eq_false, not_false_eq_true, decide_true, decide_false, decide_eq_true_eq, Bool.false_eq_true, Nat.add_zero, am_rok1_0, am_rok1_1, cond_true, cond_false, am_w_nat1, true_or, or_true, false_or, or_false, true_and, and_true, false_and, and_false, Int.reduceEq, Int.reduceNeg, Int.reduceLT, Int.reduceLE, or_self, and_self, if_pos, if_neg]
  have s2 : ∀ z : Nat, z < 3 → am_run am_ms 261 23 [am_R mo, am_I z] [] (mv mo (drow M 9 (fs6 z (fl 32 0 f))) g) = am_run am_ms 261 23 [am_R mo, am_I ((z + 1 : Nat) : Int)] [] (mv mo (drow M 9 (fs6 (z + 1) (fl 32 0 f))) g) := by
    intro z hz
    have w := wr9 (fs6 z (fl 32 0 f)) (416 + z) (-1) (by omega)
    have ef : va_up (fs6 z (fl 32 0 f)) (416 + z) (-1) = fs6 (z + 1) (fl 32 0 f) := by
      funext i
      by_cases e : i = 416 + z
      · rw [e, va_up_self]
        exact (if_pos (by omega)).symm
      · rw [va_up_ne _ _ e]
        by_cases q : 416 ≤ i ∧ i < 416 + z
        · exact (if_pos q).trans (if_pos (by omega)).symm
        · exact (if_neg q).trans (if_neg (by omega)).symm
    rw [ef, show ((416 + z : Nat) : Int) = 416 + (z : Int) by omega] at w
    rw [bk_261_23]
    simp (disch := omega) only [mv_f0_16, nte416, w, Option.bind_some, Bool.cond_decide, am_oI_some, am_oV_some, am_oI_ite, am_oV_ite, am_bind_ite, Int.toNat_natCast, Int.toNat_zero, Int.reduceToNat, ite_true, ite_false, not_true_eq_false, not_false_eq_true, decide_true, decide_false, decide_eq_true_eq, Bool.false_eq_true, Nat.add_zero, am_rok1_0, am_rok1_1, cond_true, cond_false, am_w_nat1, true_or, or_true, false_or, or_false, true_and, and_true, false_and, and_false, Int.reduceEq, Int.reduceNeg, Int.reduceLT, Int.reduceLE, or_self, and_self, if_pos, if_neg]
  have k1 : am_run am_ms 261 2 [am_R mo, am_I 0] [] (mv mo (drow M 9 f) g) = am_run am_ms 261 2 [am_R mo, am_I 32] [] (mv mo (drow M 9 (fl 32 0 f)) g) := by
    have k := loop_to (fun z : Nat => am_run am_ms 261 2 [am_R mo, am_I z] [] (mv mo (drow M 9 (fl z 0 f)) g)) 32 s1
    have e0 : fl 0 0 f = f := funext (fun i => if_neg (by omega))
    (try dsimp only at k)
    rw [e0] at k
    exact k
  have k2 : am_run am_ms 261 23 [am_R mo, am_I 0] [] (mv mo (drow M 9 (fl 32 0 f)) g) = am_run am_ms 261 23 [am_R mo, am_I 3] [] (mv mo (drow M 9 (fs6 3 (fl 32 0 f))) g) := by
    have k := loop_to (fun z : Nat => am_run am_ms 261 23 [am_R mo, am_I z] [] (mv mo (drow M 9 (fs6 z (fl 32 0 f))) g)) 3 s2
    have e0 : fs6 0 (fl 32 0 f) = fl 32 0 f := funext (fun i => if_neg (by omega))
    (try dsimp only at k)
    rw [e0] at k
    exact k
  have w := wr9 (fs6 3 (fl 32 0 f)) 419 0 (by omega)
  have w' : am_wr (mv mo (drow M 9 (fs6 3 (fl 32 0 f))) g) (mo + 9) 0 419 0 = some (mv mo (drow M 9 (clr f)) g) := w
  rw [am_cV, en_261, bk_261_0, k1, bk_261_2]
  simp (disch := omega) only [bk_261_21, k2, Option.bind_some, Bool.cond_decide, am_oI_some, am_oV_some, am_oI_ite, am_oV_ite, am_bind_ite, Int.toNat_natCast, Int.toNat_zero, Int.reduceToNat, ite_true, ite_false, not_true_eq_false, not_false_eq_true, decide_true, decide_false, decide_eq_true_eq, Bool.false_eq_true, Nat.add_zero, am_rok1_0, am_rok1_1, cond_true, cond_false, am_w_nat1, true_or, or_true, false_or, or_false, true_and, and_true, false_and, and_false, Int.reduceEq, Int.reduceNeg, Int.reduceLT, Int.reduceLE, or_self, and_self, if_pos, if_neg]
  rw [bk_261_23]
  simp (disch := omega) only [bk_261_45, mv_f0_16, w', Option.bind_some, Bool.cond_decide, am_oI_some, am_oV_some, am_oI_ite, am_oV_ite, am_bind_ite, Int.toNat_natCast, Int.toNat_zero, Int.reduceToNat, ite_true, ite_false, not_true_eq_false, not_false_eq_true, decide_true, decide_false, decide_eq_true_eq, Bool.false_eq_true, Nat.add_zero, am_rok1_0, am_rok1_1, cond_true, cond_false, am_w_nat1, true_or, or_true, false_or, or_false, true_and, and_true, false_and, and_false, Int.reduceEq, Int.reduceNeg, Int.reduceLT, Int.reduceLE, or_self, and_self, if_pos, if_neg]
theorem t_fresh (s : Int) : am_cV 259 [am_R (x + 67), am_R (x + 13), am_I s] (zv x N P K T S m A h) = some (zv x N P K (dup (bgn T (N 0)) 0 4 s) S m A h) := by
  have hr : (zv x N P K T S m A h).1 (x + 14) = am_ar 0 7 (cut 7 (N 0)) := zv_in (i := 14) (by omega)
  have cb := d_begin (d := x + 68) (D := T) (h := (zv x N P K T S m A h)) hr (by omega)
  rw [zv_dT, zv_dT] at cb
  have cw := zT_w0 (x := x) (N := N) (P := P) (K := K) (T := bgn T (N 0)) (S := S) (m := m) (A := A) (h := h) (j := 4) s (by omega) (by omega)
  rw [show (4 : Int).toNat = 4 from rfl] at cw
  have f0 : am_gfR (zv x N P K T S m A h) (x + 13) 1 0 = some (x + 14) := zN_f0
  rw [am_cV]; simp (disch := omega) only [en_259, bk_259_0, zv_f67_0, f0, zT_c, zT_f0, cb, cw, Option.bind_some, Bool.cond_decide, am_oI_some, am_oV_some, am_oI_ite, am_oV_ite, am_bind_ite, Int.toNat_natCast, Int.toNat_zero, Int.reduceToNat, ite_true, ite_false, not_true_eq_false, not_false_eq_true, decide_true, decide_false, decide_eq_true_eq, Bool.false_eq_true, Nat.add_zero, am_rok1_0, am_rok1_1, cond_true, cond_false, am_w_nat1, true_or, or_true, false_or, or_false, true_and, and_true, false_and, and_false, Int.reduceEq, Int.reduceNeg, Int.reduceLT, Int.reduceLE, or_self, and_self, if_pos, if_neg]
/-- a trial on a new drive with so many streams: class and model side by side, up to the draws put -/
theorem fr_grow (iv : IV N Z 3) (rl : RL N Ad true (fun _ => 0) 0 8) (bd : BD N n) (hn : n + n + 610000 < 2147483647) (q3 : ∀ j, j < 6 → M 3 j = N 0 j) (q23 : M 0 23 = N 0 2) (q24 : M 0 24 = N 0 3) (hle : N 0 2 ≤ N 0 3) (p8 : ∀ j, j < 609 → M 8 j = pack Ad j) {s : Int} (hs : 1 ≤ s ∧ s ≤ 3) {q : Nat} (hq : q ≤ 200) (sd : Int) : am_cV 261 [am_R mo] (mv mo (drow M 9 (pack Ad)) g) = some (mv mo (drow M 9 (pack (frA (dup (bgn T (N 0)) 0 4 s) Ad))) g) ∧ ∃ (d : Nat) (P' T' At' S' M' : Nat → Nat → Int), d ≤ 200 ∧ am_cV 245 [am_R (x + 67), am_I q, am_L sd] (zv x N P K (dup (bgn T (N 0)) 0 4 s) S m A h) = some (zv x N P' K T' S' m A h) ∧ am_cI 248 [am_R mo, am_I q, am_L sd] (mv mo (drow (dup M 0 25 s) 9 (pack (frA (dup (bgn T (N 0)) 0 4 s) Ad))) g) = some ((d : Int), mv mo (drow M' 9 (pack At')) g) ∧ am_cI 223 [am_R (mo + 8)] (mv mo (drow M' 9 (pack At')) g) = some (am_w (N 1 0 + N 1 1), mv mo (drow M' 9 (pack At')) g) ∧ S' 0 8 = d ∧ am_cI 249 [am_R mo, am_I d, am_I (am_w (N 1 0 + N 1 1))] (mv mo (drow M' 9 (pack At')) g) = some (S' 0 9, mv mo (drow M' 9 (pack At')) g) ∧ (∀ b, am_cI 251 [am_R mo, am_I d, am_I (am_w (N 1 0 + N 1 1)), am_I b] (mv mo (drow M' 9 (pack At')) g) = some (tfd S' b, mv mo (drow M' 9 (pack At')) g)) ∧ SG S S' ∧ MT (dup M 0 25 s) (drow M' 9 (pack At')) := by
  have e0 : dup (bgn T (N 0)) 0 4 s 0 = va_up (N 0) 4 s := by
    rw [dup_t, bgn_0]
    have em : am_min (N 0 2) (N 0 3) = N 0 2 := if_neg (by omega)
    rw [em, va_up_id]
  have o0 : ∀ j, j ≠ 4 → dup (bgn T (N 0)) 0 4 s 0 j = N 0 j := fun j hj => by rw [e0, va_up_ne _ _ hj]
  have o04 : dup (bgn T (N 0)) 0 4 s 0 4 = s := by rw [e0, va_up_self]
  have hrr : RR (dup (bgn T (N 0)) 0 4 s 0) Z := by
    unfold RR
    rw [o0 0 (by omega), o0 1 (by omega), o0 2 (by omega), o0 3 (by omega), o0 5 (by omega), o0 6 (by omega), o04]
    have h1 := iv.1
    have h2 := iv.2.2.2.2.1
    have h3 := iv.pw.2.1
    exact ⟨iv.pw.1, ⟨h1.2.1, h3⟩, ⟨by have := h1.2.2.2; omega, h1.1.1.2.2.1.2⟩, ⟨h2.1, h2.2.1⟩, hs, h2.2.2⟩
  have r2 : ∀ z, z < 8 → dup (bgn T (N 0)) 0 4 s 2 z = 0 := fun z hz => by rw [dup_o _ _ _ (by omega)]; exact bgn_2 _ _ hz
  have r3 : ∀ z, z < 8 → dup (bgn T (N 0)) 0 4 s 3 z = 0 := fun z hz => by rw [dup_o _ _ _ (by omega)]; exact bgn_3 _ _ hz
  have r4 : ∀ z, z < 8 → dup (bgn T (N 0)) 0 4 s 4 z = 0 := fun z hz => by rw [dup_o _ _ _ (by omega)]; exact bgn_4 _ _ hz
  have r6 : ∀ z, z < 3 → dup (bgn T (N 0)) 0 4 s 6 z = -1 := fun z hz => by rw [dup_o _ _ _ (by omega)]; exact bgn_6 _ _ hz
  have r1 : ∀ j, j < 8 → dup (bgn T (N 0)) 0 4 s 1 j = 0 := fun z hz => by rw [dup_o _ _ _ (by omega)]; exact bgn_1 _ _ hz
  have ivT : IV (dup (bgn T (N 0)) 0 4 s) Z 3 := iv_bgs T hrr
  have bdT : BD (dup (bgn T (N 0)) 0 4 s) n := bd_new r1 r4 n
  have cl : mv mo (drow M 9 (clr (pack Ad))) g = mv mo (drow M 9 (pack (frA (dup (bgn T (N 0)) 0 4 s) Ad))) g := mv_row_ext (by omega) (fun j _ => clr_pack r2 r3 r4 r6 (by rw [o0 6 (by omega), rl.1.1]) j)
  refine ⟨by rw [m_clears, cl], ?_⟩
  generalize dup (bgn T (N 0)) 0 4 s = T0 at o0 o04 r1 r2 r3 r4 r6 ivT bdT
  have b5 := rl.2.1.2
  have hb5 := bd.2.1
  have tlN := bd.2.2.2
  have t0 := tl_01 rl
  have rlT : RL T0 (frA T0 Ad) false (fun j => Ad 1 j) (Ad 1 5) 8 := by
    refine ⟨⟨frA_t _ _ (by omega), frA_t _ _ (by omega), frA_t _ _ (by omega), frA_t _ _ (by omega), frA_t _ _ (by omega)⟩, ⟨?_, ?_⟩, ?_, ?_, ?_, ?_, ?_⟩
    · rw [frA_1, va_up_self, r1 4 (by omega)]
    · rw [frA_1, va_up_ne _ _ (by omega), r1 5 (by omega)]; omega
    · intro z hz _ e
      rw [r2 z hz] at e
      omega
    · intro p hp hh
      rw [new_no r3 hp] at hh
      exact absurd hh (by decide)
    · intro j hj j4 j5
      rw [if_neg (by decide), frA_1, va_up_ne _ _ j4, r1 j hj]
      have e1 := rl.2.2.2.2.1 j hj j4 j5
      rw [if_pos rfl] at e1
      have e2 := tlN j hj j4 j5
      rw [Int.zero_add]
      exact (am_w_id (by omega) (by omega)).symm
    · intro q; exact absurd q (by decide)
    · exact LG_of rl.2.2.2.2.2.2 (frA_o _ _ (by omega))
  have mrT : MR (dup M 0 25 s) (frA T0 Ad) := by
    unfold MR
    rw [frA_t _ _ (by omega), dup_o _ _ _ (show (3 : Nat) ≠ 0 by omega), o0 0 (by omega), o0 1 (by omega), o0 2 (by omega), o0 3 (by omega), o0 5 (by omega), o04]
    refine ⟨q3 0 (by omega), q3 1 (by omega), ?_, ?_, ?_, q3 5 (by omega)⟩
    · rw [dup_t, va_up_ne _ _ (by omega)]; exact q23
    · rw [dup_t, va_up_ne _ _ (by omega)]; exact q24
    · rw [dup_t, va_up_self]
  have hTc : 0 ≤ Ad 1 5 ∧ Ad 1 5 ≤ n := by omega
  obtain ⟨d, P', T', At', S', M', hd, k1, k2, k3, k4, k5, k6, k7, k8, k9, k10, k11⟩ := t_grow (x := x) (mo := mo) (m := m) (A := A) (N := N) (P := P) (K := K) (S := S) (h := h) (g := g) hq sd hTc.1 ivT rlT bdT (by omega) mrT
  have mt : MT (dup M 0 25 s) (drow M' 9 (pack At')) := MT_trans k7 (MT_9 M' _)
  have a4 := m_appc (mo := mo) (g := g) (M := drow M' 9 (pack At')) (c := 8) (Ad := Ad) (by omega) (by rw [mt.1 8 (by omega) (by omega) (by omega) (by omega), dup_o _ _ _ (by omega)]; exact p8)
  rw [t0.1, t0.2.1] at a4
  have hZA : At' 0 0 = Z := by rw [k8.1.1]; exact k9.pw.1
  have u0 := k8.2.2.2.2.1 0 (by omega) (by omega) (by omega)
  have u1 := k8.2.2.2.2.1 1 (by omega) (by omega) (by omega)
  rw [if_neg (by decide)] at u0 u1
  have u0' : At' 1 0 = am_w (T' 1 0 + Ad 1 0) := u0
  have u1' : At' 1 1 = am_w (T' 1 1 + Ad 1 1) := u1
  have ebl : blk (am_w (At' 1 0 + At' 1 1)) (am_w (N 1 0 + N 1 1)) d = S' 0 9 := by
    rw [k4, r1 0 (by omega), r1 1 (by omega)]
    unfold blk
    rw [wsub1, wsub2, wsub1, wsub2, u0', u1', wsum, t0.1, t0.2.1]
    have e : am_w (T' 1 0 + N 1 0 + (T' 1 1 + N 1 1) - (N 1 0 + N 1 1)) = am_w (T' 1 0 + T' 1 1 - (0 + 0)) := congrArg am_w (by omega)
    rw [e]
  have b1 := m_blocksBy (mo := mo) (M := M') (At := At') (g := g) (am_w (N 1 0 + N 1 1)) d
  rw [ebl] at b1
  refine ⟨d, P', T', At', S', M', hd, k1, k2, a4, k3, b1, fun b => ?_, k6, mt⟩
  have c := m_told (mo := mo) (g := g) k11 hZA ⟨k9.1.2.1, k9.pw.2.1⟩ d (am_w (N 1 0 + N 1 1)) b
  rw [ebl, k8.1.2.2.2.1, ← k5] at c
  have ef : tfd S' b = if b = 0 then (d : Int) else if b = 1 then S' 0 9 else S' 0 10 := by unfold tfd; rw [k3]
  rw [ef]
  exact c
theorem MU_25 {s : Int} {M' : Nat → Nat → Int} (mt : MT (dup M 0 25 s) M') : MU M M' := MU_trans (MU_f M (by omega) s) (MU_MT mt)
theorem tk_fresh (w : WR n m N K S HD M) (hn : n + n + 610000 < 2147483647) (s a sd b : Int) : TK 260 262 [am_I s, am_I a, am_L sd, am_I b] x mo m A N P K T S M h g := by
  have c1 := c_canTry (x := x) (N := N) (P := P) (K := K) (T := T) (S := S) (m := m) (A := A) (h := h) a
  have mk0 := MK_f M (j := 0) (by omega) 0
  have d1 := m_isIn s 1 3 (mv mo (dup M 0 0 0) g)
  have d2 := m_isIn a 1 200 (mv mo (dup M 0 0 0) g)
  have d3 := m_isIn b 0 2 (mv mo (dup M 0 0 0) g)
  by_cases e : 0 < N 0 0 ∧ 1 ≤ a ∧ a ≤ 200
  · rw [if_pos e] at c1
    rw [if_pos e.2] at d2
    rcases w.2.2.2.2 with w0 | ⟨Z, wd⟩
    · exact absurd w0.2.1.1 (by omega)
    · obtain ⟨Ad, iv, rl, mr, pk, f14, f30, bd, nd, ru, p8⟩ := ctx2 mo wd
      by_cases e2 : 1 ≤ s ∧ s ≤ 3
      · rw [if_pos e2] at d1
        by_cases e3 : 0 ≤ b ∧ b ≤ 2
        · rw [if_pos e3] at d3
          obtain ⟨q, rfl⟩ : ∃ q : Nat, a = q := ⟨a.toNat, by omega⟩
          have cc := m_cpt (mo := mo) (g := g) p8
          have cb := t_fresh (x := x) (N := N) (P := P) (K := K) (T := T) (S := S) (m := m) (A := A) (h := h) s
          obtain ⟨ww, d, P', T', At', S', M', hd, k1, k2, k3, k4, k5, k6, k7, k8⟩ := fr_grow (x := x) (mo := mo) (m := m) (A := A) (P := P) (K := K) (T := T) (S := S) (M := dup M 0 0 0) (h := h) (g := g) iv rl bd hn (fun j hj => by rw [dup_o _ _ _ (by omega)]; exact ru.1 j hj) (by rw [dup_t, va_up_ne _ _ (by omega)]; exact ru.2.1) (by rw [dup_t, va_up_ne _ _ (by omega)]; exact ru.2.2.1) ru.2.2.2.2 p8 e2 (q := q) (by omega) sd
          have cf := t_found (x := x) (N := N) (P := P') (K := K) (T := T') (S := S') (m := m) (A := A) (h := h) b
          have k6b := k6 b
          have cu := m_usual (mo := mo) (M := drow M' 9 (pack At')) (g := g)
          have us := ru_us ru
          clear hn
          refine ⟨tfd S' b, P', T', S', usM (drow M' 9 (pack At')), ?_, ?_, MK_trans mk0 (MK_us us (MU_25 k8)), SG_SK k7⟩
          · rw [am_cI, en_260, bk_260_0]; simp (disch := omega) only [bk_260_26, bk_260_31, bk_260_58, zv_c0, zv_f0_4, zv_f0_8, zv_c67, c1, cb, k1, cf, Option.bind_some, Bool.cond_decide, am_oI_some, am_oV_some, am_oI_ite, am_oV_ite, am_bind_ite, Int.toNat_natCast, Int.toNat_zero, Int.reduceToNat, ite_true, ite_false, not_true_eq_false, not_false_eq_true, decide_true, decide_false, decide_eq_true_eq, Bool.false_eq_true, Nat.add_zero, am_rok1_0, am_rok1_1, cond_true, cond_false, am_w_nat1, true_or, or_true, false_or, or_false, true_and, and_true, false_and, and_false, Int.reduceEq, Int.reduceNeg, Int.reduceLT, Int.reduceLE, or_self, and_self, if_pos, if_neg]
          · rw [am_cI, en_262, bk_262_0]; simp (disch := omega) only [bk_262_26, bk_262_51, bk_262_75, mv_p0_0, mv_p0_25, dup_drow_o, mv_c0, mv_f0_14, mv_f0_15, mv_f0_16, f14, d1, d2, d3, cc, ww, k2, k3, k6b, cu, Option.bind_some, Bool.cond_decide, am_oI_some, am_oV_some, am_oI_ite, am_oV_ite, am_bind_ite, Int.toNat_natCast, Int.toNat_zero, Int.reduceToNat, ite_true, ite_false, not_true_eq_false, not_false_eq_true, decide_true, decide_false, decide_eq_true_eq, Bool.false_eq_true, Nat.add_zero, am_rok1_0, am_rok1_1, cond_true, cond_false, am_w_nat1, true_or, or_true, false_or, or_false, true_and, and_true, false_and, and_false, Int.reduceEq, Int.reduceNeg, Int.reduceLT, Int.reduceLE, or_self, and_self, if_pos, if_neg]
        · rw [if_neg e3] at d3
          refine ⟨-1, P, T, S, dup M 0 0 0, ?_, ?_, mk0, SK_refl S⟩
          · by_cases e4 : b < 0
            · rw [am_cI, en_260, bk_260_0]; simp (disch := omega) only [bk_260_29, zv_c0, c1, Option.bind_some, Bool.cond_decide, am_oI_some, am_oV_some, am_oI_ite, am_oV_ite, am_bind_ite, Int.toNat_natCast, Int.toNat_zero, Int.reduceToNat, ite_true, ite_false, not_true_eq_false, not_false_eq_true, decide_true, decide_false, decide_eq_true_eq, Bool.false_eq_true, Nat.add_zero, am_rok1_0, am_rok1_1, cond_true, cond_false, am_w_nat1, true_or, or_true, false_or, or_false, true_and, and_true, false_and, and_false, Int.reduceEq, Int.reduceNeg, Int.reduceLT, Int.reduceLE, or_self, and_self, if_pos, if_neg]
            · rw [am_cI, en_260, bk_260_0]; simp (disch := omega) only [bk_260_26, bk_260_29, zv_c0, c1, Option.bind_some, Bool.cond_decide, am_oI_some, am_oV_some, am_oI_ite, am_oV_ite, am_bind_ite, Int.toNat_natCast, Int.toNat_zero, Int.reduceToNat, ite_true, ite_false, not_true_eq_false, not_false_eq_true, decide_true, decide_false, decide_eq_true_eq, Bool.false_eq_true, Nat.add_zero, am_rok1_0, am_rok1_1, cond_true, cond_false, am_w_nat1, true_or, or_true, false_or, or_false, true_and, and_true, false_and, and_false, Int.reduceEq, Int.reduceNeg, Int.reduceLT, Int.reduceLE, or_self, and_self, if_pos, if_neg]
          · rw [am_cI, en_262, bk_262_0]; simp (disch := omega) only [bk_262_26, bk_262_49, mv_p0_0, mv_c0, mv_f0_14, f14, d1, d2, d3, Option.bind_some, Bool.cond_decide, am_oI_some, am_oV_some, am_oI_ite, am_oV_ite, am_bind_ite, Int.toNat_natCast, Int.toNat_zero, Int.reduceToNat, ite_true, ite_false, not_true_eq_false, not_false_eq_true, decide_true, decide_false, decide_eq_true_eq, Bool.false_eq_true, Nat.add_zero, am_rok1_0, am_rok1_1, cond_true, cond_false, am_w_nat1, true_or, or_true, false_or, or_false, true_and, and_true, false_and, and_false, Int.reduceEq, Int.reduceNeg, Int.reduceLT, Int.reduceLE, or_self, and_self, if_pos, if_neg]
      · rw [if_neg e2] at d1
        refine ⟨-1, P, T, S, dup M 0 0 0, ?_, ?_, mk0, SK_refl S⟩
        · by_cases e4 : s < 1
          · rw [am_cI, en_260, bk_260_0]; simp (disch := omega) only [bk_260_29, zv_c0, c1, Option.bind_some, Bool.cond_decide, am_oI_some, am_oV_some, am_oI_ite, am_oV_ite, am_bind_ite, Int.toNat_natCast, Int.toNat_zero, Int.reduceToNat, ite_true, ite_false, not_true_eq_false, not_false_eq_true, decide_true, decide_false, decide_eq_true_eq, Bool.false_eq_true, Nat.add_zero, am_rok1_0, am_rok1_1, cond_true, cond_false, am_w_nat1, true_or, or_true, false_or, or_false, true_and, and_true, false_and, and_false, Int.reduceEq, Int.reduceNeg, Int.reduceLT, Int.reduceLE, or_self, and_self, if_pos, if_neg]
          · rw [am_cI, en_260, bk_260_0]; simp (disch := omega) only [bk_260_29, zv_c0, c1, Option.bind_some, Bool.cond_decide, am_oI_some, am_oV_some, am_oI_ite, am_oV_ite, am_bind_ite, Int.toNat_natCast, Int.toNat_zero, Int.reduceToNat, ite_true, ite_false, not_true_eq_false, not_false_eq_true, decide_true, decide_false, decide_eq_true_eq, Bool.false_eq_true, Nat.add_zero, am_rok1_0, am_rok1_1, cond_true, cond_false, am_w_nat1, true_or, or_true, false_or, or_false, true_and, and_true, false_and, and_false, Int.reduceEq, Int.reduceNeg, Int.reduceLT, Int.reduceLE, or_self, and_self, if_pos, if_neg]
        · rw [am_cI, en_262, bk_262_0]; simp (disch := omega) only [bk_262_49, mv_p0_0, mv_c0, mv_f0_14, f14, d1, Option.bind_some, Bool.cond_decide, am_oI_some, am_oV_some, am_oI_ite, am_oV_ite, am_bind_ite, Int.toNat_natCast, Int.toNat_zero, Int.reduceToNat, ite_true, ite_false, not_true_eq_false, not_false_eq_true, decide_true, decide_false, decide_eq_true_eq, Bool.false_eq_true, Nat.add_zero, am_rok1_0, am_rok1_1, cond_true, cond_false, am_w_nat1, true_or, or_true, false_or, or_false, true_and, and_true, false_and, and_false, Int.reduceEq, Int.reduceNeg, Int.reduceLT, Int.reduceLE, or_self, and_self, if_pos, if_neg]
  · rw [if_neg e] at c1
    refine ⟨-1, P, T, S, dup M 0 0 0, ?_, ?_, mk0, SK_refl S⟩
    · rw [am_cI, en_260, bk_260_0]; simp (disch := omega) only [bk_260_29, zv_c0, c1, Option.bind_some, Bool.cond_decide, am_oI_some, am_oV_some, am_oI_ite, am_oV_ite, am_bind_ite, Int.toNat_natCast, Int.toNat_zero, Int.reduceToNat, ite_true, ite_false, not_true_eq_false, not_false_eq_true, decide_true, decide_false, decide_eq_true_eq, Bool.false_eq_true, Nat.add_zero, am_rok1_0, am_rok1_1, cond_true, cond_false, am_w_nat1, true_or, or_true, false_or, or_false, true_and, and_true, false_and, and_false, Int.reduceEq, Int.reduceNeg, Int.reduceLT, Int.reduceLE, or_self, and_self, if_pos, if_neg]
    · rcases w.2.2.2.2 with w0 | ⟨Z, wd⟩
      · have f14 : dup M 0 0 0 0 14 = 0 := by rw [dup_t, va_up_ne _ _ (by omega)]; exact w0.1
        rw [am_cI, en_262, bk_262_0]; simp (disch := omega) only [bk_262_49, mv_p0_0, mv_c0, mv_f0_14, f14, Option.bind_some, Bool.cond_decide, am_oI_some, am_oV_some, am_oI_ite, am_oV_ite, am_bind_ite, Int.toNat_natCast, Int.toNat_zero, Int.reduceToNat, ite_true, ite_false, not_true_eq_false, not_false_eq_true, decide_true, decide_false, decide_eq_true_eq, Bool.false_eq_true, Nat.add_zero, am_rok1_0, am_rok1_1, cond_true, cond_false, am_w_nat1, true_or, or_true, false_or, or_false, true_and, and_true, false_and, and_false, Int.reduceEq, Int.reduceNeg, Int.reduceLT, Int.reduceLE, or_self, and_self, if_pos, if_neg]
      · obtain ⟨Ad, iv, rl, mr, pk, f14, f30, bd, nd, ru, p8⟩ := ctx2 mo wd
        have hN : 0 < N 0 0 := by have := iv.pw.1; have := iv.1.2.1; omega
        rw [if_neg (fun q => e ⟨hN, q⟩)] at d2
        by_cases e2 : 1 ≤ s ∧ s ≤ 3
        · rw [if_pos e2] at d1
          rw [am_cI, en_262, bk_262_0]; simp (disch := omega) only [bk_262_26, bk_262_49, mv_p0_0, mv_c0, mv_f0_14, f14, d1, d2, Option.bind_some, Bool.cond_decide, am_oI_some, am_oV_some, am_oI_ite, am_oV_ite, am_bind_ite, Int.toNat_natCast, Int.toNat_zero, Int.reduceToNat, ite_true, ite_false, not_true_eq_false, not_false_eq_true, decide_true, decide_false, decide_eq_true_eq, Bool.false_eq_true, Nat.add_zero, am_rok1_0, am_rok1_1, cond_true, cond_false, am_w_nat1, true_or, or_true, false_or, or_false, true_and, and_true, false_and, and_false, Int.reduceEq, Int.reduceNeg, Int.reduceLT, Int.reduceLE, or_self, and_self, if_pos, if_neg]
        · rw [if_neg e2] at d1
          rw [am_cI, en_262, bk_262_0]; simp (disch := omega) only [bk_262_49, mv_p0_0, mv_c0, mv_f0_14, f14, d1, Option.bind_some, Bool.cond_decide, am_oI_some, am_oV_some, am_oI_ite, am_oV_ite, am_bind_ite, Int.toNat_natCast, Int.toNat_zero, Int.reduceToNat, ite_true, ite_false, not_true_eq_false, not_false_eq_true, decide_true, decide_false, decide_eq_true_eq, Bool.false_eq_true, Nat.add_zero, am_rok1_0, am_rok1_1, cond_true, cond_false, am_w_nat1, true_or, or_true, false_or, or_false, true_and, and_true, false_and, and_false, Int.reduceEq, Int.reduceNeg, Int.reduceLT, Int.reduceLE, or_self, and_self, if_pos, if_neg]
theorem bs_loop (iv : IV N Z 3) (rl : RL N Ad true (fun _ => 0) 0 8) (bd : BD N n) (hn : n + n + 610000 < 2147483647) {M0 S0 : Nat → Nat → Int} (q3 : ∀ j, j < 6 → M0 3 j = N 0 j) (q23 : M0 0 23 = N 0 2) (q24 : M0 0 24 = N 0 3) (hle : N 0 2 ≤ N 0 3) (p8 : ∀ j, j < 609 → M0 8 j = pack Ad j) {q : Nat} (hq : q ≤ 200) (sd : Int) : ∀ (r p : Nat) (P T S M : Nat → Nat → Int) (bc bm ms ls : Int) (v8 v9 : am_V), r + p = 4 → 1 ≤ p → ((p = 1 ∧ bm = -1 ∧ S 0 11 = -1) ∨ (bc = bm ∧ ¬ bm = -1 ∧ S 0 11 = ms ∧ S 0 12 = ls)) → MU M0 M → (M 0 23 = M0 0 23 ∧ M 0 24 = M0 0 24) → SK S0 S → ∃ (v : Int) (P' T' S' M' : Nat → Nat → Int), am_run am_ms 263 23 [am_R x, am_I q, am_L sd, am_K 1, am_I bc, am_I p] [] (zv x N P K T S m A h) = some (some (am_I v), zv x N P' K T' S' m A h) ∧ am_run am_ms 264 38 [am_R mo, am_I q, am_L sd, am_K 1, am_I bm, am_I ms, am_I ls, am_I p, v8, v9] [] (mv mo M g) = some (some (am_I v), mv mo (usM M') g) ∧ MU M0 M' ∧ SK S0 S' := by
  intro r
  induction r with
  | zero =>
    intro p P T S M bc bm ms ls v8 v9 hp hp1 inv mt m23 sk
    have hp4 : p = 4 := by omega
    have cu := m_usual (mo := mo) (M := M) (g := g)
    rcases inv with i | i
    · omega
    · refine ⟨bm, P, T, S, M, ?_, ?_, mt, sk⟩
      · rw [i.1, bk_263_23]; simp (disch := omega) only [bk_263_71, Option.bind_some, Bool.cond_decide, am_oI_some, am_oV_some, am_oI_ite, am_oV_ite, am_bind_ite, Int.toNat_natCast, Int.toNat_zero, Int.reduceToNat, ite_true, ite_false, not_true_eq_false, not_false_eq_true, decide_true, decide_false, decide_eq_true_eq, Bool.false_eq_true, Nat.add_zero, am_rok1_0, am_rok1_1, cond_true, cond_false, am_w_nat1, true_or, or_true, false_or, or_false, true_and, and_true, false_and, and_false, Int.reduceEq, Int.reduceNeg, Int.reduceLT, Int.reduceLE, or_self, and_self, if_pos, if_neg]
      · rw [bk_264_38]; simp (disch := omega) only [bk_264_138, mv_c0, cu, Option.bind_some, Bool.cond_decide, am_oI_some, am_oV_some, am_oI_ite, am_oV_ite, am_bind_ite, Int.toNat_natCast, Int.toNat_zero, Int.reduceToNat, ite_true, ite_false, not_true_eq_false, not_false_eq_true, decide_true, decide_false, decide_eq_true_eq, Bool.false_eq_true, Nat.add_zero, am_rok1_0, am_rok1_1, cond_true, cond_false, am_w_nat1, true_or, or_true, false_or, or_false, true_and, and_true, false_and, and_false, Int.reduceEq, Int.reduceNeg, Int.reduceLT, Int.reduceLE, or_self, and_self, if_pos, if_neg]
  | succ r ih =>
    intro p P T S M bc bm ms ls v8 v9 hp hp1 inv mt m23 sk
    have p8' : ∀ j, j < 609 → M 8 j = pack Ad j := by rw [mt.1 8 (by omega) (by omega) (by omega) (by omega)]; exact p8
    have cc := m_cpt (mo := mo) (g := g) (M := M) (Ad := Ad) p8'
    have cb := t_fresh (x := x) (N := N) (P := P) (K := K) (T := T) (S := S) (m := m) (A := A) (h := h) p
    obtain ⟨ww, d, P1, T1, At1, S1, M1, hd, k1, k2, k3, k4, k5, k6, k7, k8⟩ := fr_grow (x := x) (mo := mo) (m := m) (A := A) (P := P) (K := K) (T := T) (S := S) (M := M) (h := h) (g := g) iv rl bd hn (by rw [mt.1 3 (by omega) (by omega) (by omega) (by omega)]; exact q3) (m23.1.trans q23) (m23.2.trans q24) hle p8' (s := (p : Int)) (by omega) hq sd
    have cl := t_lead (x := x) (N := N) (P := P1) (K := K) (T := T1) (S := S1) (m := m) (A := A) (h := h)
    have mt1 := MU_trans mt (MU_25 k8)
    have m23' : drow M1 9 (pack At1) 0 23 = M0 0 23 ∧ drow M1 9 (pack At1) 0 24 = M0 0 24 := by
      rw [k8.2 23 (by omega) (by omega) (by omega), k8.2 24 (by omega) (by omega) (by omega), dup_t, va_up_ne _ _ (by omega), va_up_ne _ _ (by omega)]
      exact m23
    have sk1 : SK S0 (tlS S1) := SK_trans (SK_trans sk (SG_SK k7)) (tlS_SK S1)
    have h11 : S1 0 11 = S 0 11 := k7.2 11 (by omega) (by omega) (by omega) (by omega)
    have h12 : S1 0 12 = S 0 12 := k7.2 12 (by omega) (by omega) (by omega) (by omega)
    generalize hbl : S1 0 9 = bl at k5
    have mcase : (tlq S1 = true ∧ (bm = -1 ∨ ¬ (d : Int) < ms ∧ (¬ (d : Int) = ms ∨ bl < ls))) ∨ (tlq S1 = false ∧ ¬ bm = -1 ∧ bc = bm ∧ (S 0 11 = ms ∧ S 0 12 = ls) ∧ ((d : Int) < ms ∨ ((d : Int) = ms ∧ ls ≤ bl))) := by
      clear hn
      cases et : tlq S1 with
      | true =>
        left
        have hq := of_decide_eq_true (et : decide _ = true)
        refine ⟨rfl, ?_⟩
        rcases inv with i | i
        · exact Or.inl i.2.1
        · right
          rw [k4, h11, h12, hbl, i.2.2.1, i.2.2.2] at hq
          omega
      | false =>
        right
        have hq := of_decide_eq_false (et : decide _ = false)
        rw [k4, h11, h12, hbl] at hq
        rcases inv with i | i
        · omega
        · rw [i.2.2.1, i.2.2.2] at hq
          exact ⟨rfl, i.2.1, i.1, i.2.2, by omega⟩
    clear inv hn
    rcases mcase with ⟨et, hc⟩ | ⟨et, hb1, hb2, hb3, hc⟩
    · have eS : tlS S1 = dup (dup S1 0 11 (d : Int)) 0 12 bl := by unfold tlS; rw [if_pos et, k4, hbl]
      rw [et, if_pos rfl] at cl
      have j11 : tlS S1 0 11 = (d : Int) := by rw [eS, dup_t, va_up_ne _ _ (by omega), dup_t, va_up_self]
      have j12 : tlS S1 0 12 = bl := by rw [eS, dup_t, va_up_self]
      obtain ⟨v, P2, T2, S2, M2, l1, l2, l3, l4⟩ := ih (p + 1) P1 T1 (tlS S1) (drow M1 9 (pack At1)) (p : Int) (p : Int) (d : Int) bl (am_I d) (am_I bl) (by omega) (by omega) (Or.inr ⟨rfl, by omega, j11, j12⟩) mt1 m23' sk1
      refine ⟨v, P2, T2, S2, M2, ?_, ?_, l3, l4⟩
      · rw [bk_263_23]; simp (disch := omega) only [bk_263_51, bk_263_65, zv_c0, zv_f0_4, zv_f0_8, zv_c67, cb, k1, cl, l1, Option.bind_some, Bool.cond_decide, am_oI_some, am_oV_some, am_oI_ite, am_oV_ite, am_bind_ite, Int.toNat_natCast, Int.toNat_zero, Int.reduceToNat, ite_true, ite_false, not_true_eq_false, not_false_eq_true, decide_true, decide_false, decide_eq_true_eq, Bool.false_eq_true, Nat.add_zero, am_rok1_0, am_rok1_1, cond_true, cond_false, am_w_nat1, true_or, or_true, false_or, or_false, true_and, and_true, false_and, and_false, Int.reduceEq, Int.reduceNeg, Int.reduceLT, Int.reduceLE, or_self, and_self, if_pos, if_neg]
      · rcases hc with hc | hc
        · rw [bk_264_38]; simp (disch := omega) only [bk_264_64, bk_264_92, bk_264_120, bk_264_132, mv_c0, mv_p0_25, dup_drow_o, mv_f0_15, mv_f0_16, cc, ww, k2, k3, k5, l2, hc, Option.bind_some, Bool.cond_decide, am_oI_some, am_oV_some, am_oI_ite, am_oV_ite, am_bind_ite, Int.toNat_natCast, Int.toNat_zero, Int.reduceToNat, ite_true, ite_false, not_true_eq_false, not_false_eq_true, decide_true, decide_false, decide_eq_true_eq, Bool.false_eq_true, Nat.add_zero, am_rok1_0, am_rok1_1, cond_true, cond_false, am_w_nat1, true_or, or_true, false_or, or_false, true_and, and_true, false_and, and_false, Int.reduceEq, Int.reduceNeg, Int.reduceLT, Int.reduceLE, or_self, and_self, if_pos, if_neg]
        · by_cases hm1 : bm = -1
          · rw [bk_264_38]; simp (disch := omega) only [bk_264_64, bk_264_92, bk_264_120, bk_264_132, mv_c0, mv_p0_25, dup_drow_o, mv_f0_15, mv_f0_16, cc, ww, k2, k3, k5, l2, hm1, Option.bind_some, Bool.cond_decide, am_oI_some, am_oV_some, am_oI_ite, am_oV_ite, am_bind_ite, Int.toNat_natCast, Int.toNat_zero, Int.reduceToNat, ite_true, ite_false, not_true_eq_false, not_false_eq_true, decide_true, decide_false, decide_eq_true_eq, Bool.false_eq_true, Nat.add_zero, am_rok1_0, am_rok1_1, cond_true, cond_false, am_w_nat1, true_or, or_true, false_or, or_false, true_and, and_true, false_and, and_false, Int.reduceEq, Int.reduceNeg, Int.reduceLT, Int.reduceLE, or_self, and_self, if_pos, if_neg]
          · by_cases hm2 : (d : Int) = ms
            · rw [bk_264_38]; simp (disch := omega) only [bk_264_64, bk_264_92, bk_264_120, bk_264_132, mv_c0, mv_p0_25, dup_drow_o, mv_f0_15, mv_f0_16, cc, ww, k2, k3, k5, l2, Option.bind_some, Bool.cond_decide, am_oI_some, am_oV_some, am_oI_ite, am_oV_ite, am_bind_ite, Int.toNat_natCast, Int.toNat_zero, Int.reduceToNat, ite_true, ite_false, not_true_eq_false, not_false_eq_true, decide_true, decide_false, decide_eq_true_eq, Bool.false_eq_true, Nat.add_zero, am_rok1_0, am_rok1_1, cond_true, cond_false, am_w_nat1, true_or, or_true, false_or, or_false, true_and, and_true, false_and, and_false, Int.reduceEq, Int.reduceNeg, Int.reduceLT, Int.reduceLE, or_self, and_self, if_pos, if_neg]
            · rw [bk_264_38]; simp (disch := omega) only [bk_264_64, bk_264_92, bk_264_120, bk_264_132, mv_c0, mv_p0_25, dup_drow_o, mv_f0_15, mv_f0_16, cc, ww, k2, k3, k5, l2, Option.bind_some, Bool.cond_decide, am_oI_some, am_oV_some, am_oI_ite, am_oV_ite, am_bind_ite, Int.toNat_natCast, Int.toNat_zero, Int.reduceToNat, ite_true, ite_false, not_true_eq_false, not_false_eq_true, decide_true, decide_false, decide_eq_true_eq, Bool.false_eq_true, Nat.add_zero, am_rok1_0, am_rok1_1, cond_true, cond_false, am_w_nat1, true_or, or_true, false_or, or_false, true_and, and_true, false_and, and_false, Int.reduceEq, Int.reduceNeg, Int.reduceLT, Int.reduceLE, or_self, and_self, if_pos, if_neg]
    · have eS : tlS S1 = S1 := by unfold tlS; rw [et, if_neg (by decide)]
      rw [et, if_neg (by decide), eS] at cl
      rw [eS] at sk1
      obtain ⟨v, P2, T2, S2, M2, l1, l2, l3, l4⟩ := ih (p + 1) P1 T1 S1 (drow M1 9 (pack At1)) bc bm ms ls (am_I d) (am_I bl) (by omega) (by omega) (Or.inr ⟨hb2, hb1, h11.trans hb3.1, h12.trans hb3.2⟩) mt1 m23' sk1
      refine ⟨v, P2, T2, S2, M2, ?_, ?_, l3, l4⟩
      · rw [bk_263_23]; simp (disch := omega) only [bk_263_51, bk_263_65, zv_c0, zv_f0_4, zv_f0_8, zv_c67, cb, k1, cl, l1, Option.bind_some, Bool.cond_decide, am_oI_some, am_oV_some, am_oI_ite, am_oV_ite, am_bind_ite, Int.toNat_natCast, Int.toNat_zero, Int.reduceToNat, ite_true, ite_false, not_true_eq_false, not_false_eq_true, decide_true, decide_false, decide_eq_true_eq, Bool.false_eq_true, Nat.add_zero, am_rok1_0, am_rok1_1, cond_true, cond_false, am_w_nat1, true_or, or_true, false_or, or_false, true_and, and_true, false_and, and_false, Int.reduceEq, Int.reduceNeg, Int.reduceLT, Int.reduceLE, or_self, and_self, if_pos, if_neg]
      · rcases hc with hc | hc
        · rw [bk_264_38]; simp (disch := omega) only [bk_264_64, bk_264_92, bk_264_132, mv_c0, mv_p0_25, dup_drow_o, mv_f0_15, mv_f0_16, cc, ww, k2, k3, k5, l2, Option.bind_some, Bool.cond_decide, am_oI_some, am_oV_some, am_oI_ite, am_oV_ite, am_bind_ite, Int.toNat_natCast, Int.toNat_zero, Int.reduceToNat, ite_true, ite_false, not_true_eq_false, not_false_eq_true, decide_true, decide_false, decide_eq_true_eq, Bool.false_eq_true, Nat.add_zero, am_rok1_0, am_rok1_1, cond_true, cond_false, am_w_nat1, true_or, or_true, false_or, or_false, true_and, and_true, false_and, and_false, Int.reduceEq, Int.reduceNeg, Int.reduceLT, Int.reduceLE, or_self, and_self, if_pos, if_neg]
        · rw [bk_264_38]; simp (disch := omega) only [bk_264_64, bk_264_92, bk_264_132, mv_c0, mv_p0_25, dup_drow_o, mv_f0_15, mv_f0_16, cc, ww, k2, k3, k5, l2, Option.bind_some, Bool.cond_decide, am_oI_some, am_oV_some, am_oI_ite, am_oV_ite, am_bind_ite, Int.toNat_natCast, Int.toNat_zero, Int.reduceToNat, ite_true, ite_false, not_true_eq_false, not_false_eq_true, decide_true, decide_false, decide_eq_true_eq, Bool.false_eq_true, Nat.add_zero, am_rok1_0, am_rok1_1, cond_true, cond_false, am_w_nat1, true_or, or_true, false_or, or_false, true_and, and_true, false_and, and_false, Int.reduceEq, Int.reduceNeg, Int.reduceLT, Int.reduceLE, or_self, and_self, if_pos, if_neg]
theorem tk_bs (w : WR n m N K S HD M) (hn : n + n + 610000 < 2147483647) (a sd : Int) : TK 263 264 [am_I a, am_L sd] x mo m A N P K T S M h g := by
  have c1 := c_canTry (x := x) (N := N) (P := P) (K := K) (T := T) (S := S) (m := m) (A := A) (h := h) a
  have mk0 := MK_f M (j := 0) (by omega) 0
  have d2 := m_isIn a 1 200 (mv mo (dup M 0 0 0) g)
  by_cases e : 0 < N 0 0 ∧ 1 ≤ a ∧ a ≤ 200
  · rw [if_pos e] at c1
    rw [if_pos e.2] at d2
    rcases w.2.2.2.2 with w0 | ⟨Z, wd⟩
    · exact absurd w0.2.1.1 (by omega)
    · obtain ⟨Ad, iv, rl, mr, pk, f14, f30, bd, nd, ru, p8⟩ := ctx2 mo wd
      obtain ⟨q, rfl⟩ : ∃ q : Nat, a = q := ⟨a.toNat, by omega⟩
      have cb := t_contest (x := x) (N := N) (P := P) (K := K) (T := T) (S := S) (m := m) (A := A) (h := h)
      have us := ru_us ru
      have j11 : dup (dup S 0 11 (-1)) 0 12 0 0 11 = -1 := by rw [dup_t, va_up_ne _ _ (by omega), dup_t, va_up_self]
      obtain ⟨v, P2, T2, S2, M2, l1, l2, l3, l4⟩ := bs_loop (x := x) (mo := mo) (m := m) (A := A) (K := K) (h := h) (g := g) iv rl bd hn (M0 := dup M 0 0 0) (S0 := S) (fun j hj => by rw [dup_o _ _ _ (by omega)]; exact ru.1 j hj) (by rw [dup_t, va_up_ne _ _ (by omega)]; exact ru.2.1) (by rw [dup_t, va_up_ne _ _ (by omega)]; exact ru.2.2.1) ru.2.2.2.2 p8 (q := q) (by omega) sd 3 1 P T (dup (dup S 0 11 (-1)) 0 12 0) (dup M 0 0 0) 1 (-1) 0 0 (am_K 1) (am_K 1) rfl (by omega) (Or.inl ⟨rfl, rfl, j11⟩) (MU_refl _) ⟨rfl, rfl⟩ (SK_trans (SK_f S (by omega) _) (SK_f _ (by omega) _))
      have l1' : am_run am_ms 263 23 [am_R x, am_I q, am_L sd, am_K 1, am_I 1, am_I 1] [] (zv x N P K T (dup (dup S 0 11 (-1)) 0 12 0) m A h) = some (some (am_I v), zv x N P2 K T2 S2 m A h) := l1
      have l2' : am_run am_ms 264 38 [am_R mo, am_I q, am_L sd, am_K 1, am_I (-1), am_I 0, am_I 0, am_I 1, am_K 1, am_K 1] [] (mv mo (dup M 0 0 0) g) = some (some (am_I v), mv mo (usM M2) g) := l2
      refine ⟨v, P2, T2, S2, usM M2, ?_, ?_, MK_trans mk0 (MK_us us l3), l4⟩
      · rw [am_cI, en_263, bk_263_0]; simp (disch := omega) only [bk_263_10, zv_c0, zv_f0_8, zv_c67, c1, cb, l1', Option.bind_some, Bool.cond_decide, am_oI_some, am_oV_some, am_oI_ite, am_oV_ite, am_bind_ite, Int.toNat_natCast, Int.toNat_zero, Int.reduceToNat, ite_true, ite_false, not_true_eq_false, not_false_eq_true, decide_true, decide_false, decide_eq_true_eq, Bool.false_eq_true, Nat.add_zero, am_rok1_0, am_rok1_1, cond_true, cond_false, am_w_nat1, true_or, or_true, false_or, or_false, true_and, and_true, false_and, and_false, Int.reduceEq, Int.reduceNeg, Int.reduceLT, Int.reduceLE, or_self, and_self, if_pos, if_neg]
      · rw [am_cI, en_264, bk_264_0]; simp (disch := omega) only [bk_264_26, mv_p0_0, mv_c0, mv_f0_14, f14, d2, l2', Option.bind_some, Bool.cond_decide, am_oI_some, am_oV_some, am_oI_ite, am_oV_ite, am_bind_ite, Int.toNat_natCast, Int.toNat_zero, Int.reduceToNat, ite_true, ite_false, not_true_eq_false, not_false_eq_true, decide_true, decide_false, decide_eq_true_eq, Bool.false_eq_true, Nat.add_zero, am_rok1_0, am_rok1_1, cond_true, cond_false, am_w_nat1, true_or, or_true, false_or, or_false, true_and, and_true, false_and, and_false, Int.reduceEq, Int.reduceNeg, Int.reduceLT, Int.reduceLE, or_self, and_self, if_pos, if_neg]
  · rw [if_neg e] at c1
    refine ⟨-1, P, T, S, dup M 0 0 0, ?_, ?_, mk0, SK_refl S⟩
    · rw [am_cI, en_263, bk_263_0]; simp (disch := omega) only [zv_c0, c1, Option.bind_some, Bool.cond_decide, am_oI_some, am_oV_some, am_oI_ite, am_oV_ite, am_bind_ite, Int.toNat_natCast, Int.toNat_zero, Int.reduceToNat, ite_true, ite_false, not_true_eq_false, not_false_eq_true, decide_true, decide_false, decide_eq_true_eq, Bool.false_eq_true, Nat.add_zero, am_rok1_0, am_rok1_1, cond_true, cond_false, am_w_nat1, true_or, or_true, false_or, or_false, true_and, and_true, false_and, and_false, Int.reduceEq, Int.reduceNeg, Int.reduceLT, Int.reduceLE, or_self, and_self, if_pos, if_neg]
    · rcases w.2.2.2.2 with w0 | ⟨Z, wd⟩
      · have f14 : dup M 0 0 0 0 14 = 0 := by rw [dup_t, va_up_ne _ _ (by omega)]; exact w0.1
        rw [am_cI, en_264, bk_264_0]; simp (disch := omega) only [bk_264_24, mv_p0_0, mv_c0, mv_f0_14, f14, Option.bind_some, Bool.cond_decide, am_oI_some, am_oV_some, am_oI_ite, am_oV_ite, am_bind_ite, Int.toNat_natCast, Int.toNat_zero, Int.reduceToNat, ite_true, ite_false, not_true_eq_false, not_false_eq_true, decide_true, decide_false, decide_eq_true_eq, Bool.false_eq_true, Nat.add_zero, am_rok1_0, am_rok1_1, cond_true, cond_false, am_w_nat1, true_or, or_true, false_or, or_false, true_and, and_true, false_and, and_false, Int.reduceEq, Int.reduceNeg, Int.reduceLT, Int.reduceLE, or_self, and_self, if_pos, if_neg]
      · obtain ⟨Ad, iv, rl, mr, pk, f14, f30, bd, nd, ru, p8⟩ := ctx2 mo wd
        have hN : 0 < N 0 0 := by have := iv.pw.1; have := iv.1.2.1; omega
        rw [if_neg (fun q => e ⟨hN, q⟩)] at d2
        rw [am_cI, en_264, bk_264_0]; simp (disch := omega) only [bk_264_24, mv_p0_0, mv_c0, mv_f0_14, f14, d2, Option.bind_some, Bool.cond_decide, am_oI_some, am_oV_some, am_oI_ite, am_oV_ite, am_bind_ite, Int.toNat_natCast, Int.toNat_zero, Int.reduceToNat, ite_true, ite_false, not_true_eq_false, not_false_eq_true, decide_true, decide_false, decide_eq_true_eq, Bool.false_eq_true, Nat.add_zero, am_rok1_0, am_rok1_1, cond_true, cond_false, am_w_nat1, true_or, or_true, false_or, or_false, true_and, and_true, false_and, and_false, Int.reduceEq, Int.reduceNeg, Int.reduceLT, Int.reduceLE, or_self, and_self, if_pos, if_neg]
end FRS
