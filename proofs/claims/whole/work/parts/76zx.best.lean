/-! ===== growth, best ===== -/
theorem wsum (a b c : Int) : am_w (am_w a + am_w b - c) = am_w (a + b - c) := by
  unfold am_w
  rw [show a.bmod 4294967296 + b.bmod 4294967296 - c = a.bmod 4294967296 + (b.bmod 4294967296 - c) by omega, Int.bmod_add_bmod, show a + (b.bmod 4294967296 - c) = b.bmod 4294967296 + (a - c) by omega, Int.bmod_add_bmod]
  congr 1
  omega
theorem wsub1 (a b : Int) : am_w (am_w a - b) = am_w (a - b) := by unfold am_w; exact Int.bmod_sub_bmod
theorem wsub2 (a b : Int) : am_w (a - am_w b) = am_w (a - b) := by unfold am_w; exact Int.sub_bmod_bmod
section BEST
variable {x mo n m Z : Nat} {A : Nat → Nat} {N P K T S M At Ad : Nat → Nat → Int} {HD : Nat → Nat → Nat → Int} {h g : am_H} {md : Bool} {O : Nat → Int} {Tc : Int}
theorem c_canTry (a : Int) : am_cI 242 [am_R x, am_I a] (zv x N P K T S m A h) = some (if 0 < N 0 0 ∧ 1 ≤ a ∧ a ≤ 200 then 1 else 0, (zv x N P K T S m A h)) := by
  have c0 := c_isDrive (x := x) (N := N) (P := P) (K := K) (T := T) (S := S) (m := m) (A := A) h
  by_cases e0 : 0 < N 0 0
  · rw [if_pos e0] at c0
    by_cases e1 : a < 1
    · rw [if_neg (fun q => by omega), am_cI]; simp (disch := omega) only [en_242, bk_242_0, bk_242_23, bk_242_24, zv_c0, c0, Option.bind_some, Bool.cond_decide, am_oI_some, am_oV_some, am_oI_ite, am_oV_ite, am_bind_ite, Int.toNat_natCast, Int.toNat_zero, Int.reduceToNat, ite_true, ite_false, not_true_eq_false, not_false_eq_true, decide_true, decide_false, decide_eq_true_eq, Bool.false_eq_true, Nat.add_zero, am_rok1_0, am_rok1_1, cond_true, cond_false, am_w_nat1, true_or, or_true, false_or, or_false, true_and, and_true, false_and, and_false, Int.reduceEq, Int.reduceNeg, Int.reduceLT, Int.reduceLE, or_self, and_self, if_pos, if_neg]
    · by_cases e2 : 200 < a
      · rw [if_neg (fun q => by omega), am_cI]; simp (disch := omega) only [en_242, bk_242_0, bk_242_23, bk_242_24, zv_c0, c0, Option.bind_some, Bool.cond_decide, am_oI_some, am_oV_some, am_oI_ite, am_oV_ite, am_bind_ite, Int.toNat_natCast, Int.toNat_zero, Int.reduceToNat, ite_true, ite_false, not_true_eq_false, not_false_eq_true, decide_true, decide_false, decide_eq_true_eq, Bool.false_eq_true, Nat.add_zero, am_rok1_0, am_rok1_1, cond_true, cond_false, am_w_nat1, true_or, or_true, false_or, or_false, true_and, and_true, false_and, and_false, Int.reduceEq, Int.reduceNeg, Int.reduceLT, Int.reduceLE, or_self, and_self, if_pos, if_neg]
      · rw [if_pos ⟨e0, by omega, by omega⟩, am_cI]; simp (disch := omega) only [en_242, bk_242_0, bk_242_23, bk_242_24, zv_c0, c0, Option.bind_some, Bool.cond_decide, am_oI_some, am_oV_some, am_oI_ite, am_oV_ite, am_bind_ite, Int.toNat_natCast, Int.toNat_zero, Int.reduceToNat, ite_true, ite_false, not_true_eq_false, not_false_eq_true, decide_true, decide_false, decide_eq_true_eq, Bool.false_eq_true, Nat.add_zero, am_rok1_0, am_rok1_1, cond_true, cond_false, am_w_nat1, true_or, or_true, false_or, or_false, true_and, and_true, false_and, and_false, Int.reduceEq, Int.reduceNeg, Int.reduceLT, Int.reduceLE, or_self, and_self, if_pos, if_neg]
  · rw [if_neg e0] at c0
    rw [if_neg (fun q => e0 q.1), am_cI]; simp (disch := omega) only [en_242, bk_242_0, bk_242_23, bk_242_24, zv_c0, c0, Option.bind_some, Bool.cond_decide, am_oI_some, am_oV_some, am_oI_ite, am_oV_ite, am_bind_ite, Int.toNat_natCast, Int.toNat_zero, Int.reduceToNat, ite_true, ite_false, not_true_eq_false, not_false_eq_true, decide_true, decide_false, decide_eq_true_eq, Bool.false_eq_true, Nat.add_zero, am_rok1_0, am_rok1_1, cond_true, cond_false, am_w_nat1, true_or, or_true, false_or, or_false, true_and, and_true, false_and, and_false, Int.reduceEq, Int.reduceNeg, Int.reduceLT, Int.reduceLE, or_self, and_self, if_pos, if_neg]
theorem t_beginWith (p : Int) : am_cV 243 [am_R (x + 67), am_R (x + 13), am_I p] (zv x N P K T S m A h) = some (zv x N P K (dup N 0 6 p) S m A h) := by
  have ct := zt_copy (x := x) (N := N) (P := P) (K := K) (T := T) (S := S) (m := m) (A := A) (h := h)
  have cw := zT_w0 (x := x) (N := N) (P := P) (K := K) (T := N) (S := S) (m := m) (A := A) (h := h) (j := 6) p (by omega) (by omega)
  rw [show (6 : Int).toNat = 6 from rfl] at cw
  rw [am_cV]; simp (disch := omega) only [en_243, bk_243_0, zv_f67_0, zT_c, zT_f0, ct, cw, Option.bind_some, Bool.cond_decide, am_oI_some, am_oV_some, am_oI_ite, am_oV_ite, am_bind_ite, Int.toNat_natCast, Int.toNat_zero, Int.reduceToNat, ite_true, ite_false, not_true_eq_false, not_false_eq_true, decide_true, decide_false, decide_eq_true_eq, Bool.false_eq_true, Nat.add_zero, am_rok1_0, am_rok1_1, cond_true, cond_false, am_w_nat1, true_or, or_true, false_or, or_false, true_and, and_true, false_and, and_false, Int.reduceEq, Int.reduceNeg, Int.reduceLT, Int.reduceLE, or_self, and_self, if_pos, if_neg]
def tfd (S : Nat → Nat → Int) (b : Int) : Int := if b = 0 then S 0 8 else if b = 1 then S 0 9 else S 0 10
theorem t_found (b : Int) : am_cI 246 [am_R (x + 67), am_I b] (zv x N P K T S m A h) = some (tfd S b, (zv x N P K T S m A h)) := by
  unfold tfd
  by_cases e0 : b = 0
  · rw [if_pos e0, am_cI]; simp (disch := omega) only [en_246, bk_246_0, bk_246_9, bk_246_21, bk_246_25, zv_f67_3, e0, Option.bind_some, Bool.cond_decide, am_oI_some, am_oV_some, am_oI_ite, am_oV_ite, am_bind_ite, Int.toNat_natCast, Int.toNat_zero, Int.reduceToNat, ite_true, ite_false, not_true_eq_false, not_false_eq_true, decide_true, decide_false, decide_eq_true_eq, Bool.false_eq_true, Nat.add_zero, am_rok1_0, am_rok1_1, cond_true, cond_false, am_w_nat1, true_or, or_true, false_or, or_false, true_and, and_true, false_and, and_false, Int.reduceEq, Int.reduceNeg, Int.reduceLT, Int.reduceLE, or_self, and_self, if_pos, if_neg]
  · by_cases e1 : b = 1
    · rw [if_neg e0, if_pos e1, am_cI]; simp (disch := omega) only [en_246, bk_246_0, bk_246_9, bk_246_21, bk_246_25, zv_f67_4, e1, Option.bind_some, Bool.cond_decide, am_oI_some, am_oV_some, am_oI_ite, am_oV_ite, am_bind_ite, Int.toNat_natCast, Int.toNat_zero, Int.reduceToNat, ite_true, ite_false, not_true_eq_false, not_false_eq_true, decide_true, decide_false, decide_eq_true_eq, Bool.false_eq_true, Nat.add_zero, am_rok1_0, am_rok1_1, cond_true, cond_false, am_w_nat1, true_or, or_true, false_or, or_false, true_and, and_true, false_and, and_false, Int.reduceEq, Int.reduceNeg, Int.reduceLT, Int.reduceLE, or_self, and_self, if_pos, if_neg]
    · rw [if_neg e0, if_neg e1, am_cI]; simp (disch := omega) only [en_246, bk_246_0, bk_246_9, bk_246_21, bk_246_25, zv_f67_5, e0, e1, Option.bind_some, Bool.cond_decide, am_oI_some, am_oV_some, am_oI_ite, am_oV_ite, am_bind_ite, Int.toNat_natCast, Int.toNat_zero, Int.reduceToNat, ite_true, ite_false, not_true_eq_false, not_false_eq_true, decide_true, decide_false, decide_eq_true_eq, Bool.false_eq_true, Nat.add_zero, am_rok1_0, am_rok1_1, cond_true, cond_false, am_w_nat1, true_or, or_true, false_or, or_false, true_and, and_true, false_and, and_false, Int.reduceEq, Int.reduceNeg, Int.reduceLT, Int.reduceLE, or_self, and_self, if_pos, if_neg]
theorem m_told (mr : MR M At) (hZ : At 0 0 = Z) (hZ8 : 1 ≤ Z ∧ Z ≤ 8) (d b q : Int) : am_cI 251 [am_R mo, am_I d, am_I b, am_I q] (mv mo (drow M 9 (pack At)) g) = some (if q = 0 then d else if q = 1 then blk (am_w (At 1 0 + At 1 1)) b d else spr (At 4) Z, mv mo (drow M 9 (pack At)) g) := by
  have c1 := m_blocksBy (mo := mo) (M := M) (At := At) (g := g) b d
  have c2 := m_wear (mo := mo) (g := g) mr hZ hZ8
  by_cases e0 : q = 0
  · rw [if_pos e0, am_cI]; simp (disch := omega) only [en_251, bk_251_0, bk_251_8, bk_251_22, bk_251_30, e0, Option.bind_some, Bool.cond_decide, am_oI_some, am_oV_some, am_oI_ite, am_oV_ite, am_bind_ite, Int.toNat_natCast, Int.toNat_zero, Int.reduceToNat, ite_true, ite_false, not_true_eq_false, not_false_eq_true, decide_true, decide_false, decide_eq_true_eq, Bool.false_eq_true, Nat.add_zero, am_rok1_0, am_rok1_1, cond_true, cond_false, am_w_nat1, true_or, or_true, false_or, or_false, true_and, and_true, false_and, and_false, Int.reduceEq, Int.reduceNeg, Int.reduceLT, Int.reduceLE, or_self, and_self, if_pos, if_neg]
  · by_cases e1 : q = 1
    · rw [if_neg e0, if_pos e1, am_cI]; simp (disch := omega) only [en_251, bk_251_0, bk_251_8, bk_251_22, bk_251_30, mv_c0, c1, e1, Option.bind_some, Bool.cond_decide, am_oI_some, am_oV_some, am_oI_ite, am_oV_ite, am_bind_ite, Int.toNat_natCast, Int.toNat_zero, Int.reduceToNat, ite_true, ite_false, not_true_eq_false, not_false_eq_true, decide_true, decide_false, decide_eq_true_eq, Bool.false_eq_true, Nat.add_zero, am_rok1_0, am_rok1_1, cond_true, cond_false, am_w_nat1, true_or, or_true, false_or, or_false, true_and, and_true, false_and, and_false, Int.reduceEq, Int.reduceNeg, Int.reduceLT, Int.reduceLE, or_self, and_self, if_pos, if_neg]
    · rw [if_neg e0, if_neg e1, am_cI]; simp (disch := omega) only [en_251, bk_251_0, bk_251_8, bk_251_22, bk_251_30, mv_c0, mv_f0_16, c2, e0, e1, Option.bind_some, Bool.cond_decide, am_oI_some, am_oV_some, am_oI_ite, am_oV_ite, am_bind_ite, Int.toNat_natCast, Int.toNat_zero, Int.reduceToNat, ite_true, ite_false, not_true_eq_false, not_false_eq_true, decide_true, decide_false, decide_eq_true_eq, Bool.false_eq_true, Nat.add_zero, am_rok1_0, am_rok1_1, cond_true, cond_false, am_w_nat1, true_or, or_true, false_or, or_false, true_and, and_true, false_and, and_false, Int.reduceEq, Int.reduceNeg, Int.reduceLT, Int.reduceLE, or_self, and_self, if_pos, if_neg]
theorem tl_01 {D B : Nat → Nat → Int} {y : Nat} (rl : RL D B true O Tc y) : B 1 0 = D 1 0 ∧ B 1 1 = D 1 1 ∧ B 1 6 = D 1 6 ∧ B 1 7 = D 1 7 := by
  have t0 := rl.2.2.2.2.1 0 (by omega) (by omega) (by omega)
  have t1 := rl.2.2.2.2.1 1 (by omega) (by omega) (by omega)
  have t6 := rl.2.2.2.2.1 6 (by omega) (by omega) (by omega)
  have t7 := rl.2.2.2.2.1 7 (by omega) (by omega) (by omega)
  rw [if_pos rfl] at t0 t1 t6 t7
  exact ⟨t0, t1, t6, t7⟩
/-- a trial with another policy: class and model side by side, up to the draws put -/
theorem pol_grow (iv : IV N Z 3) (rl : RL N Ad true (fun _ => 0) 0 8) (bd : BD N n) (hn : n + 610000 < 2147483647) (mr : MR M Ad) (p8 : ∀ j, j < 609 → M 8 j = pack Ad j) {p : Int} (hp : 0 ≤ p ∧ p ≤ 3) {q : Nat} (hq : q ≤ 200) (sd : Int) : am_wr (mv mo (drow M 9 (pack Ad)) g) (mo + 9) 0 420 p = some (mv mo (drow M 9 (pack (dup Ad 0 6 p))) g) ∧ ∃ (d : Nat) (P' T' At' S' M' : Nat → Nat → Int), d ≤ 200 ∧ am_cV 245 [am_R (x + 67), am_I q, am_L sd] (zv x N P K (dup N 0 6 p) S m A h) = some (zv x N P' K T' S' m A h) ∧ am_cI 248 [am_R mo, am_I q, am_L sd] (mv mo (drow M 9 (pack (dup Ad 0 6 p))) g) = some ((d : Int), mv mo (drow M' 9 (pack At')) g) ∧ am_cI 223 [am_R (mo + 8)] (mv mo (drow M' 9 (pack At')) g) = some (am_w (N 1 0 + N 1 1), mv mo (drow M' 9 (pack At')) g) ∧ S' 0 8 = d ∧ am_cI 249 [am_R mo, am_I d, am_I (am_w (N 1 0 + N 1 1))] (mv mo (drow M' 9 (pack At')) g) = some (S' 0 9, mv mo (drow M' 9 (pack At')) g) ∧ (∀ b, am_cI 251 [am_R mo, am_I d, am_I (am_w (N 1 0 + N 1 1)), am_I b] (mv mo (drow M' 9 (pack At')) g) = some (tfd S' b, mv mo (drow M' 9 (pack At')) g)) ∧ SG S S' ∧ MT M (drow M' 9 (pack At')) := by
  have mr' : MR M (dup Ad 0 6 p) := MR_j mr (fun j hj => by rw [dup_t, va_up_ne _ _ (by omega)])
  refine ⟨mw0_6 (m := mo) (M := M) (A := Ad) (h := g) (c := 9) (by omega) p, ?_⟩
  obtain ⟨d, P', T', At', S', M', hd, k1, k2, k3, k4, k5, k6, k7, k8, k9, k10, k11⟩ := t_grow (x := x) (mo := mo) (m := m) (A := A) (N := N) (P := P) (K := K) (T := dup N 0 6 p) (S := S) (h := h) (g := g) hq sd (Int.le_refl 0) (iv_pol iv hp) (rl_pol rl p) (BD_of bd (dup_o _ _ _ (by omega)) (dup_o _ _ _ (by omega)) (dup_o _ _ _ (by omega))) (by omega) mr'
  have mt : MT M (drow M' 9 (pack At')) := MT_trans k7 (MT_9 M' _)
  have t := tl_01 k8
  have u := tl_01 rl
  have a4 := m_appc (mo := mo) (g := g) (M := drow M' 9 (pack At')) (c := 8) (Ad := Ad) (by omega) (by rw [mt.1 8 (by omega) (by omega) (by omega) (by omega)]; exact p8)
  rw [u.1, u.2.1] at a4
  have hZA : At' 0 0 = Z := by rw [k8.1.1]; exact k9.pw.1
  have b1 := m_blocksBy (mo := mo) (M := M') (At := At') (g := g) (am_w (N 1 0 + N 1 1)) d
  have k4' : S' 0 9 = blk (am_w (T' 1 0 + T' 1 1)) (am_w (N 1 0 + N 1 1)) d := by
    rw [k4, dup_o _ _ _ (by omega)]
  rw [t.1, t.2.1, ← k4'] at b1
  refine ⟨d, P', T', At', S', M', hd, k1, k2, a4, k3, b1, fun b => ?_, k6, mt⟩
  have c := m_told (mo := mo) (g := g) k11 hZA ⟨k9.1.2.1, k9.pw.2.1⟩ d (am_w (N 1 0 + N 1 1)) b
  rw [t.1, t.2.1, ← k4', k8.1.2.2.2.1, ← k5] at c
  have ef : tfd S' b = if b = 0 then (d : Int) else if b = 1 then S' 0 9 else S' 0 10 := by unfold tfd; rw [k3]
  rw [ef]
  exact c
theorem tk_growth (w : WR n m N K S HD M) (hn : n + 610000 < 2147483647) (p a sd b : Int) : TK 247 252 [am_I p, am_I a, am_L sd, am_I b] x mo m A N P K T S M h g := by
  have c1 := c_canTry (x := x) (N := N) (P := P) (K := K) (T := T) (S := S) (m := m) (A := A) (h := h) a
  have c2 := c_isPolicy p (zv x N P K T S m A h)
  have mk0 := MK_f M (j := 0) (by omega) 0
  have d1 := m_isIn p 0 3 (mv mo (dup M 0 0 0) g)
  have d2 := m_isIn a 1 200 (mv mo (dup M 0 0 0) g)
  have d3 := m_isIn b 0 2 (mv mo (dup M 0 0 0) g)
  by_cases e : 0 < N 0 0 ∧ 1 ≤ a ∧ a ≤ 200
  · rw [if_pos e] at c1
    rw [if_pos e.2] at d2
    rcases w.2.2.2.2 with w0 | ⟨Z, wd⟩
    · exact absurd w0.2.1.1 (by omega)
    · obtain ⟨Ad, iv, rl, mr, pk, f14, f30, bd, nd, ru, p8⟩ := ctx2 mo wd
      by_cases e2 : 0 ≤ p ∧ p ≤ 3
      · rw [if_pos e2] at c2 d1
        by_cases e3 : 0 ≤ b ∧ b ≤ 2
        · rw [if_pos e3] at d3
          obtain ⟨q, rfl⟩ : ∃ q : Nat, a = q := ⟨a.toNat, by omega⟩
          have cc := m_cpt (mo := mo) (g := g) p8
          have cb := t_beginWith (x := x) (N := N) (P := P) (K := K) (T := T) (S := S) (m := m) (A := A) (h := h) p
          obtain ⟨ww, d, P', T', At', S', M', hd, k1, k2, k3, k4, k5, k6, k7, k8⟩ := pol_grow (x := x) (mo := mo) (m := m) (A := A) (P := P) (K := K) (S := S) (h := h) (g := g) iv rl bd hn mr p8 e2 (q := q) (by omega) sd
          have cf := t_found (x := x) (N := N) (P := P') (K := K) (T := T') (S := S') (m := m) (A := A) (h := h) b
          have k6b := k6 b
          refine ⟨tfd S' b, P', T', S', drow M' 9 (pack At'), ?_, ?_, MK_trans mk0 (MK_MT k8), SG_SK k7⟩
          · rw [am_cI, en_247, bk_247_0]; simp (disch := omega) only [bk_247_28, bk_247_55, zv_c0, zv_f0_4, zv_f0_8, zv_c67, c1, c2, cb, k1, cf, Option.bind_some, Bool.cond_decide, am_oI_some, am_oV_some, am_oI_ite, am_oV_ite, am_bind_ite, Int.toNat_natCast, Int.toNat_zero, Int.reduceToNat, ite_true, ite_false, not_true_eq_false, not_false_eq_true, decide_true, decide_false, decide_eq_true_eq, Bool.false_eq_true, Nat.add_zero, am_rok1_0, am_rok1_1, cond_true, cond_false, am_w_nat1, true_or, or_true, false_or, or_false, true_and, and_true, false_and, and_false, Int.reduceEq, Int.reduceNeg, Int.reduceLT, Int.reduceLE, or_self, and_self, if_pos, if_neg]
          · rw [am_cI, en_252, bk_252_0]; simp (disch := omega) only [bk_252_26, bk_252_51, bk_252_75, mv_p0_0, mv_c0, mv_f0_14, mv_f0_15, mv_f0_16, f14, d1, d2, d3, cc, ww, k2, k3, k6b, Option.bind_some, Bool.cond_decide, am_oI_some, am_oV_some, am_oI_ite, am_oV_ite, am_bind_ite, Int.toNat_natCast, Int.toNat_zero, Int.reduceToNat, ite_true, ite_false, not_true_eq_false, not_false_eq_true, decide_true, decide_false, decide_eq_true_eq, Bool.false_eq_true, Nat.add_zero, am_rok1_0, am_rok1_1, cond_true, cond_false, am_w_nat1, true_or, or_true, false_or, or_false, true_and, and_true, false_and, and_false, Int.reduceEq, Int.reduceNeg, Int.reduceLT, Int.reduceLE, or_self, and_self, if_pos, if_neg]
        · rw [if_neg e3] at d3
          refine ⟨-1, P, T, S, dup M 0 0 0, ?_, ?_, mk0, SK_refl S⟩
          · by_cases e4 : b < 0
            · rw [am_cI, en_247, bk_247_0]; simp (disch := omega) only [bk_247_26, zv_c0, c1, c2, Option.bind_some, Bool.cond_decide, am_oI_some, am_oV_some, am_oI_ite, am_oV_ite, am_bind_ite, Int.toNat_natCast, Int.toNat_zero, Int.reduceToNat, ite_true, ite_false, not_true_eq_false, not_false_eq_true, decide_true, decide_false, decide_eq_true_eq, Bool.false_eq_true, Nat.add_zero, am_rok1_0, am_rok1_1, cond_true, cond_false, am_w_nat1, true_or, or_true, false_or, or_false, true_and, and_true, false_and, and_false, Int.reduceEq, Int.reduceNeg, Int.reduceLT, Int.reduceLE, or_self, and_self, if_pos, if_neg]
            · rw [am_cI, en_247, bk_247_0]; simp (disch := omega) only [bk_247_26, zv_c0, c1, c2, Option.bind_some, Bool.cond_decide, am_oI_some, am_oV_some, am_oI_ite, am_oV_ite, am_bind_ite, Int.toNat_natCast, Int.toNat_zero, Int.reduceToNat, ite_true, ite_false, not_true_eq_false, not_false_eq_true, decide_true, decide_false, decide_eq_true_eq, Bool.false_eq_true, Nat.add_zero, am_rok1_0, am_rok1_1, cond_true, cond_false, am_w_nat1, true_or, or_true, false_or, or_false, true_and, and_true, false_and, and_false, Int.reduceEq, Int.reduceNeg, Int.reduceLT, Int.reduceLE, or_self, and_self, if_pos, if_neg]
          · rw [am_cI, en_252, bk_252_0]; simp (disch := omega) only [bk_252_26, bk_252_49, mv_p0_0, mv_c0, mv_f0_14, f14, d1, d2, d3, Option.bind_some, Bool.cond_decide, am_oI_some, am_oV_some, am_oI_ite, am_oV_ite, am_bind_ite, Int.toNat_natCast, Int.toNat_zero, Int.reduceToNat, ite_true, ite_false, not_true_eq_false, not_false_eq_true, decide_true, decide_false, decide_eq_true_eq, Bool.false_eq_true, Nat.add_zero, am_rok1_0, am_rok1_1, cond_true, cond_false, am_w_nat1, true_or, or_true, false_or, or_false, true_and, and_true, false_and, and_false, Int.reduceEq, Int.reduceNeg, Int.reduceLT, Int.reduceLE, or_self, and_self, if_pos, if_neg]
      · rw [if_neg e2] at c2 d1
        refine ⟨-1, P, T, S, dup M 0 0 0, ?_, ?_, mk0, SK_refl S⟩
        · rw [am_cI, en_247, bk_247_0]; simp (disch := omega) only [bk_247_26, zv_c0, c1, c2, Option.bind_some, Bool.cond_decide, am_oI_some, am_oV_some, am_oI_ite, am_oV_ite, am_bind_ite, Int.toNat_natCast, Int.toNat_zero, Int.reduceToNat, ite_true, ite_false, not_true_eq_false, not_false_eq_true, decide_true, decide_false, decide_eq_true_eq, Bool.false_eq_true, Nat.add_zero, am_rok1_0, am_rok1_1, cond_true, cond_false, am_w_nat1, true_or, or_true, false_or, or_false, true_and, and_true, false_and, and_false, Int.reduceEq, Int.reduceNeg, Int.reduceLT, Int.reduceLE, or_self, and_self, if_pos, if_neg]
        · rw [am_cI, en_252, bk_252_0]; simp (disch := omega) only [bk_252_49, mv_p0_0, mv_c0, mv_f0_14, f14, d1, Option.bind_some, Bool.cond_decide, am_oI_some, am_oV_some, am_oI_ite, am_oV_ite, am_bind_ite, Int.toNat_natCast, Int.toNat_zero, Int.reduceToNat, ite_true, ite_false, not_true_eq_false, not_false_eq_true, decide_true, decide_false, decide_eq_true_eq, Bool.false_eq_true, Nat.add_zero, am_rok1_0, am_rok1_1, cond_true, cond_false, am_w_nat1, true_or, or_true, false_or, or_false, true_and, and_true, false_and, and_false, Int.reduceEq, Int.reduceNeg, Int.reduceLT, Int.reduceLE, or_self, and_self, if_pos, if_neg]
  · rw [if_neg e] at c1
    refine ⟨-1, P, T, S, dup M 0 0 0, ?_, ?_, mk0, SK_refl S⟩
    · rw [am_cI, en_247, bk_247_0]; simp (disch := omega) only [bk_247_26, zv_c0, c1, Option.bind_some, Bool.cond_decide, am_oI_some, am_oV_some, am_oI_ite, am_oV_ite, am_bind_ite, Int.toNat_natCast, Int.toNat_zero, Int.reduceToNat, ite_true, ite_false, not_true_eq_false, not_false_eq_true, decide_true, decide_false, decide_eq_true_eq, Bool.false_eq_true, Nat.add_zero, am_rok1_0, am_rok1_1, cond_true, cond_false, am_w_nat1, true_or, or_true, false_or, or_false, true_and, and_true, false_and, and_false, Int.reduceEq, Int.reduceNeg, Int.reduceLT, Int.reduceLE, or_self, and_self, if_pos, if_neg]
    · rcases w.2.2.2.2 with w0 | ⟨Z, wd⟩
      · have f14 : dup M 0 0 0 0 14 = 0 := by rw [dup_t, va_up_ne _ _ (by omega)]; exact w0.1
        rw [am_cI, en_252, bk_252_0]; simp (disch := omega) only [bk_252_49, mv_p0_0, mv_c0, mv_f0_14, f14, Option.bind_some, Bool.cond_decide, am_oI_some, am_oV_some, am_oI_ite, am_oV_ite, am_bind_ite, Int.toNat_natCast, Int.toNat_zero, Int.reduceToNat, ite_true, ite_false, not_true_eq_false, not_false_eq_true, decide_true, decide_false, decide_eq_true_eq, Bool.false_eq_true, Nat.add_zero, am_rok1_0, am_rok1_1, cond_true, cond_false, am_w_nat1, true_or, or_true, false_or, or_false, true_and, and_true, false_and, and_false, Int.reduceEq, Int.reduceNeg, Int.reduceLT, Int.reduceLE, or_self, and_self, if_pos, if_neg]
      · obtain ⟨Ad, iv, rl, mr, pk, f14, f30, bd, nd, ru, p8⟩ := ctx2 mo wd
        have hN : 0 < N 0 0 := by have := iv.pw.1; have := iv.1.2.1; omega
        rw [if_neg (fun q => e ⟨hN, q⟩)] at d2
        by_cases e2 : 0 ≤ p ∧ p ≤ 3
        · rw [if_pos e2] at d1
          rw [am_cI, en_252, bk_252_0]; simp (disch := omega) only [bk_252_26, bk_252_49, mv_p0_0, mv_c0, mv_f0_14, f14, d1, d2, Option.bind_some, Bool.cond_decide, am_oI_some, am_oV_some, am_oI_ite, am_oV_ite, am_bind_ite, Int.toNat_natCast, Int.toNat_zero, Int.reduceToNat, ite_true, ite_false, not_true_eq_false, not_false_eq_true, decide_true, decide_false, decide_eq_true_eq, Bool.false_eq_true, Nat.add_zero, am_rok1_0, am_rok1_1, cond_true, cond_false, am_w_nat1, true_or, or_true, false_or, or_false, true_and, and_true, false_and, and_false, Int.reduceEq, Int.reduceNeg, Int.reduceLT, Int.reduceLE, or_self, and_self, if_pos, if_neg]
        · rw [if_neg e2] at d1
          rw [am_cI, en_252, bk_252_0]; simp (disch := omega) only [bk_252_49, mv_p0_0, mv_c0, mv_f0_14, f14, d1, Option.bind_some, Bool.cond_decide, am_oI_some, am_oV_some, am_oI_ite, am_oV_ite, am_bind_ite, Int.toNat_natCast, Int.toNat_zero, Int.reduceToNat, ite_true, ite_false, not_true_eq_false, not_false_eq_true, decide_true, decide_false, decide_eq_true_eq, Bool.false_eq_true, Nat.add_zero, am_rok1_0, am_rok1_1, cond_true, cond_false, am_w_nat1, true_or, or_true, false_or, or_false, true_and, and_true, false_and, and_false, Int.reduceEq, Int.reduceNeg, Int.reduceLT, Int.reduceLE, or_self, and_self, if_pos, if_neg]
/-- the lead of a contest -/
def tlq (S : Nat → Nat → Int) : Bool := decide (¬ (S 0 8 < S 0 11 ∨ (S 0 8 = S 0 11 ∧ S 0 12 ≤ S 0 9)))
def tlS (S : Nat → Nat → Int) : Nat → Nat → Int := if tlq S = true then dup (dup S 0 11 (S 0 8)) 0 12 (S 0 9) else S
theorem t_lead : am_cI 254 [am_R (x + 67)] (zv x N P K T S m A h) = some (if tlq S = true then 1 else 0, zv x N P K T (tlS S) m A h) := by
  have e9 : dup S 0 11 (S 0 8) 0 9 = S 0 9 := by rw [dup_t, va_up_ne _ _ (by omega)]
  unfold tlS
  by_cases e1 : S 0 8 < S 0 11
  · have hq : tlq S = false := decide_eq_false (fun q => q (Or.inl e1))
    rw [hq, if_neg (by decide), if_neg (by decide), am_cI]; simp (disch := omega) only [en_254, bk_254_0, bk_254_30, bk_254_33, bk_254_35, zv_f67_3, zv_f67_6, Option.bind_some, Bool.cond_decide, am_oI_some, am_oV_some, am_oI_ite, am_oV_ite, am_bind_ite, Int.toNat_natCast, Int.toNat_zero, Int.reduceToNat, ite_true, ite_false, not_true_eq_false, not_false_eq_true, decide_true, decide_false, decide_eq_true_eq, Bool.false_eq_true, Nat.add_zero, am_rok1_0, am_rok1_1, cond_true, cond_false, am_w_nat1, true_or, or_true, false_or, or_false, true_and, and_true, false_and, and_false, Int.reduceEq, Int.reduceNeg, Int.reduceLT, Int.reduceLE, or_self, and_self, if_pos, if_neg]
  · by_cases e2 : S 0 8 = S 0 11
    · by_cases e3 : S 0 12 ≤ S 0 9
      · have hq : tlq S = false := decide_eq_false (fun q => q (Or.inr ⟨e2, e3⟩))
        rw [hq, if_neg (by decide), if_neg (by decide), am_cI]; simp (disch := omega) only [en_254, bk_254_0, bk_254_30, bk_254_33, bk_254_35, zv_f67_3, zv_f67_4, zv_f67_6, zv_f67_7, Option.bind_some, Bool.cond_decide, am_oI_some, am_oV_some, am_oI_ite, am_oV_ite, am_bind_ite, Int.toNat_natCast, Int.toNat_zero, Int.reduceToNat, ite_true, ite_false, not_true_eq_false, not_false_eq_true, decide_true, decide_false, decide_eq_true_eq, Bool.false_eq_true, Nat.add_zero, am_rok1_0, am_rok1_1, cond_true, cond_false, am_w_nat1, true_or, or_true, false_or, or_false, true_and, and_true, false_and, and_false, Int.reduceEq, Int.reduceNeg, Int.reduceLT, Int.reduceLE, or_self, and_self, if_pos, if_neg]
      · have hq : tlq S = true := decide_eq_true (fun q => q.elim e1 (fun t => e3 t.2))
        rw [hq, if_pos rfl, if_pos rfl, am_cI]; simp (disch := omega) only [en_254, bk_254_0, bk_254_30, bk_254_33, bk_254_35, zv_f67_3, zv_f67_4, zv_f67_6, zv_f67_7, zv_p67_6, zv_p67_7, e9, Option.bind_some, Bool.cond_decide, am_oI_some, am_oV_some, am_oI_ite, am_oV_ite, am_bind_ite, Int.toNat_natCast, Int.toNat_zero, Int.reduceToNat, ite_true, ite_false, not_true_eq_false, not_false_eq_true, decide_true, decide_false, decide_eq_true_eq, Bool.false_eq_true, Nat.add_zero, am_rok1_0, am_rok1_1, cond_true, cond_false, am_w_nat1, true_or, or_true, false_or, or_false, true_and, and_true, false_and, and_false, Int.reduceEq, Int.reduceNeg, Int.reduceLT, Int.reduceLE, or_self, and_self, if_pos, if_neg]
    · have hq : tlq S = true := decide_eq_true (fun q => q.elim e1 (fun t => e2 t.1))
      rw [hq, if_pos rfl, if_pos rfl, am_cI]; simp (disch := omega) only [en_254, bk_254_0, bk_254_30, bk_254_33, bk_254_35, zv_f67_3, zv_f67_4, zv_f67_6, zv_f67_7, zv_p67_6, zv_p67_7, e9, Option.bind_some, Bool.cond_decide, am_oI_some, am_oV_some, am_oI_ite, am_oV_ite, am_bind_ite, Int.toNat_natCast, Int.toNat_zero, Int.reduceToNat, ite_true, ite_false, not_true_eq_false, not_false_eq_true, decide_true, decide_false, decide_eq_true_eq, Bool.false_eq_true, Nat.add_zero, am_rok1_0, am_rok1_1, cond_true, cond_false, am_w_nat1, true_or, or_true, false_or, or_false, true_and, and_true, false_and, and_false, Int.reduceEq, Int.reduceNeg, Int.reduceLT, Int.reduceLE, or_self, and_self, if_pos, if_neg]
theorem tlS_SK (S : Nat → Nat → Int) : SK S (tlS S) := by
  unfold tlS
  split
  · exact SK_trans (SK_f S (by omega) _) (SK_f _ (by omega) _)
  · exact SK_refl S
theorem best_loop (iv : IV N Z 3) (rl : RL N Ad true (fun _ => 0) 0 8) (bd : BD N n) (hn : n + 610000 < 2147483647) {M0 S0 : Nat → Nat → Int} (mr : MR M0 Ad) (p8 : ∀ j, j < 609 → M0 8 j = pack Ad j) {q : Nat} (hq : q ≤ 200) (sd : Int) : ∀ (r p : Nat) (P T S M : Nat → Nat → Int) (bc bm ms ls : Int) (v8 v9 : am_V), r + p = 4 → ((p = 0 ∧ bm = -1 ∧ S 0 11 = -1) ∨ (bc = bm ∧ ¬ bm = -1 ∧ S 0 11 = ms ∧ S 0 12 = ls)) → MT M0 M → SK S0 S → ∃ (v : Int) (P' T' S' M' : Nat → Nat → Int), am_run am_ms 255 23 [am_R x, am_I q, am_L sd, am_K 1, am_I bc, am_I p] [] (zv x N P K T S m A h) = some (some (am_I v), zv x N P' K T' S' m A h) ∧ am_run am_ms 256 38 [am_R mo, am_I q, am_L sd, am_K 1, am_I bm, am_I ms, am_I ls, am_I p, v8, v9] [] (mv mo M g) = some (some (am_I v), mv mo M' g) ∧ MT M0 M' ∧ SK S0 S' := by
  intro r
  induction r with
  | zero =>
    intro p P T S M bc bm ms ls v8 v9 hp inv mt sk
    have hp4 : p = 4 := by omega
    rcases inv with i | i
    · omega
    · refine ⟨bm, P, T, S, M, ?_, ?_, mt, sk⟩
      · rw [i.1, bk_255_23]; simp (disch := omega) only [bk_255_71, Option.bind_some, Bool.cond_decide, am_oI_some, am_oV_some, am_oI_ite, am_oV_ite, am_bind_ite, Int.toNat_natCast, Int.toNat_zero, Int.reduceToNat, ite_true, ite_false, not_true_eq_false, not_false_eq_true, decide_true, decide_false, decide_eq_true_eq, Bool.false_eq_true, Nat.add_zero, am_rok1_0, am_rok1_1, cond_true, cond_false, am_w_nat1, true_or, or_true, false_or, or_false, true_and, and_true, false_and, and_false, Int.reduceEq, Int.reduceNeg, Int.reduceLT, Int.reduceLE, or_self, and_self, if_pos, if_neg]
      · rw [bk_256_38]; simp (disch := omega) only [bk_256_138, Option.bind_some, Bool.cond_decide, am_oI_some, am_oV_some, am_oI_ite, am_oV_ite, am_bind_ite, Int.toNat_natCast, Int.toNat_zero, Int.reduceToNat, ite_true, ite_false, not_true_eq_false, not_false_eq_true, decide_true, decide_false, decide_eq_true_eq, Bool.false_eq_true, Nat.add_zero, am_rok1_0, am_rok1_1, cond_true, cond_false, am_w_nat1, true_or, or_true, false_or, or_false, true_and, and_true, false_and, and_false, Int.reduceEq, Int.reduceNeg, Int.reduceLT, Int.reduceLE, or_self, and_self, if_pos, if_neg]
  | succ r ih =>
    intro p P T S M bc bm ms ls v8 v9 hp inv mt sk
    have cc := m_cpt (mo := mo) (g := g) (M := M) (Ad := Ad) (by rw [mt.1 8 (by omega) (by omega) (by omega) (by omega)]; exact p8)
    have cb := t_beginWith (x := x) (N := N) (P := P) (K := K) (T := T) (S := S) (m := m) (A := A) (h := h) p
    obtain ⟨ww, d, P1, T1, At1, S1, M1, hd, k1, k2, k3, k4, k5, k6, k7, k8⟩ := pol_grow (x := x) (mo := mo) (m := m) (A := A) (P := P) (K := K) (S := S) (h := h) (g := g) iv rl bd hn (MT_MR mt mr) (by rw [mt.1 8 (by omega) (by omega) (by omega) (by omega)]; exact p8) (p := (p : Int)) (by omega) hq sd
    have cl := t_lead (x := x) (N := N) (P := P1) (K := K) (T := T1) (S := S1) (m := m) (A := A) (h := h)
    have mt1 := MT_trans mt k8
    have sk1 : SK S0 (tlS S1) := SK_trans (SK_trans sk (SG_SK k7)) (tlS_SK S1)
    have h11 : S1 0 11 = S 0 11 := k7.2 11 (by omega) (by omega) (by omega) (by omega)
    have h12 : S1 0 12 = S 0 12 := k7.2 12 (by omega) (by omega) (by omega) (by omega)
    generalize hbl : S1 0 9 = bl at k5
    have mcase : (tlq S1 = true ∧ (bm = -1 ∨ ¬ (d : Int) < ms ∧ (¬ (d : Int) = ms ∨ bl < ls))) ∨ (tlq S1 = false ∧ ¬ bm = -1 ∧ bc = bm ∧ (S 0 11 = ms ∧ S 0 12 = ls) ∧ ((d : Int) < ms ∨ ((d : Int) = ms ∧ ls ≤ bl))) := by
      cases et : tlq S1 with
      | true =>
        left
        have hq := of_decide_eq_true (et : decide _ = true)
        refine ⟨rfl, ?_⟩
        rcases inv with i | i
        · exact Or.inl i.2.1
        · right
          rw [k4, h11, h12, hbl, i.2.2.1, i.2.2.2] at hq
          omega
      | false =>
        right
        have hq := of_decide_eq_false (et : decide _ = false)
        rw [k4, h11, h12, hbl] at hq
        rcases inv with i | i
        · omega
        · rw [i.2.2.1, i.2.2.2] at hq
          exact ⟨rfl, i.2.1, i.1, i.2.2, by omega⟩
    clear inv hn
    rcases mcase with ⟨et, hc⟩ | ⟨et, hb1, hb2, hb3, hc⟩
    · have eS : tlS S1 = dup (dup S1 0 11 (d : Int)) 0 12 bl := by unfold tlS; rw [if_pos et, k4, hbl]
      rw [et, if_pos rfl] at cl
      have j11 : tlS S1 0 11 = (d : Int) := by rw [eS, dup_t, va_up_ne _ _ (by omega), dup_t, va_up_self]
      have j12 : tlS S1 0 12 = bl := by rw [eS, dup_t, va_up_self]
      obtain ⟨v, P2, T2, S2, M2, l1, l2, l3, l4⟩ := ih (p + 1) P1 T1 (tlS S1) (drow M1 9 (pack At1)) (p : Int) (p : Int) (d : Int) bl (am_I d) (am_I bl) (by omega) (Or.inr ⟨rfl, by omega, j11, j12⟩) mt1 sk1
      refine ⟨v, P2, T2, S2, M2, ?_, ?_, l3, l4⟩
      · rw [bk_255_23]; simp (disch := omega) only [bk_255_51, bk_255_65, zv_c0, zv_f0_4, zv_f0_8, zv_c67, cb, k1, cl, l1, Option.bind_some, Bool.cond_decide, am_oI_some, am_oV_some, am_oI_ite, am_oV_ite, am_bind_ite, Int.toNat_natCast, Int.toNat_zero, Int.reduceToNat, ite_true, ite_false, not_true_eq_false, not_false_eq_true, decide_true, decide_false, decide_eq_true_eq, Bool.false_eq_true, Nat.add_zero, am_rok1_0, am_rok1_1, cond_true, cond_false, am_w_nat1, true_or, or_true, false_or, or_false, true_and, and_true, false_and, and_false, Int.reduceEq, Int.reduceNeg, Int.reduceLT, Int.reduceLE, or_self, and_self, if_pos, if_neg]
      · rcases hc with hc | hc
        · rw [bk_256_38]; simp (disch := omega) only [bk_256_66, bk_256_92, bk_256_120, bk_256_132, mv_c0, mv_f0_15, mv_f0_16, cc, ww, k2, k3, k5, l2, hc, Option.bind_some, Bool.cond_decide, am_oI_some, am_oV_some, am_oI_ite, am_oV_ite, am_bind_ite, Int.toNat_natCast, Int.toNat_zero, Int.reduceToNat, ite_true, ite_false, not_true_eq_false, not_false_eq_true, decide_true, decide_false, decide_eq_true_eq, Bool.false_eq_true, Nat.add_zero, am_rok1_0, am_rok1_1, cond_true, cond_false, am_w_nat1, true_or, or_true, false_or, or_false, true_and, and_true, false_and, and_false, Int.reduceEq, Int.reduceNeg, Int.reduceLT, Int.reduceLE, or_self, and_self, if_pos, if_neg]
        · by_cases hm1 : bm = -1
          · rw [bk_256_38]; simp (disch := omega) only [bk_256_66, bk_256_92, bk_256_120, bk_256_132, mv_c0, mv_f0_15, mv_f0_16, cc, ww, k2, k3, k5, l2, hm1, Option.bind_some, Bool.cond_decide, am_oI_some, am_oV_some, am_oI_ite, am_oV_ite, am_bind_ite, Int.toNat_natCast, Int.toNat_zero, Int.reduceToNat, ite_true, ite_false, not_true_eq_false, not_false_eq_true, decide_true, decide_false, decide_eq_true_eq, Bool.false_eq_true, Nat.add_zero, am_rok1_0, am_rok1_1, cond_true, cond_false, am_w_nat1, true_or, or_true, false_or, or_false, true_and, and_true, false_and, and_false, Int.reduceEq, Int.reduceNeg, Int.reduceLT, Int.reduceLE, or_self, and_self, if_pos, if_neg]
          · by_cases hm2 : (d : Int) = ms
            · rw [bk_256_38]; simp (disch := omega) only [bk_256_66, bk_256_92, bk_256_120, bk_256_132, mv_c0, mv_f0_15, mv_f0_16, cc, ww, k2, k3, k5, l2, Option.bind_some, Bool.cond_decide, am_oI_some, am_oV_some, am_oI_ite, am_oV_ite, am_bind_ite, Int.toNat_natCast, Int.toNat_zero, Int.reduceToNat, ite_true, ite_false, not_true_eq_false, not_false_eq_true, decide_true, decide_false, decide_eq_true_eq, Bool.false_eq_true, Nat.add_zero, am_rok1_0, am_rok1_1, cond_true, cond_false, am_w_nat1, true_or, or_true, false_or, or_false, true_and, and_true, false_and, and_false, Int.reduceEq, Int.reduceNeg, Int.reduceLT, Int.reduceLE, or_self, and_self, if_pos, if_neg]
            · rw [bk_256_38]; simp (disch := omega) only [bk_256_66, bk_256_92, bk_256_120, bk_256_132, mv_c0, mv_f0_15, mv_f0_16, cc, ww, k2, k3, k5, l2, Option.bind_some, Bool.cond_decide, am_oI_some, am_oV_some, am_oI_ite, am_oV_ite, am_bind_ite, Int.toNat_natCast, Int.toNat_zero, Int.reduceToNat, ite_true, ite_false, not_true_eq_false, not_false_eq_true, decide_true, decide_false, decide_eq_true_eq, Bool.false_eq_true, Nat.add_zero, am_rok1_0, am_rok1_1, cond_true, cond_false, am_w_nat1, true_or, or_true, false_or, or_false, true_and, and_true, false_and, and_false, Int.reduceEq, Int.reduceNeg, Int.reduceLT, Int.reduceLE, or_self, and_self, if_pos, if_neg]
    · have eS : tlS S1 = S1 := by unfold tlS; rw [et, if_neg (by decide)]
      rw [et, if_neg (by decide), eS] at cl
      rw [eS] at sk1
      obtain ⟨v, P2, T2, S2, M2, l1, l2, l3, l4⟩ := ih (p + 1) P1 T1 S1 (drow M1 9 (pack At1)) bc bm ms ls (am_I d) (am_I bl) (by omega) (Or.inr ⟨hb2, hb1, h11.trans hb3.1, h12.trans hb3.2⟩) mt1 sk1
      refine ⟨v, P2, T2, S2, M2, ?_, ?_, l3, l4⟩
      · rw [bk_255_23]; simp (disch := omega) only [bk_255_51, bk_255_65, zv_c0, zv_f0_4, zv_f0_8, zv_c67, cb, k1, cl, l1, Option.bind_some, Bool.cond_decide, am_oI_some, am_oV_some, am_oI_ite, am_oV_ite, am_bind_ite, Int.toNat_natCast, Int.toNat_zero, Int.reduceToNat, ite_true, ite_false, not_true_eq_false, not_false_eq_true, decide_true, decide_false, decide_eq_true_eq, Bool.false_eq_true, Nat.add_zero, am_rok1_0, am_rok1_1, cond_true, cond_false, am_w_nat1, true_or, or_true, false_or, or_false, true_and, and_true, false_and, and_false, Int.reduceEq, Int.reduceNeg, Int.reduceLT, Int.reduceLE, or_self, and_self, if_pos, if_neg]
      · rcases hc with hc | hc
        · rw [bk_256_38]; simp (disch := omega) only [bk_256_66, bk_256_92, bk_256_132, mv_c0, mv_f0_15, mv_f0_16, cc, ww, k2, k3, k5, l2, Option.bind_some, Bool.cond_decide, am_oI_some, am_oV_some, am_oI_ite, am_oV_ite, am_bind_ite, Int.toNat_natCast, Int.toNat_zero, Int.reduceToNat, ite_true, ite_false, not_true_eq_false, not_false_eq_true, decide_true, decide_false, decide_eq_true_eq, Bool.false_eq_true, Nat.add_zero, am_rok1_0, am_rok1_1, cond_true, cond_false, am_w_nat1, true_or, or_true, false_or, or_false, true_and, and_true, false_and, and_false, Int.reduceEq, Int.reduceNeg, Int.reduceLT, Int.reduceLE, or_self, and_self, if_pos, if_neg]
        · rw [bk_256_38]; simp (disch := omega) only [bk_256_66, bk_256_92, bk_256_132, mv_c0, mv_f0_15, mv_f0_16, cc, ww, k2, k3, k5, l2, Option.bind_some, Bool.cond_decide, am_oI_some, am_oV_some, am_oI_ite, am_oV_ite, am_bind_ite, Int.toNat_natCast, Int.toNat_zero, Int.reduceToNat, ite_true, ite_false, not_true_eq_false, not_false_eq_true, decide_true, decide_false, decide_eq_true_eq, Bool.false_eq_true, Nat.add_zero, am_rok1_0, am_rok1_1, cond_true, cond_false, am_w_nat1, true_or, or_true, false_or, or_false, true_and, and_true, false_and, and_false, Int.reduceEq, Int.reduceNeg, Int.reduceLT, Int.reduceLE, or_self, and_self, if_pos, if_neg]
theorem t_contest : am_cV 253 [am_R (x + 67)] (zv x N P K T S m A h) = some (zv x N P K T (dup (dup S 0 11 (-1)) 0 12 0) m A h) := by
  rw [am_cV]; simp (disch := omega) only [en_253, bk_253_0, zv_p67_6, zv_p67_7, Option.bind_some, Bool.cond_decide, am_oI_some, am_oV_some, am_oI_ite, am_oV_ite, am_bind_ite, Int.toNat_natCast, Int.toNat_zero, Int.reduceToNat, ite_true, ite_false, not_true_eq_false, not_false_eq_true, decide_true, decide_false, decide_eq_true_eq, Bool.false_eq_true, Nat.add_zero, am_rok1_0, am_rok1_1, cond_true, cond_false, am_w_nat1, true_or, or_true, false_or, or_false, true_and, and_true, false_and, and_false, Int.reduceEq, Int.reduceNeg, Int.reduceLT, Int.reduceLE, or_self, and_self, if_pos, if_neg]
theorem tk_best (w : WR n m N K S HD M) (hn : n + 610000 < 2147483647) (a sd : Int) : TK 255 256 [am_I a, am_L sd] x mo m A N P K T S M h g := by
  have c1 := c_canTry (x := x) (N := N) (P := P) (K := K) (T := T) (S := S) (m := m) (A := A) (h := h) a
  have mk0 := MK_f M (j := 0) (by omega) 0
  have d2 := m_isIn a 1 200 (mv mo (dup M 0 0 0) g)
  by_cases e : 0 < N 0 0 ∧ 1 ≤ a ∧ a ≤ 200
  · rw [if_pos e] at c1
    rw [if_pos e.2] at d2
    rcases w.2.2.2.2 with w0 | ⟨Z, wd⟩
    · exact absurd w0.2.1.1 (by omega)
    · obtain ⟨Ad, iv, rl, mr, pk, f14, f30, bd, nd, ru, p8⟩ := ctx2 mo wd
      obtain ⟨q, rfl⟩ : ∃ q : Nat, a = q := ⟨a.toNat, by omega⟩
      have cb := t_contest (x := x) (N := N) (P := P) (K := K) (T := T) (S := S) (m := m) (A := A) (h := h)
      have j11 : dup (dup S 0 11 (-1)) 0 12 0 0 11 = -1 := by rw [dup_t, va_up_ne _ _ (by omega), dup_t, va_up_self]
      obtain ⟨v, P2, T2, S2, M2, l1, l2, l3, l4⟩ := best_loop (x := x) (mo := mo) (m := m) (A := A) (K := K) (h := h) (g := g) iv rl bd hn (M0 := dup M 0 0 0) (S0 := S) mr p8 (q := q) (by omega) sd 4 0 P T (dup (dup S 0 11 (-1)) 0 12 0) (dup M 0 0 0) 0 (-1) 0 0 (am_K 1) (am_K 1) rfl (Or.inl ⟨rfl, rfl, j11⟩) (MT_refl _) (SK_trans (SK_f S (by omega) _) (SK_f _ (by omega) _))
      have l1' : am_run am_ms 255 23 [am_R x, am_I q, am_L sd, am_K 1, am_I 0, am_I 0] [] (zv x N P K T (dup (dup S 0 11 (-1)) 0 12 0) m A h) = some (some (am_I v), zv x N P2 K T2 S2 m A h) := l1
      have l2' : am_run am_ms 256 38 [am_R mo, am_I q, am_L sd, am_K 1, am_I (-1), am_I 0, am_I 0, am_I 0, am_K 1, am_K 1] [] (mv mo (dup M 0 0 0) g) = some (some (am_I v), mv mo M2 g) := l2
      refine ⟨v, P2, T2, S2, M2, ?_, ?_, MK_trans mk0 (MK_MT l3), l4⟩
      · rw [am_cI, en_255, bk_255_0]; simp (disch := omega) only [bk_255_10, zv_c0, zv_f0_8, zv_c67, c1, cb, l1', Option.bind_some, Bool.cond_decide, am_oI_some, am_oV_some, am_oI_ite, am_oV_ite, am_bind_ite, Int.toNat_natCast, Int.toNat_zero, Int.reduceToNat, ite_true, ite_false, not_true_eq_false, not_false_eq_true, decide_true, decide_false, decide_eq_true_eq, Bool.false_eq_true, Nat.add_zero, am_rok1_0, am_rok1_1, cond_true, cond_false, am_w_nat1, true_or, or_true, false_or, or_false, true_and, and_true, false_and, and_false, Int.reduceEq, Int.reduceNeg, Int.reduceLT, Int.reduceLE, or_self, and_self, if_pos, if_neg]
      · rw [am_cI, en_256, bk_256_0]; simp (disch := omega) only [bk_256_26, mv_p0_0, mv_c0, mv_f0_14, f14, d2, l2', Option.bind_some, Bool.cond_decide, am_oI_some, am_oV_some, am_oI_ite, am_oV_ite, am_bind_ite, Int.toNat_natCast, Int.toNat_zero, Int.reduceToNat, ite_true, ite_false, not_true_eq_false, not_false_eq_true, decide_true, decide_false, decide_eq_true_eq, Bool.false_eq_true, Nat.add_zero, am_rok1_0, am_rok1_1, cond_true, cond_false, am_w_nat1, true_or, or_true, false_or, or_false, true_and, and_true, false_and, and_false, Int.reduceEq, Int.reduceNeg, Int.reduceLT, Int.reduceLE, or_self, and_self, if_pos, if_neg]
  · rw [if_neg e] at c1
    refine ⟨-1, P, T, S, dup M 0 0 0, ?_, ?_, mk0, SK_refl S⟩
    · rw [am_cI, en_255, bk_255_0]; simp (disch := omega) only [zv_c0, c1, Option.bind_some, Bool.cond_decide, am_oI_some, am_oV_some, am_oI_ite, am_oV_ite, am_bind_ite, Int.toNat_natCast, Int.toNat_zero, Int.reduceToNat, ite_true, ite_false, not_true_eq_false, not_false_eq_true, decide_true, decide_false, decide_eq_true_eq, Bool.false_eq_true, Nat.add_zero, am_rok1_0, am_rok1_1, cond_true, cond_false, am_w_nat1, true_or, or_true, false_or, or_false, true_and, and_true, false_and, and_false, Int.reduceEq, Int.reduceNeg, Int.reduceLT, Int.reduceLE, or_self, and_self, if_pos, if_neg]
    · rcases w.2.2.2.2 with w0 | ⟨Z, wd⟩
      · have f14 : dup M 0 0 0 0 14 = 0 := by rw [dup_t, va_up_ne _ _ (by omega)]; exact w0.1
        rw [am_cI, en_256, bk_256_0]; simp (disch := omega) only [bk_256_24, mv_p0_0, mv_c0, mv_f0_14, f14, Option.bind_some, Bool.cond_decide, am_oI_some, am_oV_some, am_oI_ite, am_oV_ite, am_bind_ite, Int.toNat_natCast, Int.toNat_zero, Int.reduceToNat, ite_true, ite_false, not_true_eq_false, not_false_eq_true, decide_true, decide_false, decide_eq_true_eq, Bool.false_eq_true, Nat.add_zero, am_rok1_0, am_rok1_1, cond_true, cond_false, am_w_nat1, true_or, or_true, false_or, or_false, true_and, and_true, false_and, and_false, Int.reduceEq, Int.reduceNeg, Int.reduceLT, Int.reduceLE, or_self, and_self, if_pos, if_neg]
      · obtain ⟨Ad, iv, rl, mr, pk, f14, f30, bd, nd, ru, p8⟩ := ctx2 mo wd
        have hN : 0 < N 0 0 := by have := iv.pw.1; have := iv.1.2.1; omega
        rw [if_neg (fun q => e ⟨hN, q⟩)] at d2
        rw [am_cI, en_256, bk_256_0]; simp (disch := omega) only [bk_256_24, mv_p0_0, mv_c0, mv_f0_14, f14, d2, Option.bind_some, Bool.cond_decide, am_oI_some, am_oV_some, am_oI_ite, am_oV_ite, am_bind_ite, Int.toNat_natCast, Int.toNat_zero, Int.reduceToNat, ite_true, ite_false, not_true_eq_false, not_false_eq_true, decide_true, decide_false, decide_eq_true_eq, Bool.false_eq_true, Nat.add_zero, am_rok1_0, am_rok1_1, cond_true, cond_false, am_w_nat1, true_or, or_true, false_or, or_false, true_and, and_true, false_and, and_false, Int.reduceEq, Int.reduceNeg, Int.reduceLT, Int.reduceLE, or_self, and_self, if_pos, if_neg]
end BEST
