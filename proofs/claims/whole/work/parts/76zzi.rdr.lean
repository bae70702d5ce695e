/-! ===== reading a drive ===== -/
def rus (k : Nat) : Int := [4, 8, 2, 3, 1, 1, 0].getD k 0
theorem zv_cp2 {x : Nat} {N P K T S : Nat → Nat → Int} {m : Nat} {A : Nat → Nat} {h : am_H} : am_cpy (zv x N P K T S m A h) (am_K 3) 0 (x + 4) 0 7 = some (zv x N P K T (drow S 2 rus) m A h) := by
  unfold am_cpy
  show (if (am_kar 3).1 = 0 then am_cp (zv x N P K T S m A h) (fun j => (am_kar 3).2.getD j 0) (am_kar 3).2.length 0 (x + 4) 0 7 else none) = _
  rw [if_pos (show (am_kar 3).1 = 0 from rfl)]
  unfold am_cp
  rw [zv_in (i := 4) (by omega)]
  show (if 0 = 0 ∧ (0 : Int) ≤ 0 ∧ (0 : Int) ≤ 0 ∧ (0 : Int) ≤ 7 ∧ (0 : Int) + 7 ≤ (7 : Nat) ∧ (0 : Int) + 7 ≤ (7 : Nat) then some (am_set _ _ (am_ar 0 7 (va_cpy rus (cut 7 (S 2)) 0 0 7))) else none) = _
  refine Eq.trans (if_pos ⟨rfl, by omega, by omega, by omega, by decide, by omega⟩) ?_
  congr 1
  refine zv_s2 rus ?_
  congr 3
  funext q
  unfold va_cpy cut
  by_cases a : q < 7
  · rw [if_pos a, if_pos (by omega)]; congr 1; omega
  · rw [if_neg a, if_neg (by omega), if_neg a]
theorem m_usu (h : am_H) {l : Nat} (hl : l < 7) : am_cI 41 [am_I l] h = some (rus l, h) := by
  rcases (show l = 0 ∨ l = 1 ∨ l = 2 ∨ l = 3 ∨ l = 4 ∨ l = 5 ∨ l = 6 by omega) with e | e | e | e | e | e | e <;> subst e <;> rw [am_cI, en_41, bk_41_0, bk_41_1]
  · exact congrArg am_oI (bk_41_44 _ h)
  · exact congrArg am_oI (bk_41_46 _ h)
  · exact congrArg am_oI (bk_41_49 _ h)
  · exact congrArg am_oI (bk_41_51 _ h)
  · exact congrArg am_oI (bk_41_55 _ h)
  · exact congrArg am_oI (bk_41_55 _ h)
  · exact congrArg am_oI (bk_41_53 _ h)
section RDR
variable {x mo m : Nat} {A : Nat → Nat} {N P K T S : Nat → Nat → Int} {M : Nat → Nat → Int} {h g : am_H} {L : Int} {f : Nat → Int} {a : Nat}
theorem t_end (tf : TF L f) (ct : CT S L f) (ha : (a : Int) ≤ L) (h5 : S 0 5 = a) : am_cI 31 [am_R (x + 3)] (zv x N P K T S m A h) = some (if chr L f (skp L f a) = 0 then 1 else 0, zv x N P K T (dup S 0 5 (skp L f a)) m A h) := by
  have u := u_c (x := x) (N := N) (P := P) (K := K) (T := T) (m := m) (A := A) (h := h) tf ct ha h5
  by_cases e : chr L f (skp L f a) = 0
  · rw [if_pos e, am_cI]; simp only [en_31, bk_31_0, bk_31_11, bk_31_12, zv_c3, u, e, Option.bind_some, Bool.cond_decide, am_oI_some, am_oV_some, am_oI_ite, am_oV_ite, am_bind_ite, Int.toNat_natCast, Int.toNat_zero, Int.reduceToNat, ite_true, ite_false, not_true_eq_false, not_false_eq_true, decide_true, decide_false, decide_eq_true_eq, Bool.false_eq_true, Nat.add_zero, am_rok1_0, am_rok1_1, cond_true, cond_false, am_w_nat1, true_or, or_true, false_or, or_false, true_and, and_true, false_and, and_false, Int.reduceEq, Int.reduceNeg, Int.reduceLT, Int.reduceLE, or_self, and_self]
  · rw [if_neg e, am_cI]; simp only [en_31, bk_31_0, bk_31_11, bk_31_12, zv_c3, u, e, Option.bind_some, Bool.cond_decide, am_oI_some, am_oV_some, am_oI_ite, am_oV_ite, am_bind_ite, Int.toNat_natCast, Int.toNat_zero, Int.reduceToNat, ite_true, ite_false, not_true_eq_false, not_false_eq_true, decide_true, decide_false, decide_eq_true_eq, Bool.false_eq_true, Nat.add_zero, am_rok1_0, am_rok1_1, cond_true, cond_false, am_w_nat1, true_or, or_true, false_or, or_false, true_and, and_true, false_and, and_false, Int.reduceEq, Int.reduceNeg, Int.reduceLT, Int.reduceLE, or_self, and_self]
theorem t_takes (tf : TF L f) (ct : CT S L f) (ha : (a : Int) ≤ L) (h5 : S 0 5 = a) : am_cI 32 [am_R (x + 3), am_I 59] (zv x N P K T S m A h) = some (if chr L f (skp L f a) = 59 then 1 else 0, zv x N P K T (dup S 0 5 (if chr L f (skp L f a) = 59 then ((skp L f a + 1 : Nat) : Int) else (skp L f a : Int))) m A h) := by
  have h240 := tf.1
  have u := u_c (x := x) (N := N) (P := P) (K := K) (T := T) (m := m) (A := A) (h := h) tf ct ha h5
  have hb := skp_r (f := f) ha
  by_cases e : chr L f (skp L f a) = 59
  · rw [if_pos e, if_pos e, am_cI]
    rw [e] at u
    generalize skp L f a = b at u hb ⊢
    have s5 : dup S 0 5 (b : Int) 0 5 = b := by rw [dup_t, va_up_self]
    have hbq : b < 2147483647 := by omega
    simp only [en_32, bk_32_0, bk_32_10, zv_c3, u, zv_f3_8, s5, zv_p3_8, am_w_nat1 hbq, dup_dup, Option.bind_some, Bool.cond_decide, am_oI_some, am_oV_some, am_oI_ite, am_oV_ite, am_bind_ite, Int.toNat_natCast, Int.toNat_zero, Int.reduceToNat, ite_true, ite_false, not_true_eq_false, not_false_eq_true, decide_true, decide_false, decide_eq_true_eq, Bool.false_eq_true, Nat.add_zero, am_rok1_0, am_rok1_1, cond_true, cond_false, am_w_nat1, true_or, or_true, false_or, or_false, true_and, and_true, false_and, and_false, Int.reduceEq, Int.reduceNeg, Int.reduceLT, Int.reduceLE, or_self, and_self]
  · rw [if_neg e, if_neg e, am_cI]; simp only [en_32, bk_32_0, bk_32_10, zv_c3, u, e, Option.bind_some, Bool.cond_decide, am_oI_some, am_oV_some, am_oI_ite, am_oV_ite, am_bind_ite, Int.toNat_natCast, Int.toNat_zero, Int.reduceToNat, ite_true, ite_false, not_true_eq_false, not_false_eq_true, decide_true, decide_false, decide_eq_true_eq, Bool.false_eq_true, Nat.add_zero, am_rok1_0, am_rok1_1, cond_true, cond_false, am_w_nat1, true_or, or_true, false_or, or_false, true_and, and_true, false_and, and_false, Int.reduceEq, Int.reduceNeg, Int.reduceLT, Int.reduceLE, or_self, and_self]
/-- the model's end, where something is wrong already -/
theorem rd_m0 (h4 : ¬ M 0 4 = -1) : am_run am_ms 57 36 [am_R mo, am_I 0] [] (mv mo M g) = some (none, mv mo M g) := by
  rw [bk_57_36]
  simp only [bk_57_92, bk_57_112, mv_f0_4, h4, Option.bind_some, Bool.cond_decide, am_oI_some, am_oV_some, am_oI_ite, am_oV_ite, am_bind_ite, Int.toNat_natCast, Int.toNat_zero, Int.reduceToNat, ite_true, ite_false, not_true_eq_false, not_false_eq_true, decide_true, decide_false, decide_eq_true_eq, Bool.false_eq_true, Nat.add_zero, am_rok1_0, am_rok1_1, cond_true, cond_false, am_w_nat1, true_or, or_true, false_or, or_false, true_and, and_true, false_and, and_false, Int.reduceEq, Int.reduceNeg, Int.reduceLT, Int.reduceLE, or_self, and_self]
theorem rd_m1 (tf : TF L f) (mt : MTp M L f) (h4 : M 0 4 = -1) (ha : (a : Int) ≤ L) (h3 : M 0 3 = a) : am_run am_ms 57 36 [am_R mo, am_I 0] [] (mv mo M g) = some (none, mv mo (dup (dup M 0 3 (skp L f a)) 0 4 (if chr L f (skp L f a) = 0 then -1 else (skp L f a : Int))) g) := by
  have l := l_m (mo := mo) (g := g) tf mt ha h3
  have q := chm_end (L := L) (f := f) (a := skp L f a) tf
  rw [bk_57_36]
  have k4 : dup M 0 3 (skp L f a : Int) 0 4 = -1 := by rw [dup_t, va_up_ne _ _ (by omega)]; exact h4
  by_cases e : chr L f (skp L f a) = 0
  · rw [if_pos e, dup_at _ k4]
    rw [q.mpr e] at l
    simp only [bk_57_92, bk_57_112, mv_f0_4, h4, mv_c0, l, Option.bind_some, Bool.cond_decide, am_oI_some, am_oV_some, am_oI_ite, am_oV_ite, am_bind_ite, Int.toNat_natCast, Int.toNat_zero, Int.reduceToNat, ite_true, ite_false, not_true_eq_false, not_false_eq_true, decide_true, decide_false, decide_eq_true_eq, Bool.false_eq_true, Nat.add_zero, am_rok1_0, am_rok1_1, cond_true, cond_false, am_w_nat1, true_or, or_true, false_or, or_false, true_and, and_true, false_and, and_false, Int.reduceEq, Int.reduceNeg, Int.reduceLT, Int.reduceLE, or_self, and_self]
  · rw [if_neg e]
    have e' : ¬ chm L f (skp L f a) = -1 := fun z => e (q.mp z)
    have fl := m_fails (mo := mo) (g := g) k4 (b := (skp L f a : Int)) (by rw [dup_t, va_up_self])
    simp only [bk_57_92, bk_57_112, mv_f0_4, h4, mv_c0, l, e', fl, Option.bind_some, Bool.cond_decide, am_oI_some, am_oV_some, am_oI_ite, am_oV_ite, am_bind_ite, Int.toNat_natCast, Int.toNat_zero, Int.reduceToNat, ite_true, ite_false, not_true_eq_false, not_false_eq_true, decide_true, decide_false, decide_eq_true_eq, Bool.false_eq_true, Nat.add_zero, am_rok1_0, am_rok1_1, cond_true, cond_false, am_w_nat1, true_or, or_true, false_or, or_false, true_and, and_true, false_and, and_false, Int.reduceEq, Int.reduceNeg, Int.reduceLT, Int.reduceLE, or_self, and_self]
theorem rd_loop (tf : TF L f) : ∀ (k c a : Nat) (S M : Nat → Nat → Int), c + k = 25 → (c : Int) = S 0 4 + S 0 3 → PS S M L f a → DRd S M → ∃ v S' M', am_run am_ms 33 36 [am_R (x + 3), am_I c] [] (zv x N P K T S m A h) = some (some (am_I v), zv x N P K T S' m A h) ∧ am_run am_ms 57 36 [am_R mo, am_I 1] [] (mv mo M g) = some (none, mv mo M' g) ∧ M' 0 4 = v ∧ ((SF S S' ∧ MX M M') ∧ CT S' L f ∧ MTp M' L f) ∧ (v = -1 → DRd S' M') := by
  have h240 := tf.1
  intro k
  induction k with
  | zero =>
    intro c a S M hk hc ps dr
    obtain ⟨S1, M1, r1, r2, fr, rest⟩ := rc_all (x := x) (mo := mo) (m := m) (A := A) (N := N) (P := P) (K := K) (T := T) (h := h) (g := g) tf ps dr
    have hc25 : ¬ (25 : Int) < (c : Int) := by omega
    have f4 := ps.2.1.2
    rcases rest with ⟨q1, q2⟩ | ⟨_, ⟨dr1, hs⟩⟩
    · have q3 : ¬ S1 0 6 = -1 := by omega
      have q4 : ¬ M1 0 4 = -1 := by omega
      have rz := rd_m0 (mo := mo) (g := g) q4
      refine ⟨S1 0 6, S1, M1, ?_, ?_, q2, fr, fun e => absurd e q3⟩
      · rw [bk_33_36]; simp only [hc25, zv_c3, r1, zv_f3_9, q3, Option.bind_some, Bool.cond_decide, am_oI_some, am_oV_some, am_oI_ite, am_oV_ite, am_bind_ite, Int.toNat_natCast, Int.toNat_zero, Int.reduceToNat, ite_true, ite_false, not_true_eq_false, not_false_eq_true, decide_true, decide_false, decide_eq_true_eq, Bool.false_eq_true, Nat.add_zero, am_rok1_0, am_rok1_1, cond_true, cond_false, am_w_nat1, true_or, or_true, false_or, or_false, true_and, and_true, false_and, and_false, Int.reduceEq, Int.reduceNeg, Int.reduceLT, Int.reduceLE, or_self, and_self]
      · rw [bk_57_36]; simp only [mv_f0_4, f4, mv_c0, r2, q4, bk_57_73, bk_57_74, rz, Int.one_ne_zero, Option.bind_some, Bool.cond_decide, am_oI_some, am_oV_some, am_oI_ite, am_oV_ite, am_bind_ite, Int.toNat_natCast, Int.toNat_zero, Int.reduceToNat, ite_true, ite_false, not_true_eq_false, not_false_eq_true, decide_true, decide_false, decide_eq_true_eq, Bool.false_eq_true, Nat.add_zero, am_rok1_0, am_rok1_1, cond_true, cond_false, am_w_nat1, true_or, or_true, false_or, or_false, true_and, and_true, false_and, and_false, Int.reduceEq, Int.reduceNeg, Int.reduceLT, Int.reduceLE, or_self, and_self]
    · exfalso
      obtain ⟨⟨d1, _⟩, ⟨d3, d4, _⟩, _⟩ := dr1
      omega
  | succ k ih =>
    intro c a S M hk hc ps dr
    obtain ⟨S1, M1, r1, r2, ⟨⟨sf, mx⟩, ct1, mt1⟩, rest⟩ := rc_all (x := x) (mo := mo) (m := m) (A := A) (N := N) (P := P) (K := K) (T := T) (h := h) (g := g) tf ps dr
    have hc25 : ¬ (25 : Int) < (c : Int) := by omega
    have f4 := ps.2.1.2
    rcases rest with ⟨q1, q2⟩ | ⟨⟨a1, ps1⟩, ⟨dr1, hs⟩⟩
    · have q3 : ¬ S1 0 6 = -1 := by omega
      have q4 : ¬ M1 0 4 = -1 := by omega
      have rz := rd_m0 (mo := mo) (g := g) q4
      refine ⟨S1 0 6, S1, M1, ?_, ?_, q2, ⟨⟨sf, mx⟩, ct1, mt1⟩, fun e => absurd e q3⟩
      · rw [bk_33_36]; simp only [hc25, zv_c3, r1, zv_f3_9, q3, Option.bind_some, Bool.cond_decide, am_oI_some, am_oV_some, am_oI_ite, am_oV_ite, am_bind_ite, Int.toNat_natCast, Int.toNat_zero, Int.reduceToNat, ite_true, ite_false, not_true_eq_false, not_false_eq_true, decide_true, decide_false, decide_eq_true_eq, Bool.false_eq_true, Nat.add_zero, am_rok1_0, am_rok1_1, cond_true, cond_false, am_w_nat1, true_or, or_true, false_or, or_false, true_and, and_true, false_and, and_false, Int.reduceEq, Int.reduceNeg, Int.reduceLT, Int.reduceLE, or_self, and_self]
      · rw [bk_57_36]; simp only [mv_f0_4, f4, mv_c0, r2, q4, bk_57_73, bk_57_74, rz, Int.one_ne_zero, Option.bind_some, Bool.cond_decide, am_oI_some, am_oV_some, am_oI_ite, am_oV_ite, am_bind_ite, Int.toNat_natCast, Int.toNat_zero, Int.reduceToNat, ite_true, ite_false, not_true_eq_false, not_false_eq_true, decide_true, decide_false, decide_eq_true_eq, Bool.false_eq_true, Nat.add_zero, am_rok1_0, am_rok1_1, cond_true, cond_false, am_w_nat1, true_or, or_true, false_or, or_false, true_and, and_true, false_and, and_false, Int.reduceEq, Int.reduceNeg, Int.reduceLT, Int.reduceLE, or_self, and_self]
    · obtain ⟨_, ⟨w6, w4⟩, ha1, h51, h31⟩ := ps1
      have te := t_end (x := x) (N := N) (P := P) (K := K) (T := T) (m := m) (A := A) (h := h) tf ct1 ha1 h51
      have l := l_m (mo := mo) (g := g) tf mt1 ha1 h31
      have hb := skp_r (f := f) ha1
      have ss := skp_skp tf a1
      have q1 := chm_eq (L := L) (f := f) (a := skp L f a1) (c := 59) (by omega)
      have hin := chr_in (L := L) (f := f) (a := skp L f a1)
      generalize skp L f a1 = b at te l hb ss q1 hin
      have ct2 : CT (dup S1 0 5 (b : Int)) L f := CT_f ct1 (by omega) _
      have s5 : dup S1 0 5 (b : Int) 0 5 = b := by rw [dup_t, va_up_self]
      have tt := t_takes (x := x) (N := N) (P := P) (K := K) (T := T) (m := m) (A := A) (h := h) tf ct2 hb.2 s5
      rw [ss, dup_dup] at tt
      have k4 : dup M1 0 3 (b : Int) 0 4 = -1 := by rw [dup_t, va_up_ne _ _ (by omega)]; exact w4
      have k3 : dup M1 0 3 (b : Int) 0 3 = b := by rw [dup_t, va_up_self]
      have rz := rd_m1 (mo := mo) (g := g) tf (MTp_f mt1 (j := 3) (by omega) (b : Int)) k4 hb.2 k3
      rw [ss, dup_dup] at rz
      by_cases e0 : chr L f b = 0
      · rw [if_pos e0] at te rz
        have e59 : ¬ chm L f b = 59 := fun z => by have := q1.mp z; omega
        refine ⟨-1, dup S1 0 5 (b : Int), dup (dup M1 0 3 (b : Int)) 0 4 (-1), ?_, ?_, by rw [dup_t, va_up_self], ⟨⟨SF_trans sf (SF_f _ (by omega) _), MX_trans mx (MX_trans (MX_f _ (by omega) _) (MX_f _ (by omega) _))⟩, ct2, MTp_f (MTp_f mt1 (by omega) _) (by omega) _⟩, fun _ => ?_⟩
        · rw [bk_33_36]; simp only [hc25, zv_c3, r1, zv_f3_9, w6, bk_33_59, te, Int.one_ne_zero, Option.bind_some, Bool.cond_decide, am_oI_some, am_oV_some, am_oI_ite, am_oV_ite, am_bind_ite, Int.toNat_natCast, Int.toNat_zero, Int.reduceToNat, ite_true, ite_false, not_true_eq_false, not_false_eq_true, decide_true, decide_false, decide_eq_true_eq, Bool.false_eq_true, Nat.add_zero, am_rok1_0, am_rok1_1, cond_true, cond_false, am_w_nat1, true_or, or_true, false_or, or_false, true_and, and_true, false_and, and_false, Int.reduceEq, Int.reduceNeg, Int.reduceLT, Int.reduceLE, or_self, and_self]
        · rw [bk_57_36]; simp only [mv_f0_4, f4, mv_c0, r2, w4, l, e59, bk_57_64, bk_57_73, bk_57_74, rz, Int.one_ne_zero, Option.bind_some, Bool.cond_decide, am_oI_some, am_oV_some, am_oI_ite, am_oV_ite, am_bind_ite, Int.toNat_natCast, Int.toNat_zero, Int.reduceToNat, ite_true, ite_false, not_true_eq_false, not_false_eq_true, decide_true, decide_false, decide_eq_true_eq, Bool.false_eq_true, Nat.add_zero, am_rok1_0, am_rok1_1, cond_true, cond_false, am_w_nat1, true_or, or_true, false_or, or_false, true_and, and_true, false_and, and_false, Int.reduceEq, Int.reduceNeg, Int.reduceLT, Int.reduceLE, or_self, and_self]
        · unfold DRd RUk at dr1 ⊢
          simp (disch := omega) only [dup_t, dup_o, va_up_ne]
          exact dr1
      · rw [if_neg e0] at te rz
        by_cases e59 : chr L f b = 59
        · rw [if_pos e59, if_pos e59] at tt
          have hbL := (hin e0).1
          have e59' := q1.mpr e59
          rw [e59'] at l
          obtain ⟨⟨d1, _⟩, ⟨d3, d4, _⟩, _⟩ := id dr1
          have ps2 : PS (dup S1 0 5 ((b + 1 : Nat) : Int)) (dup M1 0 3 ((b + 1 : Nat) : Int)) L f (b + 1) := ⟨⟨CT_f ct1 (by omega) _, MTp_f mt1 (by omega) _⟩, ⟨by rw [dup_t, va_up_ne _ _ (by omega)]; exact w6, by rw [dup_t, va_up_ne _ _ (by omega)]; exact w4⟩, by omega, by rw [dup_t, va_up_self], by rw [dup_t, va_up_self]⟩
          have dr2 : DRd (dup S1 0 5 ((b + 1 : Nat) : Int)) (dup M1 0 3 ((b + 1 : Nat) : Int)) := by
            unfold DRd RUk at dr1 ⊢
            simp (disch := omega) only [dup_t, dup_o, va_up_ne]
            exact dr1
          obtain ⟨v, S', M', u1, u2, u3, ⟨⟨u4, u5⟩, u6⟩, u7⟩ := ih (c + 1) (b + 1) (dup S1 0 5 ((b + 1 : Nat) : Int)) (dup M1 0 3 ((b + 1 : Nat) : Int)) (by omega) (by
            rw [dup_t, va_up_ne _ _ (by omega), va_up_ne _ _ (by omega)]
            omega) ps2 dr2
          have hcq : c < 2147483647 := by omega
          have hbq : b < 2147483647 := by omega
          refine ⟨v, S', M', ?_, ?_, u3, ⟨⟨SF_trans sf (SF_trans (SF_f _ (by omega) _) u4), MX_trans mx (MX_trans (MX_f _ (by omega) _) u5)⟩, u6⟩, u7⟩
          · rw [bk_33_36]; simp only [hc25, zv_c3, r1, zv_f3_9, w6, bk_33_59, bk_33_68, bk_33_82, te, tt, am_w_nat1 hcq, u1, Int.one_ne_zero, Option.bind_some, Bool.cond_decide, am_oI_some, am_oV_some, am_oI_ite, am_oV_ite, am_bind_ite, Int.toNat_natCast, Int.toNat_zero, Int.reduceToNat, ite_true, ite_false, not_true_eq_false, not_false_eq_true, decide_true, decide_false, decide_eq_true_eq, Bool.false_eq_true, Nat.add_zero, am_rok1_0, am_rok1_1, cond_true, cond_false, am_w_nat1, true_or, or_true, false_or, or_false, true_and, and_true, false_and, and_false, Int.reduceEq, Int.reduceNeg, Int.reduceLT, Int.reduceLE, or_self, and_self]
          · rw [bk_57_36]; simp only [mv_f0_4, f4, mv_c0, r2, w4, l, bk_57_64, bk_57_74, mv_f0_3, k3, am_w_nat1 hbq, mv_p0_3, dup_dup, u2, Int.one_ne_zero, Option.bind_some, Bool.cond_decide, am_oI_some, am_oV_some, am_oI_ite, am_oV_ite, am_bind_ite, Int.toNat_natCast, Int.toNat_zero, Int.reduceToNat, ite_true, ite_false, not_true_eq_false, not_false_eq_true, decide_true, decide_false, decide_eq_true_eq, Bool.false_eq_true, Nat.add_zero, am_rok1_0, am_rok1_1, cond_true, cond_false, am_w_nat1, true_or, or_true, false_or, or_false, true_and, and_true, false_and, and_false, Int.reduceEq, Int.reduceNeg, Int.reduceLT, Int.reduceLE, or_self, and_self]
        · rw [if_neg e59, if_neg e59] at tt
          have e59' : ¬ chm L f b = 59 := fun z => e59 (q1.mp z)
          refine ⟨b, dup S1 0 5 (b : Int), dup (dup M1 0 3 (b : Int)) 0 4 (b : Int), ?_, ?_, by rw [dup_t, va_up_self], ⟨⟨SF_trans sf (SF_f _ (by omega) _), MX_trans mx (MX_trans (MX_f _ (by omega) _) (MX_f _ (by omega) _))⟩, ct2, MTp_f (MTp_f mt1 (by omega) _) (by omega) _⟩, fun z => absurd z (by omega)⟩
          · rw [bk_33_36]; simp only [hc25, zv_c3, r1, zv_f3_9, w6, bk_33_59, bk_33_68, te, tt, zv_f3_8, s5, Option.bind_some, Bool.cond_decide, am_oI_some, am_oV_some, am_oI_ite, am_oV_ite, am_bind_ite, Int.toNat_natCast, Int.toNat_zero, Int.reduceToNat, ite_true, ite_false, not_true_eq_false, not_false_eq_true, decide_true, decide_false, decide_eq_true_eq, Bool.false_eq_true, Nat.add_zero, am_rok1_0, am_rok1_1, cond_true, cond_false, am_w_nat1, true_or, or_true, false_or, or_false, true_and, and_true, false_and, and_false, Int.reduceEq, Int.reduceNeg, Int.reduceLT, Int.reduceLE, or_self, and_self]
          · rw [bk_57_36]; simp only [mv_f0_4, f4, mv_c0, r2, w4, l, e59', bk_57_64, bk_57_73, bk_57_74, rz, Int.one_ne_zero, Option.bind_some, Bool.cond_decide, am_oI_some, am_oV_some, am_oI_ite, am_oV_ite, am_bind_ite, Int.toNat_natCast, Int.toNat_zero, Int.reduceToNat, ite_true, ite_false, not_true_eq_false, not_false_eq_true, decide_true, decide_false, decide_eq_true_eq, Bool.false_eq_true, Nat.add_zero, am_rok1_0, am_rok1_1, cond_true, cond_false, am_w_nat1, true_or, or_true, false_or, or_false, true_and, and_true, false_and, and_false, Int.reduceEq, Int.reduceNeg, Int.reduceLT, Int.reduceLE, or_self, and_self]
def ruf (R : Nat → Int) (k : Nat) : Nat → Int := fun j => if j < k then rus j else R j
theorem ruf_up (R : Nat → Int) (k : Nat) : va_up (ruf R k) k (rus k) = ruf R (k + 1) := by
  funext j
  by_cases e : j = k
  · subst e
    rw [va_up_self]
    exact (if_pos (by omega)).symm
  · rw [va_up_ne _ _ e]
    unfold ruf
    by_cases e2 : j < k
    · rw [if_pos e2, if_pos (by omega)]
    · rw [if_neg e2, if_neg (by omega)]
theorem ruf_0 (R : Nat → Int) : ruf R 0 = R := funext (fun j => if_neg (by omega))
/-- a drive is read alike -/
theorem rd_all (tf : TF L f) (ct : CT S L f) (mt : MTp M L f) (h3 : M 0 3 = 0) (h4 : M 0 4 = -1) : ∃ v S' M', am_cI 33 [am_R (x + 3)] (zv x N P K T S m A h) = some (v, zv x N P K T S' m A h) ∧ am_cV 57 [am_R mo] (mv mo M g) = some (mv mo M' g) ∧ M' 0 4 = v ∧ ((SF S S' ∧ MX M M') ∧ CT S' L f ∧ MTp M' L f) ∧ (v = -1 → DRd S' M') := by
  have h240 := tf.1
  have lp : ∀ k : Nat, k < 7 → am_run am_ms 57 2 [am_R mo, am_I k] [] (mv mo (drow M 2 (ruf (M 2) k)) g) = am_run am_ms 57 2 [am_R mo, am_I ((k + 1 : Nat) : Int)] [] (mv mo (drow M 2 (ruf (M 2) (k + 1))) g) := by
    intro k hk
    have us := m_usu (mv mo (drow M 2 (ruf (M 2) k)) g) hk
    have w2 := mv_w2 (m := mo) (M := drow M 2 (ruf (M 2) k)) (h := g) (j := (k : Int)) (rus k) (by omega) (by omega)
    rw [Int.toNat_natCast, dup_drow, ruf_up] at w2
    rw [bk_57_2]
    simp (disch := omega) only [mv_f0_5, us, w2, Option.bind_some, Bool.cond_decide, am_oI_some, am_oV_some, am_oI_ite, am_oV_ite, am_bind_ite, Int.toNat_natCast, Int.toNat_zero, Int.reduceToNat, ite_true, ite_false, not_true_eq_false, not_false_eq_true, decide_true, decide_false, decide_eq_true_eq, Bool.false_eq_true, Nat.add_zero, am_rok1_0, am_rok1_1, cond_true, cond_false, am_w_nat1, true_or, or_true, false_or, or_false, true_and, and_true, false_and, and_false, Int.reduceEq, Int.reduceNeg, Int.reduceLT, Int.reduceLE, or_self, and_self, if_pos, if_neg]
  have key := loop_to (fun k : Nat => am_run am_ms 57 2 [am_R mo, am_I k] [] (mv mo (drow M 2 (ruf (M 2) k)) g)) 7 lp
  have key' : am_run am_ms 57 2 [am_R mo, am_I 0] [] (mv mo (drow M 2 (ruf (M 2) 0)) g) = am_run am_ms 57 2 [am_R mo, am_I 7] [] (mv mo (drow M 2 (ruf (M 2) 7)) g) := key
  rw [ruf_0, drow_self] at key'
  have dM : MX M (dup (dup (drow M 2 (ruf (M 2) 7)) 0 11 0) 0 13 0) := MX_trans (MX_trans (⟨fun q h => drow_o _ _ (by omega), fun i _ => by rw [drow_o _ _ (by omega)], fun i _ => by rw [drow_o _ _ (by omega)], fun i _ => by rw [drow_o _ _ (by omega)]⟩) (MX_f _ (j := 11) (by omega) 0)) (MX_f _ (j := 13) (by omega) 0)
  have dS : SF S (drow (dup (dup (dup (dup S 0 5 0) 0 6 (-1)) 0 3 0) 0 4 0) 2 rus) := SF_trans (SF_trans (SF_trans (SF_trans (SF_f S (by omega) _) (SF_f _ (by omega) _)) (SF_f _ (by omega) _)) (SF_f _ (by omega) _)) ⟨fun i h => by rw [drow_o _ _ (by omega)], fun q h => drow_o _ _ (by omega)⟩
  have ct1 : CT (drow (dup (dup (dup (dup S 0 5 0) 0 6 (-1)) 0 3 0) 0 4 0) 2 rus) L f := by
    have := CT_f (CT_f (CT_f (CT_f ct (j := 5) (by omega) 0) (j := 6) (by omega) (-1)) (j := 3) (by omega) 0) (j := 4) (by omega) 0
    exact ⟨by rw [drow_o _ _ (by omega)]; exact this.1, by rw [drow_o _ _ (by omega)]; exact this.2⟩
  have mt1 : MTp (dup (dup (drow M 2 (ruf (M 2) 7)) 0 11 0) 0 13 0) L f := by
    refine MTp_f (MTp_f ⟨?_, fun i hi => ?_⟩ (by omega) _) (by omega) _
    · rw [drow_o _ _ (by omega)]; exact mt.1
    · rw [drow_o _ _ (by omega)]; exact mt.2 i hi
  obtain ⟨v, S', M', r1, r2, r3, ⟨⟨r4, r5⟩, r6⟩, r7⟩ := rd_loop (x := x) (mo := mo) (m := m) (A := A) (N := N) (P := P) (K := K) (T := T) (h := h) (g := g) tf 25 0 0 (drow (dup (dup (dup (dup S 0 5 0) 0 6 (-1)) 0 3 0) 0 4 0) 2 rus) (dup (dup (drow M 2 (ruf (M 2) 7)) 0 11 0) 0 13 0) (by omega) (by
      simp (disch := omega) only [drow_o, dup_t, va_up_ne, va_up_self]
      rfl) ⟨⟨ct1, mt1⟩, ⟨by simp (disch := omega) only [drow_o, dup_t, va_up_ne, va_up_self], by simp (disch := omega) only [drow_o, dup_t, va_up_ne, va_up_self]; exact h4⟩, by omega, by simp (disch := omega) only [drow_o, dup_t, va_up_ne, va_up_self]; rfl, by simp (disch := omega) only [drow_o, dup_t, va_up_ne, va_up_self]; exact h3⟩ (by
      unfold DRd RUk
      simp (disch := omega) only [drow_o, drow_t, dup_t, dup_o, va_up_ne, va_up_self]
      refine ⟨⟨Or.inl (by first | exact trivial | rfl), (by first | exact trivial | rfl)⟩, ⟨by omega, by omega, (by first | exact trivial | rfl)⟩, fun k hk => ⟨(if_pos hk).symm, ?_⟩, fun i hi => absurd hi (by omega)⟩
      rcases (show k = 0 ∨ k = 1 ∨ k = 2 ∨ k = 3 ∨ k = 4 ∨ k = 5 ∨ k = 6 by omega) with e | e | e | e | e | e | e <;> subst e <;> decide)
  refine ⟨v, S', M', ?_, ?_, r3, ⟨⟨SF_trans dS r4, MX_trans dM r5⟩, r6⟩, r7⟩
  · have r1' : am_run am_ms 33 36 [am_R (x + 3), am_I 0] [] (zv x N P K T (drow (dup (dup (dup (dup S 0 5 0) 0 6 (-1)) 0 3 0) 0 4 0) 2 rus) m A h) = some (some (am_I v), zv x N P K T S' m A h) := r1
    rw [am_cI]
    simp only [en_33, bk_33_0, bk_33_24, zv_p3_8, zv_p3_9, zv_p3_3, zv_p3_7, zv_f3_0, zv_cp2, r1', Option.bind_some, Bool.cond_decide, am_oI_some, am_oV_some, am_oI_ite, am_oV_ite, am_bind_ite, Int.toNat_natCast, Int.toNat_zero, Int.reduceToNat, ite_true, ite_false, not_true_eq_false, not_false_eq_true, decide_true, decide_false, decide_eq_true_eq, Bool.false_eq_true, Nat.add_zero, am_rok1_0, am_rok1_1, cond_true, cond_false, am_w_nat1, true_or, or_true, false_or, or_false, true_and, and_true, false_and, and_false, Int.reduceEq, Int.reduceNeg, Int.reduceLT, Int.reduceLE, or_self, and_self]
  · rw [am_cV, en_57, bk_57_0, key', bk_57_2]
    simp (disch := omega) only [bk_57_24, mv_p0_11, mv_p0_13, r2, Option.bind_some, Bool.cond_decide, am_oI_some, am_oV_some, am_oI_ite, am_oV_ite, am_bind_ite, Int.toNat_natCast, Int.toNat_zero, Int.reduceToNat, ite_true, ite_false, not_true_eq_false, not_false_eq_true, decide_true, decide_false, decide_eq_true_eq, Bool.false_eq_true, Nat.add_zero, am_rok1_0, am_rok1_1, cond_true, cond_false, am_w_nat1, true_or, or_true, false_or, or_false, true_and, and_true, false_and, and_false, Int.reduceEq, Int.reduceNeg, Int.reduceLT, Int.reduceLE, or_self, and_self, if_pos, if_neg]
end RDR
