/-! ===== gone ===== -/
theorem sm_has {N : Nat → Nat → Int} {Z : Nat} (w : PW N Z) : sm (N 3) Z = (cnt (cd_has N) 128 : Int) := by
  have hZ := w.2.1
  have key : ∀ z, z ≤ Z → sm (N 3) z = (cnt (pr N) (16 * z) : Int) := by
    intro z
    induction z with
    | zero => intro _; rfl
    | succ z ih =>
      intro hz
      have h3 := w.2.2 z (by omega)
      have e1 : cnt (fun i => pr N (16 * z + i)) 16 = (N 3 z).toNat := by
        have h1 : cnt (fun i => pr N (16 * z + i)) 16 = cnt (fun i => decide (i < (N 3 z).toNat) && true) 16 := cnt_congr (fun i hi => by
          rw [pr_at hi, Bool.and_true]
          exact decide_eq_decide.mpr (by omega))
        rw [h1, cnt_cut (Q := fun _ => true) (n := (N 3 z).toNat) (m := 16) (by omega)]
        have h2 : ∀ k, cnt (fun _ => true) k = k := by
          intro k
          induction k with
          | zero => rfl
          | succ k ih => unfold cnt; rw [ih]; rfl
        exact h2 _
      show sm (N 3) z + N 3 z = _
      rw [ih (by omega), show 16 * (z + 1) = 16 * z + 16 by omega, cnt_app, e1]
      omega
  rw [key Z (Nat.le_refl Z), show 128 = 16 * Z + (128 - 16 * Z) by omega, cnt_app, cnt_zero (P := fun i => cd_has N (16 * Z + i)) (fun j _ => by
    rw [← has_pr w, decide_eq_false (show ¬ 16 * Z + j < 16 * Z by omega)]; rfl), Nat.add_zero]
  refine congrArg (fun n : Nat => (n : Int)) (cnt_congr (fun p hp => ?_))
  rw [← has_pr w, decide_eq_true (show p < 16 * Z by omega), Bool.true_and]
/-- a number is some block's -/
def gq (N : Nat → Nat → Int) (v : Int) (p : Nat) : Bool := cd_has N p && decide (N 9 p = v)
def gv (N : Nat → Nat → Int) (n : Nat) (v : Int) : Bool := decide (0 < cnt (gq N v) n)
theorem gv_succ (N : Nat → Nat → Int) (n : Nat) (v : Int) : gv N (n + 1) v = (gv N n v || gq N v n) := by
  unfold gv
  show decide (0 < cnt (gq N v) n + if gq N v n = true then 1 else 0) = _
  cases e : gq N v n with
  | true => rw [if_pos rfl, Bool.or_true]; exact decide_eq_true (by omega)
  | false => rw [if_neg (by decide), Bool.or_false, Nat.add_zero]
theorem gv_cnt {N : Nat → Nat → Int} (nd : ND N) {L : Nat} (hL : ∀ p, p < 128 → cd_has N p = true → 1 ≤ N 9 p ∧ N 9 p ≤ L) : ∀ n, n ≤ 128 → cnt (fun u => gv N n ((u + 1 : Nat) : Int)) L = cnt (cd_has N) n := by
  intro n
  induction n with
  | zero =>
    intro _
    exact cnt_zero (fun j _ => decide_eq_false (by show ¬ 0 < 0; omega))
  | succ n ih =>
    intro hn
    have ih := ih (by omega)
    cases e : cd_has N n with
    | false =>
      have e1 : cnt (cd_has N) (n + 1) = cnt (cd_has N) n := by
        show cnt (cd_has N) n + (if cd_has N n = true then 1 else 0) = _
        rw [e]
        rfl
      rw [e1, ← ih]
      refine cnt_congr (fun u _ => ?_)
      rw [gv_succ]
      unfold gq
      rw [e, Bool.false_and, Bool.or_false]
    | true =>
      have hr := hL n (by omega) e
      have e1 : cnt (cd_has N) (n + 1) = cnt (cd_has N) n + 1 := by
        show cnt (cd_has N) n + (if cd_has N n = true then 1 else 0) = _
        rw [e]
        rfl
      rw [e1, ← ih]
      refine cnt_add1 (q := (N 9 n - 1).toNat) (by omega) (fun u hu hne => ?_) ?_ ?_
      · rw [gv_succ]
        unfold gq
        rw [decide_eq_false (show ¬ N 9 n = ((u + 1 : Nat) : Int) by omega), Bool.and_false, Bool.or_false]
      · rw [gv_succ]
        unfold gq
        rw [e, decide_eq_true (show N 9 n = (((N 9 n - 1).toNat + 1 : Nat) : Int) by omega)]
        rw [Bool.and_self, Bool.or_true]
      · unfold gv
        refine decide_eq_false (fun q => ?_)
        obtain ⟨p, hp, hq⟩ := cnt_pos.mp q
        unfold gq at hq
        rw [Bool.and_eq_true] at hq
        have h9 := of_decide_eq_true hq.2
        have := nd p n (by omega) (by omega) hq.1 e (by omega)
        omega
theorem cnt_not (P : Nat → Bool) (n : Nat) : cnt (fun u => !(P u)) n + cnt P n = n := by
  induction n with
  | zero => rfl
  | succ n ih =>
    unfold cnt
    cases e : P n with
    | true => rw [if_neg (by decide), if_pos rfl]; omega
    | false => rw [if_pos (by decide), if_neg (by decide)]; omega
section GONE
variable {x mo n m Z c : Nat} {A : Nat → Nat} {N P K T S : Nat → Nat → Int} {HD : Nat → Nat → Nat → Int} {M Ad : Nat → Nat → Int} {h g : am_H}
theorem m_isThere (hc : 8 ≤ c ∧ c ≤ 11) (mr : MR M Ad) (aw : AW Ad Z) {p : Nat} (hp : p < 128) : am_cI 231 [am_R mo, am_R (mo + c), am_I p] (mv mo (drow M c (pack Ad)) g) = some (if cd_has Ad p = true then 1 else 0, mv mo (drow M c (pack Ad)) g) := by
  have r0 : M 3 0 = Ad 0 0 := mr.1
  have hZ := aw.1
  have hZ8 := aw.2.1
  have hd : p / 16 < 8 := by omega
  have r3 := mr3 (m := mo) (M := M) (A := Ad) (h := g) (c := c) hc (z := p / 16) hd
  unfold cd_has
  have hd1 : p / 16 < 1000 := by omega
  have t1 : ((p / 16 : Nat) : Int) < Ad 0 0 ∨ Ad 0 0 ≤ ((p / 16 : Nat) : Int) := by omega
  rcases t1 with e1 | e1
  · have e1' : ¬ Ad 0 0 ≤ ((p / 16 : Nat) : Int) := by omega
    by_cases e2 : ((p % 16 : Nat) : Int) < Ad 3 (p / 16)
    · have e2' : ¬ Ad 3 (p / 16) ≤ ((p % 16 : Nat) : Int) := by omega
      rw [if_pos (decide_eq_true ⟨e1, e2⟩)]
      rw [am_cI]; simp only [en_231, bk_231_0, bk_231_21, bk_231_33, bk_231_34, am_div16 (show p < 2147483648 by omega), am_rem16 (show p < 2147483648 by omega), mv_f0_6, mv_r3 (show (0 : Int) ≤ 0 by omega) (show (0 : Int) < 7 by omega), drow_o _ _ (show (3 : Nat) ≠ c by omega), r0, e1', e2', nte8 hd1, r3, Option.bind_some, Bool.cond_decide, am_oI_some, am_oV_some, am_oI_ite, am_oV_ite, am_bind_ite, Int.toNat_natCast, Int.toNat_zero, Int.reduceToNat, ite_true, ite_false, not_true_eq_false, not_false_eq_true, decide_true, decide_false, decide_eq_true_eq, Bool.false_eq_true, Nat.add_zero, am_rok1_0, am_rok1_1, cond_true, cond_false, am_w_nat1, true_or, or_true, false_or, or_false, true_and, and_true, false_and, and_false, Int.reduceEq, Int.reduceNeg, Int.reduceLT, Int.reduceLE, or_self, and_self]
      repeat rw [if_neg (show ¬ (16 : Nat) = 0 by omega)]
    · have e2' : Ad 3 (p / 16) ≤ ((p % 16 : Nat) : Int) := by omega
      rw [if_neg (fun q => e2 (of_decide_eq_true q).2)]
      rw [am_cI]; simp only [en_231, bk_231_0, bk_231_21, bk_231_33, bk_231_34, am_div16 (show p < 2147483648 by omega), am_rem16 (show p < 2147483648 by omega), mv_f0_6, mv_r3 (show (0 : Int) ≤ 0 by omega) (show (0 : Int) < 7 by omega), drow_o _ _ (show (3 : Nat) ≠ c by omega), r0, e1', e2', nte8 hd1, r3, Option.bind_some, Bool.cond_decide, am_oI_some, am_oV_some, am_oI_ite, am_oV_ite, am_bind_ite, Int.toNat_natCast, Int.toNat_zero, Int.reduceToNat, ite_true, ite_false, not_true_eq_false, not_false_eq_true, decide_true, decide_false, decide_eq_true_eq, Bool.false_eq_true, Nat.add_zero, am_rok1_0, am_rok1_1, cond_true, cond_false, am_w_nat1, true_or, or_true, false_or, or_false, true_and, and_true, false_and, and_false, Int.reduceEq, Int.reduceNeg, Int.reduceLT, Int.reduceLE, or_self, and_self]
      repeat rw [if_neg (show ¬ (16 : Nat) = 0 by omega)]
  · have h2 : ¬ ((p / 16 : Nat) : Int) < Ad 0 0 := by omega
    rw [if_neg (fun q => h2 (of_decide_eq_true q).1)]
    rw [am_cI]; simp only [en_231, bk_231_0, bk_231_21, bk_231_33, bk_231_34, am_div16 (show p < 2147483648 by omega), mv_f0_6, mv_r3 (show (0 : Int) ≤ 0 by omega) (show (0 : Int) < 7 by omega), drow_o _ _ (show (3 : Nat) ≠ c by omega), r0, e1, Option.bind_some, Bool.cond_decide, am_oI_some, am_oV_some, am_oI_ite, am_oV_ite, am_bind_ite, Int.toNat_natCast, Int.toNat_zero, Int.reduceToNat, ite_true, ite_false, not_true_eq_false, not_false_eq_true, decide_true, decide_false, decide_eq_true_eq, Bool.false_eq_true, Nat.add_zero, am_rok1_0, am_rok1_1, cond_true, cond_false, am_w_nat1, true_or, or_true, false_or, or_false, true_and, and_true, false_and, and_false, Int.reduceEq, Int.reduceNeg, Int.reduceLT, Int.reduceLE, or_self, and_self]
    repeat rw [if_neg (show ¬ (16 : Nat) = 0 by omega)]
end GONE
