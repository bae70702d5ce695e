/-! ===== the objects made ===== -/
section MAK
variable {h : am_H}
theorem i_draw (h : am_H) : am_cV 5 [am_R h.2.1] (am_push h (am_ob 0 (am_dfl 0)) 1) = some (ext h 1 1 (fun _ => am_ob 0 [am_L 0])) := by
  rw [ob1_new, am_cV]
  simp (disch := omega) only [en_5, bk_5_0, Option.bind_some, Bool.cond_decide, am_oI_some, am_oV_some, am_oI_ite, am_oV_ite, am_bind_ite, Int.toNat_natCast, Int.toNat_zero, Int.reduceToNat, ite_true, ite_false, not_true_eq_false, not_false_eq_true, decide_true, decide_false, decide_eq_true_eq, Bool.false_eq_true, Nat.add_zero, am_rok1_0, am_rok1_1, cond_true, cond_false, am_w_nat1, true_or, or_true, false_or, or_false, true_and, and_true, false_and, and_false, Int.reduceEq, Int.reduceNeg, Int.reduceLT, Int.reduceLE, or_self, and_self]
  refine congrArg some (ob1_is rfl (by omega) ?_)
  intro i h0 h1
  exact absurd h1 (by omega)
theorem i_hist (h : am_H) : am_cV 7 [am_R h.2.1] (am_push h (am_ob 2 (am_dfl 2)) 3) = some (ext h 2 44 (fun i => if i = 0 then am_ob 2 [am_R (h.2.1 + 1), am_I 0, am_I 0] else am_ra 4 41 (fun _ => none))) := by
  rw [ob1_new, am_cV]
  simp (disch := omega) only [en_7, bk_7_0, ob1_push, ob1_pf, ob1_n, Option.bind_some, Bool.cond_decide, am_oI_some, am_oV_some, am_oI_ite, am_oV_ite, am_bind_ite, Int.toNat_natCast, Int.toNat_zero, Int.reduceToNat, ite_true, ite_false, not_true_eq_false, not_false_eq_true, decide_true, decide_false, decide_eq_true_eq, Bool.false_eq_true, Nat.add_zero, am_rok1_0, am_rok1_1, cond_true, cond_false, am_w_nat1, true_or, or_true, false_or, or_false, true_and, and_true, false_and, and_false, Int.reduceEq, Int.reduceNeg, Int.reduceLT, Int.reduceLE, or_self, and_self, if_pos]
  refine congrArg some (ob1_is rfl (by omega) ?_)
  intro i h0 h1
  match i, h0, h1 with
  | 1, _, _ => rfl
  | i + 2, _, h1 => exact absurd h1 (by omega)
def rdc (a t : Nat) : Nat → am_C
  | 0 => am_ob 4 [am_R (a + 1), am_R (a + 2), am_R (a + 3), am_I 0, am_R (a + 4), am_R t, am_R (a + 8), am_I 0, am_I 0, am_I 0]
  | 1 => z_ar 7
  | 2 => z_ar 24
  | 3 => z_ar 24
  | 4 => am_ob 5 [am_R (a + 5), am_R (a + 6), am_R (a + 7), am_I 0]
  | 5 => z_ar 16
  | 6 => z_ar 16
  | 7 => z_ar 16
  | _ => z_ar 2
theorem i_reader (h : am_H) (t : Nat) : am_cV 2 [am_R h.2.1, am_R t] (am_push h (am_ob 4 (am_dfl 4)) 10) = some (ext h 9 119 (rdc h.2.1 t)) := by
  rw [ob1_new, am_cV]
  have c1 := fun (fs : List am_V) (f : Nat → am_C) => i_script (ob1 h h.2.1 4 65 4 fs f)
  simp (disch := omega) only [ob1_n, ob1_push, ob1_ext] at c1
  simp (disch := omega) only [en_2, bk_2_0, bk_2_28, ob1_push, ob1_pf, ob1_n, c1, Option.bind_some, Bool.cond_decide, am_oI_some, am_oV_some, am_oI_ite, am_oV_ite, am_bind_ite, Int.toNat_natCast, Int.toNat_zero, Int.reduceToNat, ite_true, ite_false, not_true_eq_false, not_false_eq_true, decide_true, decide_false, decide_eq_true_eq, Bool.false_eq_true, Nat.add_zero, am_rok1_0, am_rok1_1, cond_true, cond_false, am_w_nat1, true_or, or_true, false_or, or_false, true_and, and_true, false_and, and_false, Int.reduceEq, Int.reduceNeg, Int.reduceLT, Int.reduceLE, or_self, and_self, if_pos]
  refine congrArg some (ob1_is rfl (by omega) ?_)
  intro i h0 h1
  match i, h0, h1 with
  | 1, _, _ => rfl
  | 2, _, _ => rfl
  | 3, _, _ => rfl
  | 4, _, _ => rfl
  | 5, _, _ => rfl
  | 6, _, _ => rfl
  | 7, _, _ => rfl
  | 8, _, _ => rfl
  | i + 9, _, h1 => exact absurd h1 (by omega)
theorem i_drv (h : am_H) : am_cV 4 [am_R h.2.1] (am_push h (am_ob 1 (am_dfl 1)) 14) = some (ext h 18 729 (dvc h.2.1 Dz)) := i_drive h
def trc (a p : Nat) : Nat → am_C := fun i => if i = 0 then am_ob 7 [am_R (a + 1), am_R p, am_R (a + 19), am_I 0, am_I 0, am_I 0, am_I 0, am_I 0] else if i < 19 then dvc (a + 1) Dz (i - 1) else am_ob 0 [am_L 0]
theorem i_trial (h : am_H) (p : Nat) : am_cV 6 [am_R h.2.1, am_R p] (am_push h (am_ob 7 (am_dfl 7)) 8) = some (ext h 20 738 (trc h.2.1 p)) := by
  rw [ob1_new, am_cV]
  have c1 := fun (fs : List am_V) (f : Nat → am_C) => i_drv (ob1 h h.2.1 1 8 7 fs f)
  have c2 := fun (fs : List am_V) (f : Nat → am_C) => i_draw (ob1 h h.2.1 19 737 7 fs f)
  simp (disch := omega) only [ob1_n, ob1_push, ob1_ext] at c1 c2
  simp (disch := omega) only [en_6, bk_6_0, bk_6_28, ob1_push, ob1_pf, ob1_n, c1, c2, Option.bind_some, Bool.cond_decide, am_oI_some, am_oV_some, am_oI_ite, am_oV_ite, am_bind_ite, Int.toNat_natCast, Int.toNat_zero, Int.reduceToNat, ite_true, ite_false, not_true_eq_false, not_false_eq_true, decide_true, decide_false, decide_eq_true_eq, Bool.false_eq_true, Nat.add_zero, am_rok1_0, am_rok1_1, cond_true, cond_false, am_w_nat1, true_or, or_true, false_or, or_false, true_and, and_true, false_and, and_false, Int.reduceEq, Int.reduceNeg, Int.reduceLT, Int.reduceLE, or_self, and_self, if_pos]
  refine congrArg some (ob1_is (n := 20) (k := 738) (g := trc h.2.1 p) rfl (by omega) ?_)
  intro i h0 h1
  match i, h0, h1 with
  | 1, _, _ => rfl
  | 2, _, _ => rfl
  | 3, _, _ => rfl
  | 4, _, _ => rfl
  | 5, _, _ => rfl
  | 6, _, _ => rfl
  | 7, _, _ => rfl
  | 8, _, _ => rfl
  | 9, _, _ => rfl
  | 10, _, _ => rfl
  | 11, _, _ => rfl
  | 12, _, _ => rfl
  | 13, _, _ => rfl
  | 14, _, _ => rfl
  | 15, _, _ => rfl
  | 16, _, _ => rfl
  | 17, _, _ => rfl
  | 18, _, _ => rfl
  | 19, _, _ => rfl
  | i + 20, _, h1 => exact absurd h1 (by omega)
theorem ob1_wrr {h : am_H} {a n k ci : Nat} {fs : List am_V} {f : Nat → am_C} {i q t N : Nat} {r : Nat → Option Nat} {l : List am_V} {j : Int} (hi : 0 < i ∧ i < n) (hq : 0 < q ∧ q < n) (fi : f i = am_ra t N r) (fq : f q = am_ob (am_ofc t) l) (hj : 0 ≤ j ∧ j < N) : am_wrr (ob1 h a n k ci fs f) (a + i) j (a + q) = some (ob1 h a n k ci fs (va_up f i (am_ra t N (va_up r j.toNat (some (a + q)))))) := by
  have e1 : (ob1 h a n k ci fs f).1 (a + i) = am_ra t N r := by
    show (if a + i = a then am_ob ci fs else if a < a + i ∧ a + i < a + n then f (a + i - a) else h.1 (a + i)) = _
    rw [if_neg (by omega), if_pos (by omega), Nat.add_sub_cancel_left, fi]
  have e2 : (ob1 h a n k ci fs f).1 (a + q) = am_ob (am_ofc t) l := by
    show (if a + q = a then am_ob ci fs else if a < a + q ∧ a + q < a + n then f (a + q - a) else h.1 (a + q)) = _
    rw [if_neg (by omega), if_pos (by omega), Nat.add_sub_cancel_left, fq]
  unfold am_wrr
  rw [e1]
  show (match (ob1 h a n k ci fs f).1 (a + q) with
    | .inl (c, _) => if c = am_ofc t ∧ 0 ≤ j ∧ j < N then some (am_set (ob1 h a n k ci fs f) (a + i) (am_ra t N (va_up r j.toNat (some (a + q))))) else none
    | _ => none) = _
  rw [e2]
  show (if am_ofc t = am_ofc t ∧ 0 ≤ j ∧ j < N then some (am_set (ob1 h a n k ci fs f) (a + i) (am_ra t N (va_up r j.toNat (some (a + q))))) else none) = _
  rw [if_pos ⟨rfl, hj⟩]
  congr 1
  show (_, _) = (_, _)
  congr 1
  funext z
  show (if z = a + i then am_ra t N (va_up r j.toNat (some (a + q))) else (if z = a then am_ob ci fs else if a < z ∧ z < a + n then f (z - a) else h.1 z)) = (if z = a then am_ob ci fs else if a < z ∧ z < a + n then va_up f i (am_ra t N (va_up r j.toNat (some (a + q)))) (z - a) else h.1 z)
  by_cases e : z = a + i
  · rw [if_pos e, if_neg (by omega), if_pos (by omega), show z - a = i by omega, va_up_self]
  · rw [if_neg e]
    by_cases e3 : z = a
    · rw [if_pos e3, if_pos e3]
    · rw [if_neg e3, if_neg e3]
      by_cases e4 : a < z ∧ z < a + n
      · rw [if_pos e4, if_pos e4, va_up_ne _ _ (by omega)]
      · rw [if_neg e4, if_neg e4]
theorem i_model (h : am_H) : am_cV 9 [am_R h.2.1] (am_push h (am_ob 9 (am_dfl 9)) 31) = some (mv h.2.1 Dz (grw h 15 27522)) := by
  rw [ob1_new, am_cV]
  simp (disch := omega) only [en_9, bk_9_0, bk_9_29, bk_9_55, bk_9_87, bk_9_117, ob1_push, ob1_pf, ob1_n, Option.bind_some, Bool.cond_decide, am_oI_some, am_oV_some, am_oI_ite, am_oV_ite, am_bind_ite, Int.toNat_natCast, Int.toNat_zero, Int.reduceToNat, ite_true, ite_false, not_true_eq_false, not_false_eq_true, decide_true, decide_false, decide_eq_true_eq, Bool.false_eq_true, Nat.add_zero, am_rok1_0, am_rok1_1, cond_true, cond_false, am_w_nat1, true_or, or_true, false_or, or_false, true_and, and_true, false_and, and_false, Int.reduceEq, Int.reduceNeg, Int.reduceLT, Int.reduceLE, or_self, and_self, if_pos]
  refine congrArg some ((ob1_is (g := mvc h.2.1 Dz) rfl (by omega) ?_).trans rfl)
  intro i h0 h1
  match i, h0, h1 with
  | 1, _, _ => show am_ar 1 240 (fun _ => 0) = am_ar 1 240 (cut 240 (fun _ => 0)); rw [z_cut]
  | 2, _, _ => show am_ar 0 7 (fun _ => 0) = am_ar 0 7 (cut 7 (fun _ => 0)); rw [z_cut]
  | 3, _, _ => show am_ar 0 7 (fun _ => 0) = am_ar 0 7 (cut 7 (fun _ => 0)); rw [z_cut]
  | 4, _, _ => show am_ar 0 48 (fun _ => 0) = am_ar 0 48 (cut 48 (fun _ => 0)); rw [z_cut]
  | 5, _, _ => show am_ar 0 240 (fun _ => 0) = am_ar 0 240 (cut 240 (fun _ => 0)); rw [z_cut]
  | 6, _, _ => show am_ar 0 5 (fun _ => 0) = am_ar 0 5 (cut 5 (fun _ => 0)); rw [z_cut]
  | 7, _, _ => show am_ar 0 4 (fun _ => 0) = am_ar 0 4 (cut 4 (fun _ => 0)); rw [z_cut]
  | 8, _, _ => show am_ar 0 609 (fun _ => 0) = am_ar 0 609 (cut 609 (fun _ => 0)); rw [z_cut]
  | 9, _, _ => show am_ar 0 609 (fun _ => 0) = am_ar 0 609 (cut 609 (fun _ => 0)); rw [z_cut]
  | 10, _, _ => show am_ar 0 609 (fun _ => 0) = am_ar 0 609 (cut 609 (fun _ => 0)); rw [z_cut]
  | 11, _, _ => show am_ar 0 609 (fun _ => 0) = am_ar 0 609 (cut 609 (fun _ => 0)); rw [z_cut]
  | 12, _, _ => show am_ar 0 24360 (fun _ => 0) = am_ar 0 24360 (cut 24360 (fun _ => 0)); rw [z_cut]
  | 13, _, _ => show am_ar 0 16 (fun _ => 0) = am_ar 0 16 (cut 16 (fun _ => 0)); rw [z_cut]
  | 14, _, _ => show am_ar 0 128 (fun _ => 0) = am_ar 0 128 (cut 128 (fun _ => 0)); rw [z_cut]
  | i + 15, _, h1 => exact absurd h1 (by omega)
end MAK
