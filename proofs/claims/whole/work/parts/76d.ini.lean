/-! ===== objects made ===== -/
/-- an object that is being made at a, and what was made behind it -/
def ob1 (h : am_H) (a n k ci : Nat) (fs : List am_V) (f : Nat → am_C) : am_H := (fun q => if q = a then am_ob ci fs else if a < q ∧ q < a + n then f (q - a) else h.1 q, a + n, h.2.2.1 + k, h.2.2.2)
/-- a heap with n cells more -/
def ext (h : am_H) (n k : Nat) (g : Nat → am_C) : am_H := (fun q => if h.2.1 ≤ q ∧ q < h.2.1 + n then g (q - h.2.1) else h.1 q, h.2.1 + n, h.2.2.1 + k, h.2.2.2)
theorem ob1_new (h : am_H) (ci : Nat) (fs : List am_V) (j : Nat) : am_push h (am_ob ci fs) j = ob1 h h.2.1 1 j ci fs (fun _ => am_no) := by
  show (_, _) = (_, _)
  congr 1
  funext q
  show (if q = h.2.1 then am_ob ci fs else h.1 q) = _
  by_cases e : q = h.2.1
  · rw [if_pos e, if_pos e]
  · rw [if_neg e, if_neg e, if_neg (by omega)]
theorem ob1_n (h : am_H) (a n k ci : Nat) (fs : List am_V) (f : Nat → am_C) : (ob1 h a n k ci fs f).2.1 = a + n := rfl
theorem ob1_push {h : am_H} {a n k ci : Nat} {fs : List am_V} {f : Nat → am_C} (hn : 0 < n) (c : am_C) (j : Nat) : am_push (ob1 h a n k ci fs f) c j = ob1 h a (n + 1) (k + j) ci fs (va_up f n c) := by
  show (_, _, _, _) = (_, _, _, _)
  congr 1
  · funext q
    show (if q = a + n then c else (if q = a then am_ob ci fs else if a < q ∧ q < a + n then f (q - a) else h.1 q)) = (if q = a then am_ob ci fs else if a < q ∧ q < a + (n + 1) then va_up f n c (q - a) else h.1 q)
    by_cases e : q = a + n
    · rw [if_pos e, if_neg (by omega), if_pos (by omega), show q - a = n by omega, va_up_self]
    · rw [if_neg e]
      by_cases e1 : q = a
      · rw [if_pos e1, if_pos e1]
      · rw [if_neg e1, if_neg e1]
        by_cases e2 : a < q ∧ q < a + n
        · rw [if_pos e2, if_pos (by omega), va_up_ne _ _ (by omega)]
        · rw [if_neg e2, if_neg (by omega)]
  · show (a + n + 1, h.2.2.1 + k + j, h.2.2.2) = (a + (n + 1), h.2.2.1 + (k + j), h.2.2.2)
    rw [Nat.add_assoc, Nat.add_assoc]
theorem ob1_pf {h : am_H} {a n k ci : Nat} {fs : List am_V} {f : Nat → am_C} (j : Nat) (v : am_V) : am_pf (ob1 h a n k ci fs f) a ci j v = some (ob1 h a n k ci (fs.set j v) f) := by
  unfold am_pf
  have e : (ob1 h a n k ci fs f).1 a = am_ob ci fs := if_pos rfl
  rw [e]
  show (if ci = ci then some (am_set _ _ _) else none) = _
  rw [if_pos rfl]
  congr 1
  show (_, _) = (_, _)
  congr 1
  funext q
  show (if q = a then am_ob ci (fs.set j v) else (if q = a then am_ob ci fs else if a < q ∧ q < a + n then f (q - a) else h.1 q)) = (if q = a then am_ob ci (fs.set j v) else if a < q ∧ q < a + n then f (q - a) else h.1 q)
  by_cases e1 : q = a
  · rw [if_pos e1, if_pos e1]
  · rw [if_neg e1, if_neg e1, if_neg e1]
theorem ob1_gfR {h : am_H} {a n k ci : Nat} {fs : List am_V} {f : Nat → am_C} {j b : Nat} (hj : fs[j]? = some (am_R b)) : am_gfR (ob1 h a n k ci fs f) a ci j = some b := by
  unfold am_gfR
  have e : (ob1 h a n k ci fs f).1 a = am_ob ci fs := if_pos rfl
  rw [e]
  show (if ci = ci then (match fs[j]? with
    | some (.inr (.inr (.inl x))) => some x
    | _ => none) else none) = some b
  rw [if_pos rfl, hj]
theorem ob1_ext {h : am_H} {a n k ci : Nat} {fs : List am_V} {f : Nat → am_C} (hn : 0 < n) (n' k' : Nat) (g : Nat → am_C) : ext (ob1 h a n k ci fs f) n' k' g = ob1 h a (n + n') (k + k') ci fs (fun i => if n ≤ i ∧ i < n + n' then g (i - n) else f i) := by
  show (_, _, _, _) = (_, _, _, _)
  congr 1
  · funext q
    show (if a + n ≤ q ∧ q < a + n + n' then g (q - (a + n)) else (if q = a then am_ob ci fs else if a < q ∧ q < a + n then f (q - a) else h.1 q)) = (if q = a then am_ob ci fs else if a < q ∧ q < a + (n + n') then (if n ≤ q - a ∧ q - a < n + n' then g (q - a - n) else f (q - a)) else h.1 q)
    by_cases e : a + n ≤ q ∧ q < a + n + n'
    · rw [if_pos e, if_neg (by omega), if_pos (by omega), if_pos (by omega), show q - (a + n) = q - a - n by omega]
    · rw [if_neg e]
      by_cases e1 : q = a
      · rw [if_pos e1, if_pos e1]
      · rw [if_neg e1, if_neg e1]
        by_cases e2 : a < q ∧ q < a + n
        · rw [if_pos e2, if_pos (by omega), if_neg (by omega)]
        · rw [if_neg e2, if_neg (by omega)]
  · show (a + n + n', h.2.2.1 + k + k', h.2.2.2) = (a + (n + n'), h.2.2.1 + (k + k'), h.2.2.2)
    rw [Nat.add_assoc, Nat.add_assoc]
/-- what was made, as a whole -/
theorem ob1_is {h : am_H} {n k ci : Nat} {fs : List am_V} {f g : Nat → am_C} (h0 : g 0 = am_ob ci fs) (hn : 0 < n) (hg : ∀ i, 0 < i → i < n → f i = g i) : ob1 h h.2.1 n k ci fs f = ext h n k g := by
  show (_, _) = (_, _)
  congr 1
  funext q
  show (if q = h.2.1 then am_ob ci fs else if h.2.1 < q ∧ q < h.2.1 + n then f (q - h.2.1) else h.1 q) = (if h.2.1 ≤ q ∧ q < h.2.1 + n then g (q - h.2.1) else h.1 q)
  by_cases e : q = h.2.1
  · rw [if_pos e, if_pos (by omega), e, Nat.sub_self, h0]
  · rw [if_neg e]
    by_cases e2 : h.2.1 < q ∧ q < h.2.1 + n
    · rw [if_pos e2, if_pos (by omega), hg _ (by omega) (by omega)]
    · rw [if_neg e2, if_neg (by omega)]
/-- an empty row -/
abbrev z_ar (n : Nat) : am_C := am_ar 0 n (fun _ => 0)
theorem i_tape (h : am_H) : am_cV 0 [am_R h.2.1] (am_push h (am_ob 6 (am_dfl 6)) 2) = some (ext h 2 242 (fun i => if i = 0 then am_ob 6 [am_R (h.2.1 + 1), am_I 0] else z_ar 240)) := by
  rw [ob1_new, am_cV]
  simp (disch := omega) only [en_0, bk_0_0, ob1_push, ob1_pf, ob1_n, Option.bind_some, Bool.cond_decide, am_oI_some, am_oV_some, am_oI_ite, am_oV_ite, am_bind_ite, Int.toNat_natCast, Int.toNat_zero, Int.reduceToNat, ite_true, ite_false, not_true_eq_false, not_false_eq_true, decide_true, decide_false, decide_eq_true_eq, Bool.false_eq_true, Nat.add_zero, am_rok1_0, am_rok1_1, cond_true, cond_false, am_w_nat1, true_or, or_true, false_or, or_false, true_and, and_true, false_and, and_false, Int.reduceEq, Int.reduceNeg, Int.reduceLT, Int.reduceLE, or_self, and_self, if_pos]
  refine congrArg some (ob1_is rfl (by omega) ?_)
  intro i h0 h1
  match i, h0, h1 with
  | 1, _, _ => rfl
  | i + 2, _, h1 => exact absurd h1 (by omega)
theorem i_script (h : am_H) : am_cV 1 [am_R h.2.1] (am_push h (am_ob 5 (am_dfl 5)) 4) = some (ext h 4 52 (fun i => if i = 0 then am_ob 5 [am_R (h.2.1 + 1), am_R (h.2.1 + 2), am_R (h.2.1 + 3), am_I 0] else z_ar 16)) := by
  rw [ob1_new, am_cV]
  simp (disch := omega) only [en_1, bk_1_0, bk_1_28, ob1_push, ob1_pf, ob1_n, Option.bind_some, Bool.cond_decide, am_oI_some, am_oV_some, am_oI_ite, am_oV_ite, am_bind_ite, Int.toNat_natCast, Int.toNat_zero, Int.reduceToNat, ite_true, ite_false, not_true_eq_false, not_false_eq_true, decide_true, decide_false, decide_eq_true_eq, Bool.false_eq_true, Nat.add_zero, am_rok1_0, am_rok1_1, cond_true, cond_false, am_w_nat1, true_or, or_true, false_or, or_false, true_and, and_true, false_and, and_false, Int.reduceEq, Int.reduceNeg, Int.reduceLT, Int.reduceLE, or_self, and_self, if_pos]
  refine congrArg some (ob1_is rfl (by omega) ?_)
  intro i h0 h1
  match i, h0, h1 with
  | 1, _, _ => rfl
  | 2, _, _ => rfl
  | 3, _, _ => rfl
  | i + 4, _, h1 => exact absurd h1 (by omega)
theorem i_log (h : am_H) : am_cV 3 [am_R h.2.1] (am_push h (am_ob 3 (am_dfl 3)) 5) = some (ext h 4 185 (fun i => if i = 0 then am_ob 3 [am_R (h.2.1 + 1), am_R (h.2.1 + 2), am_R (h.2.1 + 3), am_I 0, am_I 0] else z_ar 60)) := by
  rw [ob1_new, am_cV]
  simp (disch := omega) only [en_3, bk_3_0, bk_3_28, ob1_push, ob1_pf, ob1_n, Option.bind_some, Bool.cond_decide, am_oI_some, am_oV_some, am_oI_ite, am_oV_ite, am_bind_ite, Int.toNat_natCast, Int.toNat_zero, Int.reduceToNat, ite_true, ite_false, not_true_eq_false, not_false_eq_true, decide_true, decide_false, decide_eq_true_eq, Bool.false_eq_true, Nat.add_zero, am_rok1_0, am_rok1_1, cond_true, cond_false, am_w_nat1, true_or, or_true, false_or, or_false, true_and, and_true, false_and, and_false, Int.reduceEq, Int.reduceNeg, Int.reduceLT, Int.reduceLE, or_self, and_self, if_pos]
  refine congrArg some (ob1_is rfl (by omega) ?_)
  intro i h0 h1
  match i, h0, h1 with
  | 1, _, _ => rfl
  | 2, _, _ => rfl
  | 3, _, _ => rfl
  | i + 4, _, h1 => exact absurd h1 (by omega)
def Dz : Nat → Nat → Int := fun _ _ => 0
theorem z_cut (n : Nat) : cut n (fun _ => 0) = (fun _ => (0 : Int)) := funext (fun j => by unfold cut; split <;> rfl)
theorem i_drive (h : am_H) : am_cV 4 [am_R h.2.1] (am_push h (am_ob 1 (am_dfl 1)) 14) = some (dv h.2.1 Dz (grw h 18 729)) := by
  rw [ob1_new, am_cV]
  have c1 := fun (fs : List am_V) (f : Nat → am_C) => i_log (ob1 h h.2.1 14 544 1 fs f)
  simp (disch := omega) only [ob1_n, ob1_push, ob1_ext] at c1
  simp (disch := omega) only [en_4, bk_4_0, bk_4_28, bk_4_54, bk_4_86, bk_4_114, ob1_push, ob1_pf, ob1_n, c1, Option.bind_some, Bool.cond_decide, am_oI_some, am_oV_some, am_oI_ite, am_oV_ite, am_bind_ite, Int.toNat_natCast, Int.toNat_zero, Int.reduceToNat, ite_true, ite_false, not_true_eq_false, not_false_eq_true, decide_true, decide_false, decide_eq_true_eq, Bool.false_eq_true, Nat.add_zero, am_rok1_0, am_rok1_1, cond_true, cond_false, am_w_nat1, true_or, or_true, false_or, or_false, true_and, and_true, false_and, and_false, Int.reduceEq, Int.reduceNeg, Int.reduceLT, Int.reduceLE, or_self, and_self, if_pos]
  refine congrArg some ((ob1_is (g := dvc h.2.1 Dz) rfl (by omega) ?_).trans rfl)
  intro i h0 h1
  match i, h0, h1 with
  | 1, _, _ => show am_ar 0 7 (fun _ => 0) = am_ar 0 7 (cut 7 (fun _ => 0)); rw [z_cut]
  | 2, _, _ => show am_ar 0 8 (fun _ => 0) = am_ar 0 8 (cut 8 (fun _ => 0)); rw [z_cut]
  | 3, _, _ => show am_ar 0 8 (fun _ => 0) = am_ar 0 8 (cut 8 (fun _ => 0)); rw [z_cut]
  | 4, _, _ => show am_ar 0 8 (fun _ => 0) = am_ar 0 8 (cut 8 (fun _ => 0)); rw [z_cut]
  | 5, _, _ => show am_ar 0 8 (fun _ => 0) = am_ar 0 8 (cut 8 (fun _ => 0)); rw [z_cut]
  | 6, _, _ => show am_ar 0 8 (fun _ => 0) = am_ar 0 8 (cut 8 (fun _ => 0)); rw [z_cut]
  | 7, _, _ => show am_ar 0 3 (fun _ => 0) = am_ar 0 3 (cut 3 (fun _ => 0)); rw [z_cut]
  | 8, _, _ => show am_ar 0 128 (fun _ => 0) = am_ar 0 128 (cut 128 (fun _ => 0)); rw [z_cut]
  | 9, _, _ => show am_ar 0 128 (fun _ => 0) = am_ar 0 128 (cut 128 (fun _ => 0)); rw [z_cut]
  | 10, _, _ => show am_ar 0 128 (fun _ => 0) = am_ar 0 128 (cut 128 (fun _ => 0)); rw [z_cut]
  | 11, _, _ => show am_ar 0 32 (fun _ => 0) = am_ar 0 32 (cut 32 (fun _ => 0)); rw [z_cut]
  | 12, _, _ => show am_ar 0 32 (fun _ => 0) = am_ar 0 32 (cut 32 (fun _ => 0)); rw [z_cut]
  | 13, _, _ => show am_ar 0 32 (fun _ => 0) = am_ar 0 32 (cut 32 (fun _ => 0)); rw [z_cut]
  | 14, _, _ => rfl
  | 15, _, _ => show am_ar 0 60 (fun _ => 0) = am_ar 0 60 (cut 60 (fun _ => 0)); rw [z_cut]
  | 16, _, _ => show am_ar 0 60 (fun _ => 0) = am_ar 0 60 (cut 60 (fun _ => 0)); rw [z_cut]
  | 17, _, _ => show am_ar 0 60 (fun _ => 0) = am_ar 0 60 (cut 60 (fun _ => 0)); rw [z_cut]
  | i + 18, _, h1 => exact absurd h1 (by omega)
