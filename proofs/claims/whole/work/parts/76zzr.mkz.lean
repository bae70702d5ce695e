/-! ===== the class's object made ===== -/
def scc (a : Nat) : Nat → am_C := fun i => if i = 0 then am_ob 5 [am_R (a + 1), am_R (a + 2), am_R (a + 3), am_I 0] else z_ar 16
def zfc (x : Nat) (r : Nat → Option Nat) : Nat → am_C := fun i => if i < 3 then (if i - 1 = 0 then am_ob 6 [am_R (x + 1 + 1), am_I 0] else z_ar 240) else if i < 12 then rdc (x + 3) (x + 1) (i - 3) else if i < 13 then am_ra 3 4 r else if i < 31 then dvc (x + 13) Dz (i - 13) else if i < 49 then dvc (x + 31) Dz (i - 31) else if i < 67 then dvc (x + 49) Dz (i - 49) else if i < 87 then trc (x + 67) (x + 31) (i - 67) else if i < 89 then (if i - 87 = 0 then am_ob 2 [am_R (x + 87 + 1), am_I 0, am_I 0] else am_ra 4 41 (fun _ => none)) else if i < 90 then am_ob 0 [am_L 0] else if i < 91 then z_ar 4 else if i < 95 then scc (x + 91) (i - 91) else if i < 99 then scc (x + 95) (i - 95) else if i < 103 then scc (x + 99) (i - 99) else scc (x + 103) (i - 103)
theorem ob1_stp {h : am_H} {a n k ci : Nat} {fs : List am_V} {f : Nat → am_C} (hn : 0 < n) (n' k' : Nat) (g : Nat → am_C) (hg : ∀ i, i < n' → g i = f (n + i)) : ext (ob1 h a n k ci fs f) n' k' g = ob1 h a (n + n') (k + k') ci fs f := by
  rw [ob1_ext hn]
  show (_, _) = (_, _)
  congr 1
  funext q
  show (if q = a then am_ob ci fs else if a < q ∧ q < a + (n + n') then (if n ≤ q - a ∧ q - a < n + n' then g (q - a - n) else f (q - a)) else h.1 q) = (if q = a then am_ob ci fs else if a < q ∧ q < a + (n + n') then f (q - a) else h.1 q)
  by_cases e : q = a
  · rw [if_pos e, if_pos e]
  · rw [if_neg e, if_neg e]
    by_cases e2 : a < q ∧ q < a + (n + n')
    · rw [if_pos e2, if_pos e2]
      by_cases e3 : n ≤ q - a ∧ q - a < n + n'
      · rw [if_pos e3, hg _ (by omega)]
        congr 1
        omega
      · rw [if_neg e3]
    · rw [if_neg e2, if_neg e2]
theorem ob1_psh {h : am_H} {a n k ci : Nat} {fs : List am_V} {f : Nat → am_C} (hn : 0 < n) (c : am_C) (j : Nat) (hc : f n = c) : am_push (ob1 h a n k ci fs f) c j = ob1 h a (n + 1) (k + j) ci fs f := by
  rw [ob1_push hn]
  congr 1
  funext q
  by_cases e : q = n
  · rw [e, va_up_self, hc]
  · rw [va_up_ne _ _ e]
theorem ob1_fst (h : am_H) (ci : Nat) (fs : List am_V) (j : Nat) (f : Nat → am_C) : am_push h (am_ob ci fs) j = ob1 h h.2.1 1 j ci fs f := by
  rw [ob1_new]
  show (_, _) = (_, _)
  congr 1
  funext q
  show (if q = h.2.1 then am_ob ci fs else if h.2.1 < q ∧ q < h.2.1 + 1 then am_no else h.1 q) = (if q = h.2.1 then am_ob ci fs else if h.2.1 < q ∧ q < h.2.1 + 1 then f (q - h.2.1) else h.1 q)
  by_cases e : q = h.2.1
  · rw [if_pos e, if_pos e]
  · rw [if_neg e, if_neg e, if_neg (by omega), if_neg (by omega)]
def rsc (x s : Nat) : Nat → Option Nat := fun j => if j < s then some (x + 91 + 4 * j) else none
theorem rsc_up (x s : Nat) : va_up (rsc x s) s (some (x + (91 + 4 * s))) = rsc x (s + 1) := by
  funext j
  by_cases e : j = s
  · rw [e, va_up_self]
    unfold rsc
    rw [if_pos (by omega), Nat.add_assoc]
  · rw [va_up_ne _ _ e]
    unfold rsc
    by_cases q : j < s
    · rw [if_pos q, if_pos (by omega)]
    · rw [if_neg q, if_neg (by omega)]
theorem zfc_12 (x : Nat) (r r' : Nat → Option Nat) : va_up (zfc x r) 12 (am_ra 3 4 r') = zfc x r' := by
  funext j
  by_cases e : j = 12
  · rw [e, va_up_self]
    rfl
  · rw [va_up_ne _ _ e]
    unfold zfc
    by_cases q : j < 12
    · by_cases q3 : j < 3
      · rw [if_pos q3, if_pos q3]
      · rw [if_neg q3, if_neg q3, if_pos q, if_pos q]
    · have q3 : ¬ j < 3 := by omega
      have q13 : ¬ j < 13 := by omega
      rw [if_neg q3, if_neg q3, if_neg q, if_neg q, if_neg q13, if_neg q13]
theorem zfc_s (x : Nat) (r : Nat → Option Nat) {s : Nat} (hs : s < 4) {i : Nat} (hi : i < 4) : zfc x r (91 + 4 * s + i) = scc (x + (91 + 4 * s)) i := by
  rcases (show s = 0 ∨ s = 1 ∨ s = 2 ∨ s = 3 by omega) with e | e | e | e <;> subst e <;> rcases (show i = 0 ∨ i = 1 ∨ i = 2 ∨ i = 3 by omega) with e | e | e | e <;> subst e <;> rfl
section MKZ
variable {h : am_H} {A : Nat → Nat}
theorem i_zone (h : am_H) (A : Nat → Nat) : am_cV 8 [am_R h.2.1] (am_push h (am_ob 8 (am_dfl 8)) 12) = some (zv h.2.1 Dz Dz Dz Dz Dz 0 A (grw h 107 3559)) := by
  have c0 := fun (fs : List am_V) => (i_tape (ob1 h h.2.1 1 12 8 fs (zfc h.2.1 (rsc h.2.1 0)))).trans (congrArg some (ob1_stp (by omega) 2 242 _ (fun i hi => by
    match i, hi with
    | 0, _ => rfl
    | 1, _ => rfl
    | i + 2, hi => exact absurd hi (by omega))))
  have c1 := fun (fs : List am_V) => (i_reader (ob1 h h.2.1 3 254 8 fs (zfc h.2.1 (rsc h.2.1 0))) (h.2.1 + 1)).trans (congrArg some (ob1_stp (by omega) 9 119 _ (fun i hi => by
    match i, hi with
    | 0, _ => rfl
    | 1, _ => rfl
    | 2, _ => rfl
    | 3, _ => rfl
    | 4, _ => rfl
    | 5, _ => rfl
    | 6, _ => rfl
    | 7, _ => rfl
    | 8, _ => rfl
    | i + 9, hi => exact absurd hi (by omega))))
  have c2 := fun (fs : List am_V) => (ob1_psh (h := h) (a := h.2.1) (n := 12) (k := 373) (ci := 8) (fs := fs) (f := zfc h.2.1 (rsc h.2.1 0)) (by omega) (am_ra 3 4 (fun _ => none)) 4 (by
    show am_ra 3 4 (rsc h.2.1 0) = am_ra 3 4 (fun _ => none)
    congr 3))
  have c3 := fun (fs : List am_V) => (i_drv (ob1 h h.2.1 13 377 8 fs (zfc h.2.1 (rsc h.2.1 0)))).trans (congrArg some (ob1_stp (by omega) 18 729 _ (fun i hi => by
    match i, hi with
    | 0, _ => rfl
    | 1, _ => rfl
    | 2, _ => rfl
    | 3, _ => rfl
    | 4, _ => rfl
    | 5, _ => rfl
    | 6, _ => rfl
    | 7, _ => rfl
    | 8, _ => rfl
    | 9, _ => rfl
    | 10, _ => rfl
    | 11, _ => rfl
    | 12, _ => rfl
    | 13, _ => rfl
    | 14, _ => rfl
    | 15, _ => rfl
    | 16, _ => rfl
    | 17, _ => rfl
    | i + 18, hi => exact absurd hi (by omega))))
  have c4 := fun (fs : List am_V) => (i_drv (ob1 h h.2.1 31 1106 8 fs (zfc h.2.1 (rsc h.2.1 0)))).trans (congrArg some (ob1_stp (by omega) 18 729 _ (fun i hi => by
    match i, hi with
    | 0, _ => rfl
    | 1, _ => rfl
    | 2, _ => rfl
    | 3, _ => rfl
    | 4, _ => rfl
    | 5, _ => rfl
    | 6, _ => rfl
    | 7, _ => rfl
    | 8, _ => rfl
    | 9, _ => rfl
    | 10, _ => rfl
    | 11, _ => rfl
    | 12, _ => rfl
    | 13, _ => rfl
    | 14, _ => rfl
    | 15, _ => rfl
    | 16, _ => rfl
    | 17, _ => rfl
    | i + 18, hi => exact absurd hi (by omega))))
  have c5 := fun (fs : List am_V) => (i_drv (ob1 h h.2.1 49 1835 8 fs (zfc h.2.1 (rsc h.2.1 0)))).trans (congrArg some (ob1_stp (by omega) 18 729 _ (fun i hi => by
    match i, hi with
    | 0, _ => rfl
    | 1, _ => rfl
    | 2, _ => rfl
    | 3, _ => rfl
    | 4, _ => rfl
    | 5, _ => rfl
    | 6, _ => rfl
    | 7, _ => rfl
    | 8, _ => rfl
    | 9, _ => rfl
    | 10, _ => rfl
    | 11, _ => rfl
    | 12, _ => rfl
    | 13, _ => rfl
    | 14, _ => rfl
    | 15, _ => rfl
    | 16, _ => rfl
    | 17, _ => rfl
    | i + 18, hi => exact absurd hi (by omega))))
  have c6 := fun (fs : List am_V) => (i_trial (ob1 h h.2.1 67 2564 8 fs (zfc h.2.1 (rsc h.2.1 0))) (h.2.1 + 31)).trans (congrArg some (ob1_stp (by omega) 20 738 _ (fun i hi => by
    match i, hi with
    | 0, _ => rfl
    | 1, _ => rfl
    | 2, _ => rfl
    | 3, _ => rfl
    | 4, _ => rfl
    | 5, _ => rfl
    | 6, _ => rfl
    | 7, _ => rfl
    | 8, _ => rfl
    | 9, _ => rfl
    | 10, _ => rfl
    | 11, _ => rfl
    | 12, _ => rfl
    | 13, _ => rfl
    | 14, _ => rfl
    | 15, _ => rfl
    | 16, _ => rfl
    | 17, _ => rfl
    | 18, _ => rfl
    | 19, _ => rfl
    | i + 20, hi => exact absurd hi (by omega))))
  have c7 := fun (fs : List am_V) => (i_hist (ob1 h h.2.1 87 3302 8 fs (zfc h.2.1 (rsc h.2.1 0)))).trans (congrArg some (ob1_stp (by omega) 2 44 _ (fun i hi => by
    match i, hi with
    | 0, _ => rfl
    | 1, _ => rfl
    | i + 2, hi => exact absurd hi (by omega))))
  have c8 := fun (fs : List am_V) => (i_draw (ob1 h h.2.1 89 3346 8 fs (zfc h.2.1 (rsc h.2.1 0)))).trans (congrArg some (ob1_stp (by omega) 1 1 _ (fun i hi => by
    match i, hi with
    | 0, _ => rfl
    | i + 1, hi => exact absurd hi (by omega))))
  have c9 := fun (fs : List am_V) => (ob1_psh (h := h) (a := h.2.1) (n := 90) (k := 3347) (ci := 8) (fs := fs) (f := zfc h.2.1 (rsc h.2.1 0)) (by omega) (am_ar 0 4 (fun _ => 0)) 4 rfl)
  simp only [ob1_n, Nat.reduceAdd] at c0 c1 c2 c3 c4 c5 c6 c7 c8 c9
  have g1 : am_gfR (am_push (ob1 h h.2.1 3 254 8 ((am_dfl 8).set 0 (am_R (h.2.1 + 1))) (zfc h.2.1 (rsc h.2.1 0))) (am_ob 4 (am_dfl 4)) 10) h.2.1 8 0 = some (h.2.1 + 1) := by rw [ob1_push (by omega)]; exact ob1_gfR rfl
  have g2 : am_gfR (am_push (ob1 h h.2.1 67 2564 8 (((((((am_dfl 8).set 0 (am_R (h.2.1 + 1))).set 1 (am_R (h.2.1 + 3))).set 2 (am_R (h.2.1 + 12))).set 4 (am_R (h.2.1 + 13))).set 5 (am_R (h.2.1 + 31))).set 6 (am_R (h.2.1 + 49))) (zfc h.2.1 (rsc h.2.1 0))) (am_ob 7 (am_dfl 7)) 8) h.2.1 8 5 = some (h.2.1 + 31) := by rw [ob1_push (by omega)]; exact ob1_gfR rfl
  rw [ob1_fst h 8 (am_dfl 8) 12 (zfc h.2.1 (rsc h.2.1 0)), am_cV, en_8, bk_8_0]
  simp only [bk_8_30, bk_8_60, bk_8_90, ob1_n, Nat.reduceAdd, c0, ob1_pf, g1, c1, c2, c3, c4, c5, g2, c6, c7, c8, c9, Option.bind_some, Bool.cond_decide, am_oI_some, am_oV_some, am_oI_ite, am_oV_ite, am_bind_ite, Int.toNat_natCast, Int.toNat_zero, Int.reduceToNat, ite_true, ite_false, not_true_eq_false, not_false_eq_true, decide_true, decide_false, decide_eq_true_eq, Bool.false_eq_true, Nat.add_zero, am_rok1_0, am_rok1_1, cond_true, cond_false, am_w_nat1, true_or, or_true, false_or, or_false, true_and, and_true, false_and, and_false, Int.reduceEq, Int.reduceNeg, Int.reduceLT, Int.reduceLE, or_self, and_self, Nat.reduceLeDiff, Nat.zero_le]
  have lp : ∀ s : Nat, s < 4 → ∀ fs : List am_V, fs[2]? = some (am_R (h.2.1 + 12)) → am_run am_ms 8 117 [am_R h.2.1, am_I s] [] (ob1 h h.2.1 (91 + 4 * s) (3351 + 52 * s) 8 fs (zfc h.2.1 (rsc h.2.1 s))) = am_run am_ms 8 117 [am_R h.2.1, am_I ((s + 1 : Nat) : Int)] [] (ob1 h h.2.1 (91 + 4 * (s + 1)) (3351 + 52 * (s + 1)) 8 fs (zfc h.2.1 (rsc h.2.1 (s + 1)))) := by
    intro s hs fs hf
    have cs := (i_script (ob1 h h.2.1 (91 + 4 * s) (3351 + 52 * s) 8 fs (zfc h.2.1 (rsc h.2.1 s)))).trans (congrArg some (ob1_stp (by omega) 4 52 _ (fun i hi => by
      rw [zfc_s _ _ hs hi]
      rfl)))
    have wr := ob1_wrr (h := h) (a := h.2.1) (n := 91 + 4 * s + 4) (k := 3351 + 52 * s + 52) (ci := 8) (fs := fs) (f := zfc h.2.1 (rsc h.2.1 s)) (i := 12) (q := 91 + 4 * s) (t := 3) (N := 4) (r := rsc h.2.1 s) (l := [am_R (h.2.1 + (91 + 4 * s) + 1), am_R (h.2.1 + (91 + 4 * s) + 2), am_R (h.2.1 + (91 + 4 * s) + 3), am_I 0]) (j := (s : Int)) (by omega) (by omega) rfl (by
      have := zfc_s h.2.1 (rsc h.2.1 s) hs (i := 0) (by omega)
      rw [Nat.add_zero] at this
      rw [this]
      rfl) (by omega)
    rw [Int.toNat_natCast, rsc_up, zfc_12] at wr
    have gf : am_gfR (ob1 h h.2.1 (91 + 4 * s) (3351 + 52 * s) 8 fs (zfc h.2.1 (rsc h.2.1 s))) h.2.1 8 2 = some (h.2.1 + 12) := ob1_gfR hf
    simp only [ob1_n] at cs
    have hs4 : ¬ (4 : Int) ≤ (s : Int) := by omega
    have hsq : s < 2147483647 := by omega
    have e1 : 91 + 4 * (s + 1) = 91 + 4 * s + 4 := by omega
    have e2 : 3351 + 52 * (s + 1) = 3351 + 52 * s + 52 := by omega
    rw [e1, e2, bk_8_117]
    simp only [hs4, gf, ob1_n, cs, wr, am_w_nat1 hsq, Option.bind_some, Bool.cond_decide, am_oI_some, am_oV_some, am_oI_ite, am_oV_ite, am_bind_ite, Int.toNat_natCast, Int.toNat_zero, Int.reduceToNat, ite_true, ite_false, not_true_eq_false, not_false_eq_true, decide_true, decide_false, decide_eq_true_eq, Bool.false_eq_true, Nat.add_zero, am_rok1_0, am_rok1_1, cond_true, cond_false, am_w_nat1, true_or, or_true, false_or, or_false, true_and, and_true, false_and, and_false, Int.reduceEq, Int.reduceNeg, Int.reduceLT, Int.reduceLE, or_self, and_self]
  have key : ∀ fs : List am_V, fs[2]? = some (am_R (h.2.1 + 12)) → am_run am_ms 8 117 [am_R h.2.1, am_I 0] [] (ob1 h h.2.1 91 3351 8 fs (zfc h.2.1 (rsc h.2.1 0))) = am_run am_ms 8 117 [am_R h.2.1, am_I 4] [] (ob1 h h.2.1 107 3559 8 fs (zfc h.2.1 (rsc h.2.1 4))) := fun fs hf => loop_to (fun s : Nat => am_run am_ms 8 117 [am_R h.2.1, am_I s] [] (ob1 h h.2.1 (91 + 4 * s) (3351 + 52 * s) 8 fs (zfc h.2.1 (rsc h.2.1 s)))) 4 (fun s hs => lp s hs fs hf)
  rw [key _ rfl, bk_8_117]
  simp only [bk_8_141, Int.le_refl, Option.bind_some, Bool.cond_decide, am_oI_some, am_oV_some, am_oI_ite, am_oV_ite, am_bind_ite, Int.toNat_natCast, Int.toNat_zero, Int.reduceToNat, ite_true, ite_false, not_true_eq_false, not_false_eq_true, decide_true, decide_false, decide_eq_true_eq, Bool.false_eq_true, Nat.add_zero, am_rok1_0, am_rok1_1, cond_true, cond_false, am_w_nat1, true_or, or_true, false_or, or_false, true_and, and_true, false_and, and_false, Int.reduceEq, Int.reduceNeg, Int.reduceLT, Int.reduceLE, or_self, and_self]
  refine congrArg some ((ob1_is (g := zvc h.2.1 Dz Dz Dz Dz Dz 0 A) rfl (by omega) ?_).trans rfl)
  intro i h0 h1
  match i, h0, h1 with
  | 1, _, _ => rfl
  | 2, _, _ => show am_ar 0 240 (fun _ => 0) = am_ar 0 240 (cut 240 (fun _ => 0)); rw [z_cut]
  | 3, _, _ => rfl
  | 4, _, _ => show am_ar 0 7 (fun _ => 0) = am_ar 0 7 (cut 7 (fun _ => 0)); rw [z_cut]
  | 5, _, _ => show am_ar 0 24 (fun _ => 0) = am_ar 0 24 (cut 24 (fun _ => 0)); rw [z_cut]
  | 6, _, _ => show am_ar 0 24 (fun _ => 0) = am_ar 0 24 (cut 24 (fun _ => 0)); rw [z_cut]
  | 7, _, _ => rfl
  | 8, _, _ => show am_ar 0 16 (fun _ => 0) = am_ar 0 16 (cut 16 (fun _ => 0)); rw [z_cut]
  | 9, _, _ => show am_ar 0 16 (fun _ => 0) = am_ar 0 16 (cut 16 (fun _ => 0)); rw [z_cut]
  | 10, _, _ => show am_ar 0 16 (fun _ => 0) = am_ar 0 16 (cut 16 (fun _ => 0)); rw [z_cut]
  | 11, _, _ => show am_ar 0 2 (fun _ => 0) = am_ar 0 2 (cut 2 (fun _ => 0)); rw [z_cut]
  | 12, _, _ => rfl
  | 13, _, _ => rfl
  | 14, _, _ => rfl
  | 15, _, _ => rfl
  | 16, _, _ => rfl
  | 17, _, _ => rfl
  | 18, _, _ => rfl
  | 19, _, _ => rfl
  | 20, _, _ => rfl
  | 21, _, _ => rfl
  | 22, _, _ => rfl
  | 23, _, _ => rfl
  | 24, _, _ => rfl
  | 25, _, _ => rfl
  | 26, _, _ => rfl
  | 27, _, _ => rfl
  | 28, _, _ => rfl
  | 29, _, _ => rfl
  | 30, _, _ => rfl
  | 31, _, _ => rfl
  | 32, _, _ => rfl
  | 33, _, _ => rfl
  | 34, _, _ => rfl
  | 35, _, _ => rfl
  | 36, _, _ => rfl
  | 37, _, _ => rfl
  | 38, _, _ => rfl
  | 39, _, _ => rfl
  | 40, _, _ => rfl
  | 41, _, _ => rfl
  | 42, _, _ => rfl
  | 43, _, _ => rfl
  | 44, _, _ => rfl
  | 45, _, _ => rfl
  | 46, _, _ => rfl
  | 47, _, _ => rfl
  | 48, _, _ => rfl
  | 49, _, _ => rfl
  | 50, _, _ => rfl
  | 51, _, _ => rfl
  | 52, _, _ => rfl
  | 53, _, _ => rfl
  | 54, _, _ => rfl
  | 55, _, _ => rfl
  | 56, _, _ => rfl
  | 57, _, _ => rfl
  | 58, _, _ => rfl
  | 59, _, _ => rfl
  | 60, _, _ => rfl
  | 61, _, _ => rfl
  | 62, _, _ => rfl
  | 63, _, _ => rfl
  | 64, _, _ => rfl
  | 65, _, _ => rfl
  | 66, _, _ => rfl
  | 67, _, _ => rfl
  | 68, _, _ => rfl
  | 69, _, _ => rfl
  | 70, _, _ => rfl
  | 71, _, _ => rfl
  | 72, _, _ => rfl
  | 73, _, _ => rfl
  | 74, _, _ => rfl
  | 75, _, _ => rfl
  | 76, _, _ => rfl
  | 77, _, _ => rfl
  | 78, _, _ => rfl
  | 79, _, _ => rfl
  | 80, _, _ => rfl
  | 81, _, _ => rfl
  | 82, _, _ => rfl
  | 83, _, _ => rfl
  | 84, _, _ => rfl
  | 85, _, _ => rfl
  | 86, _, _ => rfl
  | 87, _, _ => rfl
  | 88, _, _ =>
    show am_ra 4 41 (fun _ => none) = am_ra 4 41 (fun j => if j < 0 then some (A j) else none)
    congr 3
  | 89, _, _ => rfl
  | 90, _, _ => show am_ar 0 4 (fun _ => 0) = am_ar 0 4 (cut 4 (fun _ => 0)); rw [z_cut]
  | 91, _, _ => rfl
  | 92, _, _ => show am_ar 0 16 (fun _ => 0) = am_ar 0 16 (cut 16 (fun _ => 0)); rw [z_cut]
  | 93, _, _ => show am_ar 0 16 (fun _ => 0) = am_ar 0 16 (cut 16 (fun _ => 0)); rw [z_cut]
  | 94, _, _ => show am_ar 0 16 (fun _ => 0) = am_ar 0 16 (cut 16 (fun _ => 0)); rw [z_cut]
  | 95, _, _ => rfl
  | 96, _, _ => show am_ar 0 16 (fun _ => 0) = am_ar 0 16 (cut 16 (fun _ => 0)); rw [z_cut]
  | 97, _, _ => show am_ar 0 16 (fun _ => 0) = am_ar 0 16 (cut 16 (fun _ => 0)); rw [z_cut]
  | 98, _, _ => show am_ar 0 16 (fun _ => 0) = am_ar 0 16 (cut 16 (fun _ => 0)); rw [z_cut]
  | 99, _, _ => rfl
  | 100, _, _ => show am_ar 0 16 (fun _ => 0) = am_ar 0 16 (cut 16 (fun _ => 0)); rw [z_cut]
  | 101, _, _ => show am_ar 0 16 (fun _ => 0) = am_ar 0 16 (cut 16 (fun _ => 0)); rw [z_cut]
  | 102, _, _ => show am_ar 0 16 (fun _ => 0) = am_ar 0 16 (cut 16 (fun _ => 0)); rw [z_cut]
  | 103, _, _ => rfl
  | 104, _, _ => show am_ar 0 16 (fun _ => 0) = am_ar 0 16 (cut 16 (fun _ => 0)); rw [z_cut]
  | 105, _, _ => show am_ar 0 16 (fun _ => 0) = am_ar 0 16 (cut 16 (fun _ => 0)); rw [z_cut]
  | 106, _, _ => show am_ar 0 16 (fun _ => 0) = am_ar 0 16 (cut 16 (fun _ => 0)); rw [z_cut]
  | i + 107, _, h1 => exact absurd h1 (by omega)
end MKZ
