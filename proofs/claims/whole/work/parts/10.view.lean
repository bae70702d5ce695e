/-! ===== VIEWS of the heap: a drive as a table of rows (0 to 12 its arrays, 13 to 15 the log's, 16 the log's two numbers) ===== -/
def cut (n : Nat) (f : Nat → Int) : Nat → Int := fun j => if j < n then f j else 0
theorem cut_up {n : Nat} (f : Nat → Int) {j : Nat} (hj : j < n) (x : Int) : va_up (cut n f) j x = cut n (va_up f j x) := by
  funext k
  show (if k = j then x else (if k < n then f k else 0)) = (if k < n then (if k = j then x else f k) else 0)
  by_cases e : k = j
  · subst e; rw [if_pos rfl, if_pos hj, if_pos rfl]
  · rw [if_neg e, if_neg e]
theorem cut_at {n : Nat} (f : Nat → Int) {j : Nat} (hj : j < n) : cut n f j = f j := if_pos hj
theorem cut_ext {n : Nat} {f g : Nat → Int} (h : ∀ j, j < n → f j = g j) : cut n f = cut n g := by
  funext k
  unfold cut
  by_cases e : k < n
  · rw [if_pos e, if_pos e, h k e]
  · rw [if_neg e, if_neg e]
def dup (D : Nat → Nat → Int) (k j : Nat) (x : Int) : Nat → Nat → Int := fun i => if i = k then va_up (D k) j x else D i
def drow (D : Nat → Nat → Int) (k : Nat) (f : Nat → Int) : Nat → Nat → Int := fun i => if i = k then f else D i
def dvc (d : Nat) (D : Nat → Nat → Int) : Nat → am_C
  | 0 => am_ob 1 [am_R (d + 1), am_R (d + 2), am_R (d + 3), am_R (d + 4), am_R (d + 5), am_R (d + 6), am_R (d + 7), am_R (d + 8), am_R (d + 9), am_R (d + 10), am_R (d + 11), am_R (d + 12), am_R (d + 13), am_R (d + 14)]
  | 1 => am_ar 0 7 (cut 7 (D 0))
  | 2 => am_ar 0 8 (cut 8 (D 1))
  | 3 => am_ar 0 8 (cut 8 (D 2))
  | 4 => am_ar 0 8 (cut 8 (D 3))
  | 5 => am_ar 0 8 (cut 8 (D 4))
  | 6 => am_ar 0 8 (cut 8 (D 5))
  | 7 => am_ar 0 3 (cut 3 (D 6))
  | 8 => am_ar 0 128 (cut 128 (D 7))
  | 9 => am_ar 0 128 (cut 128 (D 8))
  | 10 => am_ar 0 128 (cut 128 (D 9))
  | 11 => am_ar 0 32 (cut 32 (D 10))
  | 12 => am_ar 0 32 (cut 32 (D 11))
  | 13 => am_ar 0 32 (cut 32 (D 12))
  | 14 => am_ob 3 [am_R (d + 15), am_R (d + 16), am_R (d + 17), am_I (D 16 0), am_I (D 16 1)]
  | 15 => am_ar 0 60 (cut 60 (D 13))
  | 16 => am_ar 0 60 (cut 60 (D 14))
  | _ => am_ar 0 60 (cut 60 (D 15))
def dv (d : Nat) (D : Nat → Nat → Int) (h : am_H) : am_H := (fun k => if d ≤ k ∧ k < d + 18 then dvc d D (k - d) else h.1 k, h.2)
theorem dv_in (d : Nat) (D : Nat → Nat → Int) (h : am_H) {i : Nat} (hi : i < 18) : (dv d D h).1 (d + i) = dvc d D i := by
  show (if d ≤ d + i ∧ d + i < d + 18 then dvc d D (d + i - d) else h.1 (d + i)) = _
  rw [if_pos ⟨by omega, by omega⟩, Nat.add_sub_cancel_left]
theorem dv_out {d : Nat} {D : Nat → Nat → Int} {h : am_H} {k : Nat} (hk : k < d ∨ d + 18 ≤ k) : (dv d D h).1 k = h.1 k := by
  show (if d ≤ k ∧ k < d + 18 then dvc d D (k - d) else h.1 k) = _
  rw [if_neg (by omega)]
theorem dv_dv (d : Nat) (D E : Nat → Nat → Int) (h : am_H) : dv d D (dv d E h) = dv d D h := by
  show (_, _) = (_, _)
  congr 1
  funext k
  by_cases e : d ≤ k ∧ k < d + 18
  · rw [if_pos e, if_pos e]
  · rw [if_neg e, if_neg e]
    exact dv_out (by omega)
theorem dv_comm {d e : Nat} (hde : d + 18 ≤ e ∨ e + 18 ≤ d) (D E : Nat → Nat → Int) (h : am_H) : dv d D (dv e E h) = dv e E (dv d D h) := by
  show (_, _) = (_, _)
  congr 1
  funext k
  by_cases a : d ≤ k ∧ k < d + 18
  · rw [if_pos a, if_neg (by omega)]
    show _ = (if d ≤ k ∧ k < d + 18 then dvc d D (k - d) else h.1 k)
    rw [if_pos a]
  · rw [if_neg a]
    by_cases b : e ≤ k ∧ k < e + 18
    · rw [if_pos b]
      show (if e ≤ k ∧ k < e + 18 then dvc e E (k - e) else h.1 k) = _
      rw [if_pos b]
    · rw [if_neg b]
      show (if e ≤ k ∧ k < e + 18 then dvc e E (k - e) else h.1 k) = (if d ≤ k ∧ k < d + 18 then dvc d D (k - d) else h.1 k)
      rw [if_neg b, if_neg a]
theorem dv_set {d : Nat} {D E : Nat → Nat → Int} {h : am_H} {i : Nat} (hi : i < 18) {c : am_C} (hc : dvc d E i = c) (ho : ∀ j, j < 18 → j ≠ i → dvc d E j = dvc d D j) : am_set (dv d D h) (d + i) c = dv d E h := by
  show (_, _) = (_, _)
  congr 1
  funext k
  show (if k = d + i then c else (if d ≤ k ∧ k < d + 18 then dvc d D (k - d) else h.1 k)) = (if d ≤ k ∧ k < d + 18 then dvc d E (k - d) else h.1 k)
  by_cases e : k = d + i
  · subst e
    rw [if_pos rfl, if_pos ⟨by omega, by omega⟩, Nat.add_sub_cancel_left, hc]
  · rw [if_neg e]
    by_cases a : d ≤ k ∧ k < d + 18
    · rw [if_pos a, if_pos a, ho (k - d) (by omega) (by omega)]
    · rw [if_neg a, if_neg a]
theorem dv_ext {d : Nat} {D E : Nat → Nat → Int} {h : am_H} (hD : ∀ i, i < 18 → dvc d D i = dvc d E i) : dv d D h = dv d E h := by
  show (_, _) = (_, _)
  congr 1
  funext k
  by_cases a : d ≤ k ∧ k < d + 18
  · rw [if_pos a, if_pos a, hD _ (by omega)]
  · rw [if_neg a, if_neg a]
/-- how long the rows are -/
def dlen : Nat → Nat
  | 0 => 7
  | 1 => 8
  | 2 => 8
  | 3 => 8
  | 4 => 8
  | 5 => 8
  | 6 => 3
  | 7 => 128
  | 8 => 128
  | 9 => 128
  | 10 => 32
  | 11 => 32
  | 12 => 32
  | 13 => 60
  | 14 => 60
  | 15 => 60
  | _ => 2
/-- drives alike: their rows as far as they go -/
def deq (D E : Nat → Nat → Int) : Prop := ∀ k, k < 17 → ∀ j, j < dlen k → D k j = E k j
theorem dv_deq {d : Nat} {D E : Nat → Nat → Int} {h : am_H} (hD : deq D E) : dv d D h = dv d E h := by
  apply dv_ext
  intro i hi
  have e : ∀ k, k < 17 → cut (dlen k) (D k) = cut (dlen k) (E k) := fun k hk => cut_ext (hD k hk)
  have s0 := hD 16 (by omega) 0 (by decide)
  have s1 := hD 16 (by omega) 1 (by decide)
  match i, hi with
  | 0, _ => rfl
  | 1, _ => exact congrArg (am_ar 0 7) (e 0 (by omega))
  | 2, _ => exact congrArg (am_ar 0 8) (e 1 (by omega))
  | 3, _ => exact congrArg (am_ar 0 8) (e 2 (by omega))
  | 4, _ => exact congrArg (am_ar 0 8) (e 3 (by omega))
  | 5, _ => exact congrArg (am_ar 0 8) (e 4 (by omega))
  | 6, _ => exact congrArg (am_ar 0 8) (e 5 (by omega))
  | 7, _ => exact congrArg (am_ar 0 3) (e 6 (by omega))
  | 8, _ => exact congrArg (am_ar 0 128) (e 7 (by omega))
  | 9, _ => exact congrArg (am_ar 0 128) (e 8 (by omega))
  | 10, _ => exact congrArg (am_ar 0 128) (e 9 (by omega))
  | 11, _ => exact congrArg (am_ar 0 32) (e 10 (by omega))
  | 12, _ => exact congrArg (am_ar 0 32) (e 11 (by omega))
  | 13, _ => exact congrArg (am_ar 0 32) (e 12 (by omega))
  | 14, _ => show am_ob 3 [_, _, _, am_I (D 16 0), am_I (D 16 1)] = am_ob 3 [_, _, _, am_I (E 16 0), am_I (E 16 1)]; rw [s0, s1]
  | 15, _ => exact congrArg (am_ar 0 60) (e 13 (by omega))
  | 16, _ => exact congrArg (am_ar 0 60) (e 14 (by omega))
  | 17, _ => exact congrArg (am_ar 0 60) (e 15 (by omega))
  | i + 18, hi => exact absurd hi (by omega)
section DV
variable (d : Nat) (D : Nat → Nat → Int) (h : am_H)
theorem dv_0 : (dv d D h).1 d = dvc d D 0 := dv_in d D h (i := 0) (by omega)
theorem dv_n : (dv d D h).2 = h.2 := rfl
theorem dv_isc : am_isc (dv d D h) d 1 = some () := by unfold am_isc; rw [dv_0]; rfl
theorem dv_iscL : am_isc (dv d D h) (d + 14) 3 = some () := by unfold am_isc; rw [dv_in d D h (i := 14) (by omega)]; rfl
theorem dv_f0 : am_gfR (dv d D h) d 1 0 = some (d + 1) := by unfold am_gfR; rw [dv_0]; rfl
theorem dv_f1 : am_gfR (dv d D h) d 1 1 = some (d + 2) := by unfold am_gfR; rw [dv_0]; rfl
theorem dv_f2 : am_gfR (dv d D h) d 1 2 = some (d + 3) := by unfold am_gfR; rw [dv_0]; rfl
theorem dv_f3 : am_gfR (dv d D h) d 1 3 = some (d + 4) := by unfold am_gfR; rw [dv_0]; rfl
theorem dv_f4 : am_gfR (dv d D h) d 1 4 = some (d + 5) := by unfold am_gfR; rw [dv_0]; rfl
theorem dv_f5 : am_gfR (dv d D h) d 1 5 = some (d + 6) := by unfold am_gfR; rw [dv_0]; rfl
theorem dv_f6 : am_gfR (dv d D h) d 1 6 = some (d + 7) := by unfold am_gfR; rw [dv_0]; rfl
theorem dv_f7 : am_gfR (dv d D h) d 1 7 = some (d + 8) := by unfold am_gfR; rw [dv_0]; rfl
theorem dv_f8 : am_gfR (dv d D h) d 1 8 = some (d + 9) := by unfold am_gfR; rw [dv_0]; rfl
theorem dv_f9 : am_gfR (dv d D h) d 1 9 = some (d + 10) := by unfold am_gfR; rw [dv_0]; rfl
theorem dv_f10 : am_gfR (dv d D h) d 1 10 = some (d + 11) := by unfold am_gfR; rw [dv_0]; rfl
theorem dv_f11 : am_gfR (dv d D h) d 1 11 = some (d + 12) := by unfold am_gfR; rw [dv_0]; rfl
theorem dv_f12 : am_gfR (dv d D h) d 1 12 = some (d + 13) := by unfold am_gfR; rw [dv_0]; rfl
theorem dv_f13 : am_gfR (dv d D h) d 1 13 = some (d + 14) := by unfold am_gfR; rw [dv_0]; rfl
theorem dv_g0 : am_gfR (dv d D h) (d + 14) 3 0 = some (d + 15) := by unfold am_gfR; rw [dv_in d D h (i := 14) (by omega)]; rfl
theorem dv_g1 : am_gfR (dv d D h) (d + 14) 3 1 = some (d + 16) := by unfold am_gfR; rw [dv_in d D h (i := 14) (by omega)]; rfl
theorem dv_g2 : am_gfR (dv d D h) (d + 14) 3 2 = some (d + 17) := by unfold am_gfR; rw [dv_in d D h (i := 14) (by omega)]; rfl
theorem dv_i0 : am_gfI (dv d D h) (d + 14) 3 3 = some (D 16 0) := by unfold am_gfI; rw [dv_in d D h (i := 14) (by omega)]; rfl
theorem dv_p0 (x : Int) : am_pf (dv d D h) (d + 14) 3 3 (am_I x) = some (dv d (dup D 16 0 x) h) := by
  unfold am_pf
  rw [dv_in d D h (i := 14) (by omega)]
  show some (am_set _ _ _) = _
  congr 1
  refine dv_set (i := 14) (by omega) rfl (fun j hj hne => ?_)
  match j, hj, hne with
  | 0, _, hne => exact rfl
  | 1, _, hne => exact rfl
  | 2, _, hne => exact rfl
  | 3, _, hne => exact rfl
  | 4, _, hne => exact rfl
  | 5, _, hne => exact rfl
  | 6, _, hne => exact rfl
  | 7, _, hne => exact rfl
  | 8, _, hne => exact rfl
  | 9, _, hne => exact rfl
  | 10, _, hne => exact rfl
  | 11, _, hne => exact rfl
  | 12, _, hne => exact rfl
  | 13, _, hne => exact rfl
  | 14, _, hne => exact absurd rfl hne
  | 15, _, hne => exact rfl
  | 16, _, hne => exact rfl
  | 17, _, hne => exact rfl
  | i + 18, hj, _ => exact absurd hj (by omega)
theorem dv_i1 : am_gfI (dv d D h) (d + 14) 3 4 = some (D 16 1) := by unfold am_gfI; rw [dv_in d D h (i := 14) (by omega)]; rfl
theorem dv_p1 (x : Int) : am_pf (dv d D h) (d + 14) 3 4 (am_I x) = some (dv d (dup D 16 1 x) h) := by
  unfold am_pf
  rw [dv_in d D h (i := 14) (by omega)]
  show some (am_set _ _ _) = _
  congr 1
  refine dv_set (i := 14) (by omega) rfl (fun j hj hne => ?_)
  match j, hj, hne with
  | 0, _, hne => exact rfl
  | 1, _, hne => exact rfl
  | 2, _, hne => exact rfl
  | 3, _, hne => exact rfl
  | 4, _, hne => exact rfl
  | 5, _, hne => exact rfl
  | 6, _, hne => exact rfl
  | 7, _, hne => exact rfl
  | 8, _, hne => exact rfl
  | 9, _, hne => exact rfl
  | 10, _, hne => exact rfl
  | 11, _, hne => exact rfl
  | 12, _, hne => exact rfl
  | 13, _, hne => exact rfl
  | 14, _, hne => exact absurd rfl hne
  | 15, _, hne => exact rfl
  | 16, _, hne => exact rfl
  | 17, _, hne => exact rfl
  | i + 18, hj, _ => exact absurd hj (by omega)
theorem dv_r0 {j : Int} (h0 : 0 ≤ j) (h1 : j < 7) : am_rd (dv d D h) (d + 1) 0 j = some (D 0 j.toNat) := by
  unfold am_rd
  rw [dv_in d D h (i := 1) (by omega)]
  show (if 0 = 0 ∧ 0 ≤ j ∧ j < (7 : Nat) then some (cut 7 (D 0) j.toNat) else none) = _
  rw [if_pos ⟨rfl, h0, h1⟩, cut_at _ (by omega)]
theorem dv_w0 {j : Int} (x : Int) (h0 : 0 ≤ j) (h1 : j < 7) : am_wr (dv d D h) (d + 1) 0 j x = some (dv d (dup D 0 j.toNat x) h) := by
  unfold am_wr
  rw [dv_in d D h (i := 1) (by omega)]
  show (if 0 = 0 ∧ 0 ≤ j ∧ j < (7 : Nat) then some (am_set _ _ (am_ar 0 7 (va_up (cut 7 (D 0)) j.toNat x))) else none) = _
  rw [if_pos ⟨rfl, h0, h1⟩, cut_up _ (by omega)]
  congr 1
  refine dv_set (i := 1) (by omega) rfl (fun j hj hne => ?_)
  match j, hj, hne with
  | 0, _, hne => exact rfl
  | 1, _, hne => exact absurd rfl hne
  | 2, _, hne => exact rfl
  | 3, _, hne => exact rfl
  | 4, _, hne => exact rfl
  | 5, _, hne => exact rfl
  | 6, _, hne => exact rfl
  | 7, _, hne => exact rfl
  | 8, _, hne => exact rfl
  | 9, _, hne => exact rfl
  | 10, _, hne => exact rfl
  | 11, _, hne => exact rfl
  | 12, _, hne => exact rfl
  | 13, _, hne => exact rfl
  | 14, _, hne => exact rfl
  | 15, _, hne => exact rfl
  | 16, _, hne => exact rfl
  | 17, _, hne => exact rfl
  | i + 18, hj, _ => exact absurd hj (by omega)
theorem dv_c0 (E : Nat → Nat → Int) {e : Nat} (hde : d + 18 ≤ e ∨ e + 18 ≤ d) : am_cpy (dv d D (dv e E h)) (am_R (e + 1)) 0 (d + 1) 0 7 = some (dv d (drow D 0 (E 0)) (dv e E h)) := by
  unfold am_cpy
  show (match (dv d D (dv e E h)).1 (e + 1) with
    | .inr (.inl (t, n, f)) => if t = 0 then am_cp (dv d D (dv e E h)) f n 0 (d + 1) 0 7 else none
    | _ => none) = _
  rw [dv_out (by omega), dv_in e E h (i := 1) (by omega)]
  show (if 0 = 0 then am_cp (dv d D (dv e E h)) (cut 7 (E 0)) 7 0 (d + 1) 0 7 else none) = _
  rw [if_pos rfl]
  unfold am_cp
  rw [dv_in d D _ (i := 1) (by omega)]
  show (if 0 = 0 ∧ (0 : Int) ≤ 0 ∧ (0 : Int) ≤ 0 ∧ (0 : Int) ≤ 7 ∧ (0 : Int) + 7 ≤ (7 : Nat) ∧ (0 : Int) + 7 ≤ (7 : Nat) then some (am_set _ _ (am_ar 0 7 (va_cpy (cut 7 (E 0)) (cut 7 (D 0)) 0 0 7))) else none) = _
  rw [if_pos (by omega)]
  congr 1
  refine dv_set (i := 1) (by omega) ?_ (fun j hj hne => ?_)
  · show am_ar 0 7 (cut 7 (E 0)) = _
    congr 3
    funext q
    unfold va_cpy cut
    by_cases a : q < 7
    · rw [if_pos a, if_pos (by omega), if_pos (by omega)]; congr 1; omega
    · rw [if_neg a, if_neg (by omega), if_neg a]
  match j, hj, hne with
  | 0, _, hne => exact rfl
  | 1, _, hne => exact absurd rfl hne
  | 2, _, hne => exact rfl
  | 3, _, hne => exact rfl
  | 4, _, hne => exact rfl
  | 5, _, hne => exact rfl
  | 6, _, hne => exact rfl
  | 7, _, hne => exact rfl
  | 8, _, hne => exact rfl
  | 9, _, hne => exact rfl
  | 10, _, hne => exact rfl
  | 11, _, hne => exact rfl
  | 12, _, hne => exact rfl
  | 13, _, hne => exact rfl
  | 14, _, hne => exact rfl
  | 15, _, hne => exact rfl
  | 16, _, hne => exact rfl
  | 17, _, hne => exact rfl
  | i + 18, hj, _ => exact absurd hj (by omega)
theorem dv_r1 {j : Int} (h0 : 0 ≤ j) (h1 : j < 8) : am_rd (dv d D h) (d + 2) 0 j = some (D 1 j.toNat) := by
  unfold am_rd
  rw [dv_in d D h (i := 2) (by omega)]
  show (if 0 = 0 ∧ 0 ≤ j ∧ j < (8 : Nat) then some (cut 8 (D 1) j.toNat) else none) = _
  rw [if_pos ⟨rfl, h0, h1⟩, cut_at _ (by omega)]
theorem dv_w1 {j : Int} (x : Int) (h0 : 0 ≤ j) (h1 : j < 8) : am_wr (dv d D h) (d + 2) 0 j x = some (dv d (dup D 1 j.toNat x) h) := by
  unfold am_wr
  rw [dv_in d D h (i := 2) (by omega)]
  show (if 0 = 0 ∧ 0 ≤ j ∧ j < (8 : Nat) then some (am_set _ _ (am_ar 0 8 (va_up (cut 8 (D 1)) j.toNat x))) else none) = _
  rw [if_pos ⟨rfl, h0, h1⟩, cut_up _ (by omega)]
  congr 1
  refine dv_set (i := 2) (by omega) rfl (fun j hj hne => ?_)
  match j, hj, hne with
  | 0, _, hne => exact rfl
  | 1, _, hne => exact rfl
  | 2, _, hne => exact absurd rfl hne
  | 3, _, hne => exact rfl
  | 4, _, hne => exact rfl
  | 5, _, hne => exact rfl
  | 6, _, hne => exact rfl
  | 7, _, hne => exact rfl
  | 8, _, hne => exact rfl
  | 9, _, hne => exact rfl
  | 10, _, hne => exact rfl
  | 11, _, hne => exact rfl
  | 12, _, hne => exact rfl
  | 13, _, hne => exact rfl
  | 14, _, hne => exact rfl
  | 15, _, hne => exact rfl
  | 16, _, hne => exact rfl
  | 17, _, hne => exact rfl
  | i + 18, hj, _ => exact absurd hj (by omega)
theorem dv_c1 (E : Nat → Nat → Int) {e : Nat} (hde : d + 18 ≤ e ∨ e + 18 ≤ d) : am_cpy (dv d D (dv e E h)) (am_R (e + 2)) 0 (d + 2) 0 8 = some (dv d (drow D 1 (E 1)) (dv e E h)) := by
  unfold am_cpy
  show (match (dv d D (dv e E h)).1 (e + 2) with
    | .inr (.inl (t, n, f)) => if t = 0 then am_cp (dv d D (dv e E h)) f n 0 (d + 2) 0 8 else none
    | _ => none) = _
  rw [dv_out (by omega), dv_in e E h (i := 2) (by omega)]
  show (if 0 = 0 then am_cp (dv d D (dv e E h)) (cut 8 (E 1)) 8 0 (d + 2) 0 8 else none) = _
  rw [if_pos rfl]
  unfold am_cp
  rw [dv_in d D _ (i := 2) (by omega)]
  show (if 0 = 0 ∧ (0 : Int) ≤ 0 ∧ (0 : Int) ≤ 0 ∧ (0 : Int) ≤ 8 ∧ (0 : Int) + 8 ≤ (8 : Nat) ∧ (0 : Int) + 8 ≤ (8 : Nat) then some (am_set _ _ (am_ar 0 8 (va_cpy (cut 8 (E 1)) (cut 8 (D 1)) 0 0 8))) else none) = _
  rw [if_pos (by omega)]
  congr 1
  refine dv_set (i := 2) (by omega) ?_ (fun j hj hne => ?_)
  · show am_ar 0 8 (cut 8 (E 1)) = _
    congr 3
    funext q
    unfold va_cpy cut
    by_cases a : q < 8
    · rw [if_pos a, if_pos (by omega), if_pos (by omega)]; congr 1; omega
    · rw [if_neg a, if_neg (by omega), if_neg a]
  match j, hj, hne with
  | 0, _, hne => exact rfl
  | 1, _, hne => exact rfl
  | 2, _, hne => exact absurd rfl hne
  | 3, _, hne => exact rfl
  | 4, _, hne => exact rfl
  | 5, _, hne => exact rfl
  | 6, _, hne => exact rfl
  | 7, _, hne => exact rfl
  | 8, _, hne => exact rfl
  | 9, _, hne => exact rfl
  | 10, _, hne => exact rfl
  | 11, _, hne => exact rfl
  | 12, _, hne => exact rfl
  | 13, _, hne => exact rfl
  | 14, _, hne => exact rfl
  | 15, _, hne => exact rfl
  | 16, _, hne => exact rfl
  | 17, _, hne => exact rfl
  | i + 18, hj, _ => exact absurd hj (by omega)
theorem dv_r2 {j : Int} (h0 : 0 ≤ j) (h1 : j < 8) : am_rd (dv d D h) (d + 3) 0 j = some (D 2 j.toNat) := by
  unfold am_rd
  rw [dv_in d D h (i := 3) (by omega)]
  show (if 0 = 0 ∧ 0 ≤ j ∧ j < (8 : Nat) then some (cut 8 (D 2) j.toNat) else none) = _
  rw [if_pos ⟨rfl, h0, h1⟩, cut_at _ (by omega)]
theorem dv_w2 {j : Int} (x : Int) (h0 : 0 ≤ j) (h1 : j < 8) : am_wr (dv d D h) (d + 3) 0 j x = some (dv d (dup D 2 j.toNat x) h) := by
  unfold am_wr
  rw [dv_in d D h (i := 3) (by omega)]
  show (if 0 = 0 ∧ 0 ≤ j ∧ j < (8 : Nat) then some (am_set _ _ (am_ar 0 8 (va_up (cut 8 (D 2)) j.toNat x))) else none) = _
  rw [if_pos ⟨rfl, h0, h1⟩, cut_up _ (by omega)]
  congr 1
  refine dv_set (i := 3) (by omega) rfl (fun j hj hne => ?_)
  match j, hj, hne with
  | 0, _, hne => exact rfl
  | 1, _, hne => exact rfl
  | 2, _, hne => exact rfl
  | 3, _, hne => exact absurd rfl hne
  | 4, _, hne => exact rfl
  | 5, _, hne => exact rfl
  | 6, _, hne => exact rfl
  | 7, _, hne => exact rfl
  | 8, _, hne => exact rfl
  | 9, _, hne => exact rfl
  | 10, _, hne => exact rfl
  | 11, _, hne => exact rfl
  | 12, _, hne => exact rfl
  | 13, _, hne => exact rfl
  | 14, _, hne => exact rfl
  | 15, _, hne => exact rfl
  | 16, _, hne => exact rfl
  | 17, _, hne => exact rfl
  | i + 18, hj, _ => exact absurd hj (by omega)
theorem dv_c2 (E : Nat → Nat → Int) {e : Nat} (hde : d + 18 ≤ e ∨ e + 18 ≤ d) : am_cpy (dv d D (dv e E h)) (am_R (e + 3)) 0 (d + 3) 0 8 = some (dv d (drow D 2 (E 2)) (dv e E h)) := by
  unfold am_cpy
  show (match (dv d D (dv e E h)).1 (e + 3) with
    | .inr (.inl (t, n, f)) => if t = 0 then am_cp (dv d D (dv e E h)) f n 0 (d + 3) 0 8 else none
    | _ => none) = _
  rw [dv_out (by omega), dv_in e E h (i := 3) (by omega)]
  show (if 0 = 0 then am_cp (dv d D (dv e E h)) (cut 8 (E 2)) 8 0 (d + 3) 0 8 else none) = _
  rw [if_pos rfl]
  unfold am_cp
  rw [dv_in d D _ (i := 3) (by omega)]
  show (if 0 = 0 ∧ (0 : Int) ≤ 0 ∧ (0 : Int) ≤ 0 ∧ (0 : Int) ≤ 8 ∧ (0 : Int) + 8 ≤ (8 : Nat) ∧ (0 : Int) + 8 ≤ (8 : Nat) then some (am_set _ _ (am_ar 0 8 (va_cpy (cut 8 (E 2)) (cut 8 (D 2)) 0 0 8))) else none) = _
  rw [if_pos (by omega)]
  congr 1
  refine dv_set (i := 3) (by omega) ?_ (fun j hj hne => ?_)
  · show am_ar 0 8 (cut 8 (E 2)) = _
    congr 3
    funext q
    unfold va_cpy cut
    by_cases a : q < 8
    · rw [if_pos a, if_pos (by omega), if_pos (by omega)]; congr 1; omega
    · rw [if_neg a, if_neg (by omega), if_neg a]
  match j, hj, hne with
  | 0, _, hne => exact rfl
  | 1, _, hne => exact rfl
  | 2, _, hne => exact rfl
  | 3, _, hne => exact absurd rfl hne
  | 4, _, hne => exact rfl
  | 5, _, hne => exact rfl
  | 6, _, hne => exact rfl
  | 7, _, hne => exact rfl
  | 8, _, hne => exact rfl
  | 9, _, hne => exact rfl
  | 10, _, hne => exact rfl
  | 11, _, hne => exact rfl
  | 12, _, hne => exact rfl
  | 13, _, hne => exact rfl
  | 14, _, hne => exact rfl
  | 15, _, hne => exact rfl
  | 16, _, hne => exact rfl
  | 17, _, hne => exact rfl
  | i + 18, hj, _ => exact absurd hj (by omega)
theorem dv_r3 {j : Int} (h0 : 0 ≤ j) (h1 : j < 8) : am_rd (dv d D h) (d + 4) 0 j = some (D 3 j.toNat) := by
  unfold am_rd
  rw [dv_in d D h (i := 4) (by omega)]
  show (if 0 = 0 ∧ 0 ≤ j ∧ j < (8 : Nat) then some (cut 8 (D 3) j.toNat) else none) = _
  rw [if_pos ⟨rfl, h0, h1⟩, cut_at _ (by omega)]
theorem dv_w3 {j : Int} (x : Int) (h0 : 0 ≤ j) (h1 : j < 8) : am_wr (dv d D h) (d + 4) 0 j x = some (dv d (dup D 3 j.toNat x) h) := by
  unfold am_wr
  rw [dv_in d D h (i := 4) (by omega)]
  show (if 0 = 0 ∧ 0 ≤ j ∧ j < (8 : Nat) then some (am_set _ _ (am_ar 0 8 (va_up (cut 8 (D 3)) j.toNat x))) else none) = _
  rw [if_pos ⟨rfl, h0, h1⟩, cut_up _ (by omega)]
  congr 1
  refine dv_set (i := 4) (by omega) rfl (fun j hj hne => ?_)
  match j, hj, hne with
  | 0, _, hne => exact rfl
  | 1, _, hne => exact rfl
  | 2, _, hne => exact rfl
  | 3, _, hne => exact rfl
  | 4, _, hne => exact absurd rfl hne
  | 5, _, hne => exact rfl
  | 6, _, hne => exact rfl
  | 7, _, hne => exact rfl
  | 8, _, hne => exact rfl
  | 9, _, hne => exact rfl
  | 10, _, hne => exact rfl
  | 11, _, hne => exact rfl
  | 12, _, hne => exact rfl
  | 13, _, hne => exact rfl
  | 14, _, hne => exact rfl
  | 15, _, hne => exact rfl
  | 16, _, hne => exact rfl
  | 17, _, hne => exact rfl
  | i + 18, hj, _ => exact absurd hj (by omega)
theorem dv_c3 (E : Nat → Nat → Int) {e : Nat} (hde : d + 18 ≤ e ∨ e + 18 ≤ d) : am_cpy (dv d D (dv e E h)) (am_R (e + 4)) 0 (d + 4) 0 8 = some (dv d (drow D 3 (E 3)) (dv e E h)) := by
  unfold am_cpy
  show (match (dv d D (dv e E h)).1 (e + 4) with
    | .inr (.inl (t, n, f)) => if t = 0 then am_cp (dv d D (dv e E h)) f n 0 (d + 4) 0 8 else none
    | _ => none) = _
  rw [dv_out (by omega), dv_in e E h (i := 4) (by omega)]
  show (if 0 = 0 then am_cp (dv d D (dv e E h)) (cut 8 (E 3)) 8 0 (d + 4) 0 8 else none) = _
  rw [if_pos rfl]
  unfold am_cp
  rw [dv_in d D _ (i := 4) (by omega)]
  show (if 0 = 0 ∧ (0 : Int) ≤ 0 ∧ (0 : Int) ≤ 0 ∧ (0 : Int) ≤ 8 ∧ (0 : Int) + 8 ≤ (8 : Nat) ∧ (0 : Int) + 8 ≤ (8 : Nat) then some (am_set _ _ (am_ar 0 8 (va_cpy (cut 8 (E 3)) (cut 8 (D 3)) 0 0 8))) else none) = _
  rw [if_pos (by omega)]
  congr 1
  refine dv_set (i := 4) (by omega) ?_ (fun j hj hne => ?_)
  · show am_ar 0 8 (cut 8 (E 3)) = _
    congr 3
    funext q
    unfold va_cpy cut
    by_cases a : q < 8
    · rw [if_pos a, if_pos (by omega), if_pos (by omega)]; congr 1; omega
    · rw [if_neg a, if_neg (by omega), if_neg a]
  match j, hj, hne with
  | 0, _, hne => exact rfl
  | 1, _, hne => exact rfl
  | 2, _, hne => exact rfl
  | 3, _, hne => exact rfl
  | 4, _, hne => exact absurd rfl hne
  | 5, _, hne => exact rfl
  | 6, _, hne => exact rfl
  | 7, _, hne => exact rfl
  | 8, _, hne => exact rfl
  | 9, _, hne => exact rfl
  | 10, _, hne => exact rfl
  | 11, _, hne => exact rfl
  | 12, _, hne => exact rfl
  | 13, _, hne => exact rfl
  | 14, _, hne => exact rfl
  | 15, _, hne => exact rfl
  | 16, _, hne => exact rfl
  | 17, _, hne => exact rfl
  | i + 18, hj, _ => exact absurd hj (by omega)
theorem dv_r4 {j : Int} (h0 : 0 ≤ j) (h1 : j < 8) : am_rd (dv d D h) (d + 5) 0 j = some (D 4 j.toNat) := by
  unfold am_rd
  rw [dv_in d D h (i := 5) (by omega)]
  show (if 0 = 0 ∧ 0 ≤ j ∧ j < (8 : Nat) then some (cut 8 (D 4) j.toNat) else none) = _
  rw [if_pos ⟨rfl, h0, h1⟩, cut_at _ (by omega)]
theorem dv_w4 {j : Int} (x : Int) (h0 : 0 ≤ j) (h1 : j < 8) : am_wr (dv d D h) (d + 5) 0 j x = some (dv d (dup D 4 j.toNat x) h) := by
  unfold am_wr
  rw [dv_in d D h (i := 5) (by omega)]
  show (if 0 = 0 ∧ 0 ≤ j ∧ j < (8 : Nat) then some (am_set _ _ (am_ar 0 8 (va_up (cut 8 (D 4)) j.toNat x))) else none) = _
  rw [if_pos ⟨rfl, h0, h1⟩, cut_up _ (by omega)]
  congr 1
  refine dv_set (i := 5) (by omega) rfl (fun j hj hne => ?_)
  match j, hj, hne with
  | 0, _, hne => exact rfl
  | 1, _, hne => exact rfl
  | 2, _, hne => exact rfl
  | 3, _, hne => exact rfl
  | 4, _, hne => exact rfl
  | 5, _, hne => exact absurd rfl hne
  | 6, _, hne => exact rfl
  | 7, _, hne => exact rfl
  | 8, _, hne => exact rfl
  | 9, _, hne => exact rfl
  | 10, _, hne => exact rfl
  | 11, _, hne => exact rfl
  | 12, _, hne => exact rfl
  | 13, _, hne => exact rfl
  | 14, _, hne => exact rfl
  | 15, _, hne => exact rfl
  | 16, _, hne => exact rfl
  | 17, _, hne => exact rfl
  | i + 18, hj, _ => exact absurd hj (by omega)
theorem dv_c4 (E : Nat → Nat → Int) {e : Nat} (hde : d + 18 ≤ e ∨ e + 18 ≤ d) : am_cpy (dv d D (dv e E h)) (am_R (e + 5)) 0 (d + 5) 0 8 = some (dv d (drow D 4 (E 4)) (dv e E h)) := by
  unfold am_cpy
  show (match (dv d D (dv e E h)).1 (e + 5) with
    | .inr (.inl (t, n, f)) => if t = 0 then am_cp (dv d D (dv e E h)) f n 0 (d + 5) 0 8 else none
    | _ => none) = _
  rw [dv_out (by omega), dv_in e E h (i := 5) (by omega)]
  show (if 0 = 0 then am_cp (dv d D (dv e E h)) (cut 8 (E 4)) 8 0 (d + 5) 0 8 else none) = _
  rw [if_pos rfl]
  unfold am_cp
  rw [dv_in d D _ (i := 5) (by omega)]
  show (if 0 = 0 ∧ (0 : Int) ≤ 0 ∧ (0 : Int) ≤ 0 ∧ (0 : Int) ≤ 8 ∧ (0 : Int) + 8 ≤ (8 : Nat) ∧ (0 : Int) + 8 ≤ (8 : Nat) then some (am_set _ _ (am_ar 0 8 (va_cpy (cut 8 (E 4)) (cut 8 (D 4)) 0 0 8))) else none) = _
  rw [if_pos (by omega)]
  congr 1
  refine dv_set (i := 5) (by omega) ?_ (fun j hj hne => ?_)
  · show am_ar 0 8 (cut 8 (E 4)) = _
    congr 3
    funext q
    unfold va_cpy cut
    by_cases a : q < 8
    · rw [if_pos a, if_pos (by omega), if_pos (by omega)]; congr 1; omega
    · rw [if_neg a, if_neg (by omega), if_neg a]
  match j, hj, hne with
  | 0, _, hne => exact rfl
  | 1, _, hne => exact rfl
  | 2, _, hne => exact rfl
  | 3, _, hne => exact rfl
  | 4, _, hne => exact rfl
  | 5, _, hne => exact absurd rfl hne
  | 6, _, hne => exact rfl
  | 7, _, hne => exact rfl
  | 8, _, hne => exact rfl
  | 9, _, hne => exact rfl
  | 10, _, hne => exact rfl
  | 11, _, hne => exact rfl
  | 12, _, hne => exact rfl
  | 13, _, hne => exact rfl
  | 14, _, hne => exact rfl
  | 15, _, hne => exact rfl
  | 16, _, hne => exact rfl
  | 17, _, hne => exact rfl
  | i + 18, hj, _ => exact absurd hj (by omega)
theorem dv_r5 {j : Int} (h0 : 0 ≤ j) (h1 : j < 8) : am_rd (dv d D h) (d + 6) 0 j = some (D 5 j.toNat) := by
  unfold am_rd
  rw [dv_in d D h (i := 6) (by omega)]
  show (if 0 = 0 ∧ 0 ≤ j ∧ j < (8 : Nat) then some (cut 8 (D 5) j.toNat) else none) = _
  rw [if_pos ⟨rfl, h0, h1⟩, cut_at _ (by omega)]
theorem dv_w5 {j : Int} (x : Int) (h0 : 0 ≤ j) (h1 : j < 8) : am_wr (dv d D h) (d + 6) 0 j x = some (dv d (dup D 5 j.toNat x) h) := by
  unfold am_wr
  rw [dv_in d D h (i := 6) (by omega)]
  show (if 0 = 0 ∧ 0 ≤ j ∧ j < (8 : Nat) then some (am_set _ _ (am_ar 0 8 (va_up (cut 8 (D 5)) j.toNat x))) else none) = _
  rw [if_pos ⟨rfl, h0, h1⟩, cut_up _ (by omega)]
  congr 1
  refine dv_set (i := 6) (by omega) rfl (fun j hj hne => ?_)
  match j, hj, hne with
  | 0, _, hne => exact rfl
  | 1, _, hne => exact rfl
  | 2, _, hne => exact rfl
  | 3, _, hne => exact rfl
  | 4, _, hne => exact rfl
  | 5, _, hne => exact rfl
  | 6, _, hne => exact absurd rfl hne
  | 7, _, hne => exact rfl
  | 8, _, hne => exact rfl
  | 9, _, hne => exact rfl
  | 10, _, hne => exact rfl
  | 11, _, hne => exact rfl
  | 12, _, hne => exact rfl
  | 13, _, hne => exact rfl
  | 14, _, hne => exact rfl
  | 15, _, hne => exact rfl
  | 16, _, hne => exact rfl
  | 17, _, hne => exact rfl
  | i + 18, hj, _ => exact absurd hj (by omega)
theorem dv_c5 (E : Nat → Nat → Int) {e : Nat} (hde : d + 18 ≤ e ∨ e + 18 ≤ d) : am_cpy (dv d D (dv e E h)) (am_R (e + 6)) 0 (d + 6) 0 8 = some (dv d (drow D 5 (E 5)) (dv e E h)) := by
  unfold am_cpy
  show (match (dv d D (dv e E h)).1 (e + 6) with
    | .inr (.inl (t, n, f)) => if t = 0 then am_cp (dv d D (dv e E h)) f n 0 (d + 6) 0 8 else none
    | _ => none) = _
  rw [dv_out (by omega), dv_in e E h (i := 6) (by omega)]
  show (if 0 = 0 then am_cp (dv d D (dv e E h)) (cut 8 (E 5)) 8 0 (d + 6) 0 8 else none) = _
  rw [if_pos rfl]
  unfold am_cp
  rw [dv_in d D _ (i := 6) (by omega)]
  show (if 0 = 0 ∧ (0 : Int) ≤ 0 ∧ (0 : Int) ≤ 0 ∧ (0 : Int) ≤ 8 ∧ (0 : Int) + 8 ≤ (8 : Nat) ∧ (0 : Int) + 8 ≤ (8 : Nat) then some (am_set _ _ (am_ar 0 8 (va_cpy (cut 8 (E 5)) (cut 8 (D 5)) 0 0 8))) else none) = _
  rw [if_pos (by omega)]
  congr 1
  refine dv_set (i := 6) (by omega) ?_ (fun j hj hne => ?_)
  · show am_ar 0 8 (cut 8 (E 5)) = _
    congr 3
    funext q
    unfold va_cpy cut
    by_cases a : q < 8
    · rw [if_pos a, if_pos (by omega), if_pos (by omega)]; congr 1; omega
    · rw [if_neg a, if_neg (by omega), if_neg a]
  match j, hj, hne with
  | 0, _, hne => exact rfl
  | 1, _, hne => exact rfl
  | 2, _, hne => exact rfl
  | 3, _, hne => exact rfl
  | 4, _, hne => exact rfl
  | 5, _, hne => exact rfl
  | 6, _, hne => exact absurd rfl hne
  | 7, _, hne => exact rfl
  | 8, _, hne => exact rfl
  | 9, _, hne => exact rfl
  | 10, _, hne => exact rfl
  | 11, _, hne => exact rfl
  | 12, _, hne => exact rfl
  | 13, _, hne => exact rfl
  | 14, _, hne => exact rfl
  | 15, _, hne => exact rfl
  | 16, _, hne => exact rfl
  | 17, _, hne => exact rfl
  | i + 18, hj, _ => exact absurd hj (by omega)
theorem dv_r6 {j : Int} (h0 : 0 ≤ j) (h1 : j < 3) : am_rd (dv d D h) (d + 7) 0 j = some (D 6 j.toNat) := by
  unfold am_rd
  rw [dv_in d D h (i := 7) (by omega)]
  show (if 0 = 0 ∧ 0 ≤ j ∧ j < (3 : Nat) then some (cut 3 (D 6) j.toNat) else none) = _
  rw [if_pos ⟨rfl, h0, h1⟩, cut_at _ (by omega)]
theorem dv_w6 {j : Int} (x : Int) (h0 : 0 ≤ j) (h1 : j < 3) : am_wr (dv d D h) (d + 7) 0 j x = some (dv d (dup D 6 j.toNat x) h) := by
  unfold am_wr
  rw [dv_in d D h (i := 7) (by omega)]
  show (if 0 = 0 ∧ 0 ≤ j ∧ j < (3 : Nat) then some (am_set _ _ (am_ar 0 3 (va_up (cut 3 (D 6)) j.toNat x))) else none) = _
  rw [if_pos ⟨rfl, h0, h1⟩, cut_up _ (by omega)]
  congr 1
  refine dv_set (i := 7) (by omega) rfl (fun j hj hne => ?_)
  match j, hj, hne with
  | 0, _, hne => exact rfl
  | 1, _, hne => exact rfl
  | 2, _, hne => exact rfl
  | 3, _, hne => exact rfl
  | 4, _, hne => exact rfl
  | 5, _, hne => exact rfl
  | 6, _, hne => exact rfl
  | 7, _, hne => exact absurd rfl hne
  | 8, _, hne => exact rfl
  | 9, _, hne => exact rfl
  | 10, _, hne => exact rfl
  | 11, _, hne => exact rfl
  | 12, _, hne => exact rfl
  | 13, _, hne => exact rfl
  | 14, _, hne => exact rfl
  | 15, _, hne => exact rfl
  | 16, _, hne => exact rfl
  | 17, _, hne => exact rfl
  | i + 18, hj, _ => exact absurd hj (by omega)
theorem dv_c6 (E : Nat → Nat → Int) {e : Nat} (hde : d + 18 ≤ e ∨ e + 18 ≤ d) : am_cpy (dv d D (dv e E h)) (am_R (e + 7)) 0 (d + 7) 0 3 = some (dv d (drow D 6 (E 6)) (dv e E h)) := by
  unfold am_cpy
  show (match (dv d D (dv e E h)).1 (e + 7) with
    | .inr (.inl (t, n, f)) => if t = 0 then am_cp (dv d D (dv e E h)) f n 0 (d + 7) 0 3 else none
    | _ => none) = _
  rw [dv_out (by omega), dv_in e E h (i := 7) (by omega)]
  show (if 0 = 0 then am_cp (dv d D (dv e E h)) (cut 3 (E 6)) 3 0 (d + 7) 0 3 else none) = _
  rw [if_pos rfl]
  unfold am_cp
  rw [dv_in d D _ (i := 7) (by omega)]
  show (if 0 = 0 ∧ (0 : Int) ≤ 0 ∧ (0 : Int) ≤ 0 ∧ (0 : Int) ≤ 3 ∧ (0 : Int) + 3 ≤ (3 : Nat) ∧ (0 : Int) + 3 ≤ (3 : Nat) then some (am_set _ _ (am_ar 0 3 (va_cpy (cut 3 (E 6)) (cut 3 (D 6)) 0 0 3))) else none) = _
  rw [if_pos (by omega)]
  congr 1
  refine dv_set (i := 7) (by omega) ?_ (fun j hj hne => ?_)
  · show am_ar 0 3 (cut 3 (E 6)) = _
    congr 3
    funext q
    unfold va_cpy cut
    by_cases a : q < 3
    · rw [if_pos a, if_pos (by omega), if_pos (by omega)]; congr 1; omega
    · rw [if_neg a, if_neg (by omega), if_neg a]
  match j, hj, hne with
  | 0, _, hne => exact rfl
  | 1, _, hne => exact rfl
  | 2, _, hne => exact rfl
  | 3, _, hne => exact rfl
  | 4, _, hne => exact rfl
  | 5, _, hne => exact rfl
  | 6, _, hne => exact rfl
  | 7, _, hne => exact absurd rfl hne
  | 8, _, hne => exact rfl
  | 9, _, hne => exact rfl
  | 10, _, hne => exact rfl
  | 11, _, hne => exact rfl
  | 12, _, hne => exact rfl
  | 13, _, hne => exact rfl
  | 14, _, hne => exact rfl
  | 15, _, hne => exact rfl
  | 16, _, hne => exact rfl
  | 17, _, hne => exact rfl
  | i + 18, hj, _ => exact absurd hj (by omega)
theorem dv_r7 {j : Int} (h0 : 0 ≤ j) (h1 : j < 128) : am_rd (dv d D h) (d + 8) 0 j = some (D 7 j.toNat) := by
  unfold am_rd
  rw [dv_in d D h (i := 8) (by omega)]
  show (if 0 = 0 ∧ 0 ≤ j ∧ j < (128 : Nat) then some (cut 128 (D 7) j.toNat) else none) = _
  rw [if_pos ⟨rfl, h0, h1⟩, cut_at _ (by omega)]
theorem dv_w7 {j : Int} (x : Int) (h0 : 0 ≤ j) (h1 : j < 128) : am_wr (dv d D h) (d + 8) 0 j x = some (dv d (dup D 7 j.toNat x) h) := by
  unfold am_wr
  rw [dv_in d D h (i := 8) (by omega)]
  show (if 0 = 0 ∧ 0 ≤ j ∧ j < (128 : Nat) then some (am_set _ _ (am_ar 0 128 (va_up (cut 128 (D 7)) j.toNat x))) else none) = _
  rw [if_pos ⟨rfl, h0, h1⟩, cut_up _ (by omega)]
  congr 1
  refine dv_set (i := 8) (by omega) rfl (fun j hj hne => ?_)
  match j, hj, hne with
  | 0, _, hne => exact rfl
  | 1, _, hne => exact rfl
  | 2, _, hne => exact rfl
  | 3, _, hne => exact rfl
  | 4, _, hne => exact rfl
  | 5, _, hne => exact rfl
  | 6, _, hne => exact rfl
  | 7, _, hne => exact rfl
  | 8, _, hne => exact absurd rfl hne
  | 9, _, hne => exact rfl
  | 10, _, hne => exact rfl
  | 11, _, hne => exact rfl
  | 12, _, hne => exact rfl
  | 13, _, hne => exact rfl
  | 14, _, hne => exact rfl
  | 15, _, hne => exact rfl
  | 16, _, hne => exact rfl
  | 17, _, hne => exact rfl
  | i + 18, hj, _ => exact absurd hj (by omega)
theorem dv_c7 (E : Nat → Nat → Int) {e : Nat} (hde : d + 18 ≤ e ∨ e + 18 ≤ d) : am_cpy (dv d D (dv e E h)) (am_R (e + 8)) 0 (d + 8) 0 128 = some (dv d (drow D 7 (E 7)) (dv e E h)) := by
  unfold am_cpy
  show (match (dv d D (dv e E h)).1 (e + 8) with
    | .inr (.inl (t, n, f)) => if t = 0 then am_cp (dv d D (dv e E h)) f n 0 (d + 8) 0 128 else none
    | _ => none) = _
  rw [dv_out (by omega), dv_in e E h (i := 8) (by omega)]
  show (if 0 = 0 then am_cp (dv d D (dv e E h)) (cut 128 (E 7)) 128 0 (d + 8) 0 128 else none) = _
  rw [if_pos rfl]
  unfold am_cp
  rw [dv_in d D _ (i := 8) (by omega)]
  show (if 0 = 0 ∧ (0 : Int) ≤ 0 ∧ (0 : Int) ≤ 0 ∧ (0 : Int) ≤ 128 ∧ (0 : Int) + 128 ≤ (128 : Nat) ∧ (0 : Int) + 128 ≤ (128 : Nat) then some (am_set _ _ (am_ar 0 128 (va_cpy (cut 128 (E 7)) (cut 128 (D 7)) 0 0 128))) else none) = _
  rw [if_pos (by omega)]
  congr 1
  refine dv_set (i := 8) (by omega) ?_ (fun j hj hne => ?_)
  · show am_ar 0 128 (cut 128 (E 7)) = _
    congr 3
    funext q
    unfold va_cpy cut
    by_cases a : q < 128
    · rw [if_pos a, if_pos (by omega), if_pos (by omega)]; congr 1; omega
    · rw [if_neg a, if_neg (by omega), if_neg a]
  match j, hj, hne with
  | 0, _, hne => exact rfl
  | 1, _, hne => exact rfl
  | 2, _, hne => exact rfl
  | 3, _, hne => exact rfl
  | 4, _, hne => exact rfl
  | 5, _, hne => exact rfl
  | 6, _, hne => exact rfl
  | 7, _, hne => exact rfl
  | 8, _, hne => exact absurd rfl hne
  | 9, _, hne => exact rfl
  | 10, _, hne => exact rfl
  | 11, _, hne => exact rfl
  | 12, _, hne => exact rfl
  | 13, _, hne => exact rfl
  | 14, _, hne => exact rfl
  | 15, _, hne => exact rfl
  | 16, _, hne => exact rfl
  | 17, _, hne => exact rfl
  | i + 18, hj, _ => exact absurd hj (by omega)
theorem dv_r8 {j : Int} (h0 : 0 ≤ j) (h1 : j < 128) : am_rd (dv d D h) (d + 9) 0 j = some (D 8 j.toNat) := by
  unfold am_rd
  rw [dv_in d D h (i := 9) (by omega)]
  show (if 0 = 0 ∧ 0 ≤ j ∧ j < (128 : Nat) then some (cut 128 (D 8) j.toNat) else none) = _
  rw [if_pos ⟨rfl, h0, h1⟩, cut_at _ (by omega)]
theorem dv_w8 {j : Int} (x : Int) (h0 : 0 ≤ j) (h1 : j < 128) : am_wr (dv d D h) (d + 9) 0 j x = some (dv d (dup D 8 j.toNat x) h) := by
  unfold am_wr
  rw [dv_in d D h (i := 9) (by omega)]
  show (if 0 = 0 ∧ 0 ≤ j ∧ j < (128 : Nat) then some (am_set _ _ (am_ar 0 128 (va_up (cut 128 (D 8)) j.toNat x))) else none) = _
  rw [if_pos ⟨rfl, h0, h1⟩, cut_up _ (by omega)]
  congr 1
  refine dv_set (i := 9) (by omega) rfl (fun j hj hne => ?_)
  match j, hj, hne with
  | 0, _, hne => exact rfl
  | 1, _, hne => exact rfl
  | 2, _, hne => exact rfl
  | 3, _, hne => exact rfl
  | 4, _, hne => exact rfl
  | 5, _, hne => exact rfl
  | 6, _, hne => exact rfl
  | 7, _, hne => exact rfl
  | 8, _, hne => exact rfl
  | 9, _, hne => exact absurd rfl hne
  | 10, _, hne => exact rfl
  | 11, _, hne => exact rfl
  | 12, _, hne => exact rfl
  | 13, _, hne => exact rfl
  | 14, _, hne => exact rfl
  | 15, _, hne => exact rfl
  | 16, _, hne => exact rfl
  | 17, _, hne => exact rfl
  | i + 18, hj, _ => exact absurd hj (by omega)
theorem dv_c8 (E : Nat → Nat → Int) {e : Nat} (hde : d + 18 ≤ e ∨ e + 18 ≤ d) : am_cpy (dv d D (dv e E h)) (am_R (e + 9)) 0 (d + 9) 0 128 = some (dv d (drow D 8 (E 8)) (dv e E h)) := by
  unfold am_cpy
  show (match (dv d D (dv e E h)).1 (e + 9) with
    | .inr (.inl (t, n, f)) => if t = 0 then am_cp (dv d D (dv e E h)) f n 0 (d + 9) 0 128 else none
    | _ => none) = _
  rw [dv_out (by omega), dv_in e E h (i := 9) (by omega)]
  show (if 0 = 0 then am_cp (dv d D (dv e E h)) (cut 128 (E 8)) 128 0 (d + 9) 0 128 else none) = _
  rw [if_pos rfl]
  unfold am_cp
  rw [dv_in d D _ (i := 9) (by omega)]
  show (if 0 = 0 ∧ (0 : Int) ≤ 0 ∧ (0 : Int) ≤ 0 ∧ (0 : Int) ≤ 128 ∧ (0 : Int) + 128 ≤ (128 : Nat) ∧ (0 : Int) + 128 ≤ (128 : Nat) then some (am_set _ _ (am_ar 0 128 (va_cpy (cut 128 (E 8)) (cut 128 (D 8)) 0 0 128))) else none) = _
  rw [if_pos (by omega)]
  congr 1
  refine dv_set (i := 9) (by omega) ?_ (fun j hj hne => ?_)
  · show am_ar 0 128 (cut 128 (E 8)) = _
    congr 3
    funext q
    unfold va_cpy cut
    by_cases a : q < 128
    · rw [if_pos a, if_pos (by omega), if_pos (by omega)]; congr 1; omega
    · rw [if_neg a, if_neg (by omega), if_neg a]
  match j, hj, hne with
  | 0, _, hne => exact rfl
  | 1, _, hne => exact rfl
  | 2, _, hne => exact rfl
  | 3, _, hne => exact rfl
  | 4, _, hne => exact rfl
  | 5, _, hne => exact rfl
  | 6, _, hne => exact rfl
  | 7, _, hne => exact rfl
  | 8, _, hne => exact rfl
  | 9, _, hne => exact absurd rfl hne
  | 10, _, hne => exact rfl
  | 11, _, hne => exact rfl
  | 12, _, hne => exact rfl
  | 13, _, hne => exact rfl
  | 14, _, hne => exact rfl
  | 15, _, hne => exact rfl
  | 16, _, hne => exact rfl
  | 17, _, hne => exact rfl
  | i + 18, hj, _ => exact absurd hj (by omega)
theorem dv_r9 {j : Int} (h0 : 0 ≤ j) (h1 : j < 128) : am_rd (dv d D h) (d + 10) 0 j = some (D 9 j.toNat) := by
  unfold am_rd
  rw [dv_in d D h (i := 10) (by omega)]
  show (if 0 = 0 ∧ 0 ≤ j ∧ j < (128 : Nat) then some (cut 128 (D 9) j.toNat) else none) = _
  rw [if_pos ⟨rfl, h0, h1⟩, cut_at _ (by omega)]
theorem dv_w9 {j : Int} (x : Int) (h0 : 0 ≤ j) (h1 : j < 128) : am_wr (dv d D h) (d + 10) 0 j x = some (dv d (dup D 9 j.toNat x) h) := by
  unfold am_wr
  rw [dv_in d D h (i := 10) (by omega)]
  show (if 0 = 0 ∧ 0 ≤ j ∧ j < (128 : Nat) then some (am_set _ _ (am_ar 0 128 (va_up (cut 128 (D 9)) j.toNat x))) else none) = _
  rw [if_pos ⟨rfl, h0, h1⟩, cut_up _ (by omega)]
  congr 1
  refine dv_set (i := 10) (by omega) rfl (fun j hj hne => ?_)
  match j, hj, hne with
  | 0, _, hne => exact rfl
  | 1, _, hne => exact rfl
  | 2, _, hne => exact rfl
  | 3, _, hne => exact rfl
  | 4, _, hne => exact rfl
  | 5, _, hne => exact rfl
  | 6, _, hne => exact rfl
  | 7, _, hne => exact rfl
  | 8, _, hne => exact rfl
  | 9, _, hne => exact rfl
  | 10, _, hne => exact absurd rfl hne
  | 11, _, hne => exact rfl
  | 12, _, hne => exact rfl
  | 13, _, hne => exact rfl
  | 14, _, hne => exact rfl
  | 15, _, hne => exact rfl
  | 16, _, hne => exact rfl
  | 17, _, hne => exact rfl
  | i + 18, hj, _ => exact absurd hj (by omega)
theorem dv_c9 (E : Nat → Nat → Int) {e : Nat} (hde : d + 18 ≤ e ∨ e + 18 ≤ d) : am_cpy (dv d D (dv e E h)) (am_R (e + 10)) 0 (d + 10) 0 128 = some (dv d (drow D 9 (E 9)) (dv e E h)) := by
  unfold am_cpy
  show (match (dv d D (dv e E h)).1 (e + 10) with
    | .inr (.inl (t, n, f)) => if t = 0 then am_cp (dv d D (dv e E h)) f n 0 (d + 10) 0 128 else none
    | _ => none) = _
  rw [dv_out (by omega), dv_in e E h (i := 10) (by omega)]
  show (if 0 = 0 then am_cp (dv d D (dv e E h)) (cut 128 (E 9)) 128 0 (d + 10) 0 128 else none) = _
  rw [if_pos rfl]
  unfold am_cp
  rw [dv_in d D _ (i := 10) (by omega)]
  show (if 0 = 0 ∧ (0 : Int) ≤ 0 ∧ (0 : Int) ≤ 0 ∧ (0 : Int) ≤ 128 ∧ (0 : Int) + 128 ≤ (128 : Nat) ∧ (0 : Int) + 128 ≤ (128 : Nat) then some (am_set _ _ (am_ar 0 128 (va_cpy (cut 128 (E 9)) (cut 128 (D 9)) 0 0 128))) else none) = _
  rw [if_pos (by omega)]
  congr 1
  refine dv_set (i := 10) (by omega) ?_ (fun j hj hne => ?_)
  · show am_ar 0 128 (cut 128 (E 9)) = _
    congr 3
    funext q
    unfold va_cpy cut
    by_cases a : q < 128
    · rw [if_pos a, if_pos (by omega), if_pos (by omega)]; congr 1; omega
    · rw [if_neg a, if_neg (by omega), if_neg a]
  match j, hj, hne with
  | 0, _, hne => exact rfl
  | 1, _, hne => exact rfl
  | 2, _, hne => exact rfl
  | 3, _, hne => exact rfl
  | 4, _, hne => exact rfl
  | 5, _, hne => exact rfl
  | 6, _, hne => exact rfl
  | 7, _, hne => exact rfl
  | 8, _, hne => exact rfl
  | 9, _, hne => exact rfl
  | 10, _, hne => exact absurd rfl hne
  | 11, _, hne => exact rfl
  | 12, _, hne => exact rfl
  | 13, _, hne => exact rfl
  | 14, _, hne => exact rfl
  | 15, _, hne => exact rfl
  | 16, _, hne => exact rfl
  | 17, _, hne => exact rfl
  | i + 18, hj, _ => exact absurd hj (by omega)
theorem dv_r10 {j : Int} (h0 : 0 ≤ j) (h1 : j < 32) : am_rd (dv d D h) (d + 11) 0 j = some (D 10 j.toNat) := by
  unfold am_rd
  rw [dv_in d D h (i := 11) (by omega)]
  show (if 0 = 0 ∧ 0 ≤ j ∧ j < (32 : Nat) then some (cut 32 (D 10) j.toNat) else none) = _
  rw [if_pos ⟨rfl, h0, h1⟩, cut_at _ (by omega)]
theorem dv_w10 {j : Int} (x : Int) (h0 : 0 ≤ j) (h1 : j < 32) : am_wr (dv d D h) (d + 11) 0 j x = some (dv d (dup D 10 j.toNat x) h) := by
  unfold am_wr
  rw [dv_in d D h (i := 11) (by omega)]
  show (if 0 = 0 ∧ 0 ≤ j ∧ j < (32 : Nat) then some (am_set _ _ (am_ar 0 32 (va_up (cut 32 (D 10)) j.toNat x))) else none) = _
  rw [if_pos ⟨rfl, h0, h1⟩, cut_up _ (by omega)]
  congr 1
  refine dv_set (i := 11) (by omega) rfl (fun j hj hne => ?_)
  match j, hj, hne with
  | 0, _, hne => exact rfl
  | 1, _, hne => exact rfl
  | 2, _, hne => exact rfl
  | 3, _, hne => exact rfl
  | 4, _, hne => exact rfl
  | 5, _, hne => exact rfl
  | 6, _, hne => exact rfl
  | 7, _, hne => exact rfl
  | 8, _, hne => exact rfl
  | 9, _, hne => exact rfl
  | 10, _, hne => exact rfl
  | 11, _, hne => exact absurd rfl hne
  | 12, _, hne => exact rfl
  | 13, _, hne => exact rfl
  | 14, _, hne => exact rfl
  | 15, _, hne => exact rfl
  | 16, _, hne => exact rfl
  | 17, _, hne => exact rfl
  | i + 18, hj, _ => exact absurd hj (by omega)
theorem dv_c10 (E : Nat → Nat → Int) {e : Nat} (hde : d + 18 ≤ e ∨ e + 18 ≤ d) : am_cpy (dv d D (dv e E h)) (am_R (e + 11)) 0 (d + 11) 0 32 = some (dv d (drow D 10 (E 10)) (dv e E h)) := by
  unfold am_cpy
  show (match (dv d D (dv e E h)).1 (e + 11) with
    | .inr (.inl (t, n, f)) => if t = 0 then am_cp (dv d D (dv e E h)) f n 0 (d + 11) 0 32 else none
    | _ => none) = _
  rw [dv_out (by omega), dv_in e E h (i := 11) (by omega)]
  show (if 0 = 0 then am_cp (dv d D (dv e E h)) (cut 32 (E 10)) 32 0 (d + 11) 0 32 else none) = _
  rw [if_pos rfl]
  unfold am_cp
  rw [dv_in d D _ (i := 11) (by omega)]
  show (if 0 = 0 ∧ (0 : Int) ≤ 0 ∧ (0 : Int) ≤ 0 ∧ (0 : Int) ≤ 32 ∧ (0 : Int) + 32 ≤ (32 : Nat) ∧ (0 : Int) + 32 ≤ (32 : Nat) then some (am_set _ _ (am_ar 0 32 (va_cpy (cut 32 (E 10)) (cut 32 (D 10)) 0 0 32))) else none) = _
  rw [if_pos (by omega)]
  congr 1
  refine dv_set (i := 11) (by omega) ?_ (fun j hj hne => ?_)
  · show am_ar 0 32 (cut 32 (E 10)) = _
    congr 3
    funext q
    unfold va_cpy cut
    by_cases a : q < 32
    · rw [if_pos a, if_pos (by omega), if_pos (by omega)]; congr 1; omega
    · rw [if_neg a, if_neg (by omega), if_neg a]
  match j, hj, hne with
  | 0, _, hne => exact rfl
  | 1, _, hne => exact rfl
  | 2, _, hne => exact rfl
  | 3, _, hne => exact rfl
  | 4, _, hne => exact rfl
  | 5, _, hne => exact rfl
  | 6, _, hne => exact rfl
  | 7, _, hne => exact rfl
  | 8, _, hne => exact rfl
  | 9, _, hne => exact rfl
  | 10, _, hne => exact rfl
  | 11, _, hne => exact absurd rfl hne
  | 12, _, hne => exact rfl
  | 13, _, hne => exact rfl
  | 14, _, hne => exact rfl
  | 15, _, hne => exact rfl
  | 16, _, hne => exact rfl
  | 17, _, hne => exact rfl
  | i + 18, hj, _ => exact absurd hj (by omega)
theorem dv_r11 {j : Int} (h0 : 0 ≤ j) (h1 : j < 32) : am_rd (dv d D h) (d + 12) 0 j = some (D 11 j.toNat) := by
  unfold am_rd
  rw [dv_in d D h (i := 12) (by omega)]
  show (if 0 = 0 ∧ 0 ≤ j ∧ j < (32 : Nat) then some (cut 32 (D 11) j.toNat) else none) = _
  rw [if_pos ⟨rfl, h0, h1⟩, cut_at _ (by omega)]
theorem dv_w11 {j : Int} (x : Int) (h0 : 0 ≤ j) (h1 : j < 32) : am_wr (dv d D h) (d + 12) 0 j x = some (dv d (dup D 11 j.toNat x) h) := by
  unfold am_wr
  rw [dv_in d D h (i := 12) (by omega)]
  show (if 0 = 0 ∧ 0 ≤ j ∧ j < (32 : Nat) then some (am_set _ _ (am_ar 0 32 (va_up (cut 32 (D 11)) j.toNat x))) else none) = _
  rw [if_pos ⟨rfl, h0, h1⟩, cut_up _ (by omega)]
  congr 1
  refine dv_set (i := 12) (by omega) rfl (fun j hj hne => ?_)
  match j, hj, hne with
  | 0, _, hne => exact rfl
  | 1, _, hne => exact rfl
  | 2, _, hne => exact rfl
  | 3, _, hne => exact rfl
  | 4, _, hne => exact rfl
  | 5, _, hne => exact rfl
  | 6, _, hne => exact rfl
  | 7, _, hne => exact rfl
  | 8, _, hne => exact rfl
  | 9, _, hne => exact rfl
  | 10, _, hne => exact rfl
  | 11, _, hne => exact rfl
  | 12, _, hne => exact absurd rfl hne
  | 13, _, hne => exact rfl
  | 14, _, hne => exact rfl
  | 15, _, hne => exact rfl
  | 16, _, hne => exact rfl
  | 17, _, hne => exact rfl
  | i + 18, hj, _ => exact absurd hj (by omega)
theorem dv_c11 (E : Nat → Nat → Int) {e : Nat} (hde : d + 18 ≤ e ∨ e + 18 ≤ d) : am_cpy (dv d D (dv e E h)) (am_R (e + 12)) 0 (d + 12) 0 32 = some (dv d (drow D 11 (E 11)) (dv e E h)) := by
  unfold am_cpy
  show (match (dv d D (dv e E h)).1 (e + 12) with
    | .inr (.inl (t, n, f)) => if t = 0 then am_cp (dv d D (dv e E h)) f n 0 (d + 12) 0 32 else none
    | _ => none) = _
  rw [dv_out (by omega), dv_in e E h (i := 12) (by omega)]
  show (if 0 = 0 then am_cp (dv d D (dv e E h)) (cut 32 (E 11)) 32 0 (d + 12) 0 32 else none) = _
  rw [if_pos rfl]
  unfold am_cp
  rw [dv_in d D _ (i := 12) (by omega)]
  show (if 0 = 0 ∧ (0 : Int) ≤ 0 ∧ (0 : Int) ≤ 0 ∧ (0 : Int) ≤ 32 ∧ (0 : Int) + 32 ≤ (32 : Nat) ∧ (0 : Int) + 32 ≤ (32 : Nat) then some (am_set _ _ (am_ar 0 32 (va_cpy (cut 32 (E 11)) (cut 32 (D 11)) 0 0 32))) else none) = _
  rw [if_pos (by omega)]
  congr 1
  refine dv_set (i := 12) (by omega) ?_ (fun j hj hne => ?_)
  · show am_ar 0 32 (cut 32 (E 11)) = _
    congr 3
    funext q
    unfold va_cpy cut
    by_cases a : q < 32
    · rw [if_pos a, if_pos (by omega), if_pos (by omega)]; congr 1; omega
    · rw [if_neg a, if_neg (by omega), if_neg a]
  match j, hj, hne with
  | 0, _, hne => exact rfl
  | 1, _, hne => exact rfl
  | 2, _, hne => exact rfl
  | 3, _, hne => exact rfl
  | 4, _, hne => exact rfl
  | 5, _, hne => exact rfl
  | 6, _, hne => exact rfl
  | 7, _, hne => exact rfl
  | 8, _, hne => exact rfl
  | 9, _, hne => exact rfl
  | 10, _, hne => exact rfl
  | 11, _, hne => exact rfl
  | 12, _, hne => exact absurd rfl hne
  | 13, _, hne => exact rfl
  | 14, _, hne => exact rfl
  | 15, _, hne => exact rfl
  | 16, _, hne => exact rfl
  | 17, _, hne => exact rfl
  | i + 18, hj, _ => exact absurd hj (by omega)
theorem dv_r12 {j : Int} (h0 : 0 ≤ j) (h1 : j < 32) : am_rd (dv d D h) (d + 13) 0 j = some (D 12 j.toNat) := by
  unfold am_rd
  rw [dv_in d D h (i := 13) (by omega)]
  show (if 0 = 0 ∧ 0 ≤ j ∧ j < (32 : Nat) then some (cut 32 (D 12) j.toNat) else none) = _
  rw [if_pos ⟨rfl, h0, h1⟩, cut_at _ (by omega)]
theorem dv_w12 {j : Int} (x : Int) (h0 : 0 ≤ j) (h1 : j < 32) : am_wr (dv d D h) (d + 13) 0 j x = some (dv d (dup D 12 j.toNat x) h) := by
  unfold am_wr
  rw [dv_in d D h (i := 13) (by omega)]
  show (if 0 = 0 ∧ 0 ≤ j ∧ j < (32 : Nat) then some (am_set _ _ (am_ar 0 32 (va_up (cut 32 (D 12)) j.toNat x))) else none) = _
  rw [if_pos ⟨rfl, h0, h1⟩, cut_up _ (by omega)]
  congr 1
  refine dv_set (i := 13) (by omega) rfl (fun j hj hne => ?_)
  match j, hj, hne with
  | 0, _, hne => exact rfl
  | 1, _, hne => exact rfl
  | 2, _, hne => exact rfl
  | 3, _, hne => exact rfl
  | 4, _, hne => exact rfl
  | 5, _, hne => exact rfl
  | 6, _, hne => exact rfl
  | 7, _, hne => exact rfl
  | 8, _, hne => exact rfl
  | 9, _, hne => exact rfl
  | 10, _, hne => exact rfl
  | 11, _, hne => exact rfl
  | 12, _, hne => exact rfl
  | 13, _, hne => exact absurd rfl hne
  | 14, _, hne => exact rfl
  | 15, _, hne => exact rfl
  | 16, _, hne => exact rfl
  | 17, _, hne => exact rfl
  | i + 18, hj, _ => exact absurd hj (by omega)
theorem dv_c12 (E : Nat → Nat → Int) {e : Nat} (hde : d + 18 ≤ e ∨ e + 18 ≤ d) : am_cpy (dv d D (dv e E h)) (am_R (e + 13)) 0 (d + 13) 0 32 = some (dv d (drow D 12 (E 12)) (dv e E h)) := by
  unfold am_cpy
  show (match (dv d D (dv e E h)).1 (e + 13) with
    | .inr (.inl (t, n, f)) => if t = 0 then am_cp (dv d D (dv e E h)) f n 0 (d + 13) 0 32 else none
    | _ => none) = _
  rw [dv_out (by omega), dv_in e E h (i := 13) (by omega)]
  show (if 0 = 0 then am_cp (dv d D (dv e E h)) (cut 32 (E 12)) 32 0 (d + 13) 0 32 else none) = _
  rw [if_pos rfl]
  unfold am_cp
  rw [dv_in d D _ (i := 13) (by omega)]
  show (if 0 = 0 ∧ (0 : Int) ≤ 0 ∧ (0 : Int) ≤ 0 ∧ (0 : Int) ≤ 32 ∧ (0 : Int) + 32 ≤ (32 : Nat) ∧ (0 : Int) + 32 ≤ (32 : Nat) then some (am_set _ _ (am_ar 0 32 (va_cpy (cut 32 (E 12)) (cut 32 (D 12)) 0 0 32))) else none) = _
  rw [if_pos (by omega)]
  congr 1
  refine dv_set (i := 13) (by omega) ?_ (fun j hj hne => ?_)
  · show am_ar 0 32 (cut 32 (E 12)) = _
    congr 3
    funext q
    unfold va_cpy cut
    by_cases a : q < 32
    · rw [if_pos a, if_pos (by omega), if_pos (by omega)]; congr 1; omega
    · rw [if_neg a, if_neg (by omega), if_neg a]
  match j, hj, hne with
  | 0, _, hne => exact rfl
  | 1, _, hne => exact rfl
  | 2, _, hne => exact rfl
  | 3, _, hne => exact rfl
  | 4, _, hne => exact rfl
  | 5, _, hne => exact rfl
  | 6, _, hne => exact rfl
  | 7, _, hne => exact rfl
  | 8, _, hne => exact rfl
  | 9, _, hne => exact rfl
  | 10, _, hne => exact rfl
  | 11, _, hne => exact rfl
  | 12, _, hne => exact rfl
  | 13, _, hne => exact absurd rfl hne
  | 14, _, hne => exact rfl
  | 15, _, hne => exact rfl
  | 16, _, hne => exact rfl
  | 17, _, hne => exact rfl
  | i + 18, hj, _ => exact absurd hj (by omega)
theorem dv_r13 {j : Int} (h0 : 0 ≤ j) (h1 : j < 60) : am_rd (dv d D h) (d + 15) 0 j = some (D 13 j.toNat) := by
  unfold am_rd
  rw [dv_in d D h (i := 15) (by omega)]
  show (if 0 = 0 ∧ 0 ≤ j ∧ j < (60 : Nat) then some (cut 60 (D 13) j.toNat) else none) = _
  rw [if_pos ⟨rfl, h0, h1⟩, cut_at _ (by omega)]
theorem dv_w13 {j : Int} (x : Int) (h0 : 0 ≤ j) (h1 : j < 60) : am_wr (dv d D h) (d + 15) 0 j x = some (dv d (dup D 13 j.toNat x) h) := by
  unfold am_wr
  rw [dv_in d D h (i := 15) (by omega)]
  show (if 0 = 0 ∧ 0 ≤ j ∧ j < (60 : Nat) then some (am_set _ _ (am_ar 0 60 (va_up (cut 60 (D 13)) j.toNat x))) else none) = _
  rw [if_pos ⟨rfl, h0, h1⟩, cut_up _ (by omega)]
  congr 1
  refine dv_set (i := 15) (by omega) rfl (fun j hj hne => ?_)
  match j, hj, hne with
  | 0, _, hne => exact rfl
  | 1, _, hne => exact rfl
  | 2, _, hne => exact rfl
  | 3, _, hne => exact rfl
  | 4, _, hne => exact rfl
  | 5, _, hne => exact rfl
  | 6, _, hne => exact rfl
  | 7, _, hne => exact rfl
  | 8, _, hne => exact rfl
  | 9, _, hne => exact rfl
  | 10, _, hne => exact rfl
  | 11, _, hne => exact rfl
  | 12, _, hne => exact rfl
  | 13, _, hne => exact rfl
  | 14, _, hne => exact rfl
  | 15, _, hne => exact absurd rfl hne
  | 16, _, hne => exact rfl
  | 17, _, hne => exact rfl
  | i + 18, hj, _ => exact absurd hj (by omega)
theorem dv_c13 (E : Nat → Nat → Int) {e : Nat} (hde : d + 18 ≤ e ∨ e + 18 ≤ d) : am_cpy (dv d D (dv e E h)) (am_R (e + 15)) 0 (d + 15) 0 60 = some (dv d (drow D 13 (E 13)) (dv e E h)) := by
  unfold am_cpy
  show (match (dv d D (dv e E h)).1 (e + 15) with
    | .inr (.inl (t, n, f)) => if t = 0 then am_cp (dv d D (dv e E h)) f n 0 (d + 15) 0 60 else none
    | _ => none) = _
  rw [dv_out (by omega), dv_in e E h (i := 15) (by omega)]
  show (if 0 = 0 then am_cp (dv d D (dv e E h)) (cut 60 (E 13)) 60 0 (d + 15) 0 60 else none) = _
  rw [if_pos rfl]
  unfold am_cp
  rw [dv_in d D _ (i := 15) (by omega)]
  show (if 0 = 0 ∧ (0 : Int) ≤ 0 ∧ (0 : Int) ≤ 0 ∧ (0 : Int) ≤ 60 ∧ (0 : Int) + 60 ≤ (60 : Nat) ∧ (0 : Int) + 60 ≤ (60 : Nat) then some (am_set _ _ (am_ar 0 60 (va_cpy (cut 60 (E 13)) (cut 60 (D 13)) 0 0 60))) else none) = _
  rw [if_pos (by omega)]
  congr 1
  refine dv_set (i := 15) (by omega) ?_ (fun j hj hne => ?_)
  · show am_ar 0 60 (cut 60 (E 13)) = _
    congr 3
    funext q
    unfold va_cpy cut
    by_cases a : q < 60
    · rw [if_pos a, if_pos (by omega), if_pos (by omega)]; congr 1; omega
    · rw [if_neg a, if_neg (by omega), if_neg a]
  match j, hj, hne with
  | 0, _, hne => exact rfl
  | 1, _, hne => exact rfl
  | 2, _, hne => exact rfl
  | 3, _, hne => exact rfl
  | 4, _, hne => exact rfl
  | 5, _, hne => exact rfl
  | 6, _, hne => exact rfl
  | 7, _, hne => exact rfl
  | 8, _, hne => exact rfl
  | 9, _, hne => exact rfl
  | 10, _, hne => exact rfl
  | 11, _, hne => exact rfl
  | 12, _, hne => exact rfl
  | 13, _, hne => exact rfl
  | 14, _, hne => exact rfl
  | 15, _, hne => exact absurd rfl hne
  | 16, _, hne => exact rfl
  | 17, _, hne => exact rfl
  | i + 18, hj, _ => exact absurd hj (by omega)
theorem dv_r14 {j : Int} (h0 : 0 ≤ j) (h1 : j < 60) : am_rd (dv d D h) (d + 16) 0 j = some (D 14 j.toNat) := by
  unfold am_rd
  rw [dv_in d D h (i := 16) (by omega)]
  show (if 0 = 0 ∧ 0 ≤ j ∧ j < (60 : Nat) then some (cut 60 (D 14) j.toNat) else none) = _
  rw [if_pos ⟨rfl, h0, h1⟩, cut_at _ (by omega)]
theorem dv_w14 {j : Int} (x : Int) (h0 : 0 ≤ j) (h1 : j < 60) : am_wr (dv d D h) (d + 16) 0 j x = some (dv d (dup D 14 j.toNat x) h) := by
  unfold am_wr
  rw [dv_in d D h (i := 16) (by omega)]
  show (if 0 = 0 ∧ 0 ≤ j ∧ j < (60 : Nat) then some (am_set _ _ (am_ar 0 60 (va_up (cut 60 (D 14)) j.toNat x))) else none) = _
  rw [if_pos ⟨rfl, h0, h1⟩, cut_up _ (by omega)]
  congr 1
  refine dv_set (i := 16) (by omega) rfl (fun j hj hne => ?_)
  match j, hj, hne with
  | 0, _, hne => exact rfl
  | 1, _, hne => exact rfl
  | 2, _, hne => exact rfl
  | 3, _, hne => exact rfl
  | 4, _, hne => exact rfl
  | 5, _, hne => exact rfl
  | 6, _, hne => exact rfl
  | 7, _, hne => exact rfl
  | 8, _, hne => exact rfl
  | 9, _, hne => exact rfl
  | 10, _, hne => exact rfl
  | 11, _, hne => exact rfl
  | 12, _, hne => exact rfl
  | 13, _, hne => exact rfl
  | 14, _, hne => exact rfl
  | 15, _, hne => exact rfl
  | 16, _, hne => exact absurd rfl hne
  | 17, _, hne => exact rfl
  | i + 18, hj, _ => exact absurd hj (by omega)
theorem dv_c14 (E : Nat → Nat → Int) {e : Nat} (hde : d + 18 ≤ e ∨ e + 18 ≤ d) : am_cpy (dv d D (dv e E h)) (am_R (e + 16)) 0 (d + 16) 0 60 = some (dv d (drow D 14 (E 14)) (dv e E h)) := by
  unfold am_cpy
  show (match (dv d D (dv e E h)).1 (e + 16) with
    | .inr (.inl (t, n, f)) => if t = 0 then am_cp (dv d D (dv e E h)) f n 0 (d + 16) 0 60 else none
    | _ => none) = _
  rw [dv_out (by omega), dv_in e E h (i := 16) (by omega)]
  show (if 0 = 0 then am_cp (dv d D (dv e E h)) (cut 60 (E 14)) 60 0 (d + 16) 0 60 else none) = _
  rw [if_pos rfl]
  unfold am_cp
  rw [dv_in d D _ (i := 16) (by omega)]
  show (if 0 = 0 ∧ (0 : Int) ≤ 0 ∧ (0 : Int) ≤ 0 ∧ (0 : Int) ≤ 60 ∧ (0 : Int) + 60 ≤ (60 : Nat) ∧ (0 : Int) + 60 ≤ (60 : Nat) then some (am_set _ _ (am_ar 0 60 (va_cpy (cut 60 (E 14)) (cut 60 (D 14)) 0 0 60))) else none) = _
  rw [if_pos (by omega)]
  congr 1
  refine dv_set (i := 16) (by omega) ?_ (fun j hj hne => ?_)
  · show am_ar 0 60 (cut 60 (E 14)) = _
    congr 3
    funext q
    unfold va_cpy cut
    by_cases a : q < 60
    · rw [if_pos a, if_pos (by omega), if_pos (by omega)]; congr 1; omega
    · rw [if_neg a, if_neg (by omega), if_neg a]
  match j, hj, hne with
  | 0, _, hne => exact rfl
  | 1, _, hne => exact rfl
  | 2, _, hne => exact rfl
  | 3, _, hne => exact rfl
  | 4, _, hne => exact rfl
  | 5, _, hne => exact rfl
  | 6, _, hne => exact rfl
  | 7, _, hne => exact rfl
  | 8, _, hne => exact rfl
  | 9, _, hne => exact rfl
  | 10, _, hne => exact rfl
  | 11, _, hne => exact rfl
  | 12, _, hne => exact rfl
  | 13, _, hne => exact rfl
  | 14, _, hne => exact rfl
  | 15, _, hne => exact rfl
  | 16, _, hne => exact absurd rfl hne
  | 17, _, hne => exact rfl
  | i + 18, hj, _ => exact absurd hj (by omega)
theorem dv_r15 {j : Int} (h0 : 0 ≤ j) (h1 : j < 60) : am_rd (dv d D h) (d + 17) 0 j = some (D 15 j.toNat) := by
  unfold am_rd
  rw [dv_in d D h (i := 17) (by omega)]
  show (if 0 = 0 ∧ 0 ≤ j ∧ j < (60 : Nat) then some (cut 60 (D 15) j.toNat) else none) = _
  rw [if_pos ⟨rfl, h0, h1⟩, cut_at _ (by omega)]
theorem dv_w15 {j : Int} (x : Int) (h0 : 0 ≤ j) (h1 : j < 60) : am_wr (dv d D h) (d + 17) 0 j x = some (dv d (dup D 15 j.toNat x) h) := by
  unfold am_wr
  rw [dv_in d D h (i := 17) (by omega)]
  show (if 0 = 0 ∧ 0 ≤ j ∧ j < (60 : Nat) then some (am_set _ _ (am_ar 0 60 (va_up (cut 60 (D 15)) j.toNat x))) else none) = _
  rw [if_pos ⟨rfl, h0, h1⟩, cut_up _ (by omega)]
  congr 1
  refine dv_set (i := 17) (by omega) rfl (fun j hj hne => ?_)
  match j, hj, hne with
  | 0, _, hne => exact rfl
  | 1, _, hne => exact rfl
  | 2, _, hne => exact rfl
  | 3, _, hne => exact rfl
  | 4, _, hne => exact rfl
  | 5, _, hne => exact rfl
  | 6, _, hne => exact rfl
  | 7, _, hne => exact rfl
  | 8, _, hne => exact rfl
  | 9, _, hne => exact rfl
  | 10, _, hne => exact rfl
  | 11, _, hne => exact rfl
  | 12, _, hne => exact rfl
  | 13, _, hne => exact rfl
  | 14, _, hne => exact rfl
  | 15, _, hne => exact rfl
  | 16, _, hne => exact rfl
  | 17, _, hne => exact absurd rfl hne
  | i + 18, hj, _ => exact absurd hj (by omega)
theorem dv_c15 (E : Nat → Nat → Int) {e : Nat} (hde : d + 18 ≤ e ∨ e + 18 ≤ d) : am_cpy (dv d D (dv e E h)) (am_R (e + 17)) 0 (d + 17) 0 60 = some (dv d (drow D 15 (E 15)) (dv e E h)) := by
  unfold am_cpy
  show (match (dv d D (dv e E h)).1 (e + 17) with
    | .inr (.inl (t, n, f)) => if t = 0 then am_cp (dv d D (dv e E h)) f n 0 (d + 17) 0 60 else none
    | _ => none) = _
  rw [dv_out (by omega), dv_in e E h (i := 17) (by omega)]
  show (if 0 = 0 then am_cp (dv d D (dv e E h)) (cut 60 (E 15)) 60 0 (d + 17) 0 60 else none) = _
  rw [if_pos rfl]
  unfold am_cp
  rw [dv_in d D _ (i := 17) (by omega)]
  show (if 0 = 0 ∧ (0 : Int) ≤ 0 ∧ (0 : Int) ≤ 0 ∧ (0 : Int) ≤ 60 ∧ (0 : Int) + 60 ≤ (60 : Nat) ∧ (0 : Int) + 60 ≤ (60 : Nat) then some (am_set _ _ (am_ar 0 60 (va_cpy (cut 60 (E 15)) (cut 60 (D 15)) 0 0 60))) else none) = _
  rw [if_pos (by omega)]
  congr 1
  refine dv_set (i := 17) (by omega) ?_ (fun j hj hne => ?_)
  · show am_ar 0 60 (cut 60 (E 15)) = _
    congr 3
    funext q
    unfold va_cpy cut
    by_cases a : q < 60
    · rw [if_pos a, if_pos (by omega), if_pos (by omega)]; congr 1; omega
    · rw [if_neg a, if_neg (by omega), if_neg a]
  match j, hj, hne with
  | 0, _, hne => exact rfl
  | 1, _, hne => exact rfl
  | 2, _, hne => exact rfl
  | 3, _, hne => exact rfl
  | 4, _, hne => exact rfl
  | 5, _, hne => exact rfl
  | 6, _, hne => exact rfl
  | 7, _, hne => exact rfl
  | 8, _, hne => exact rfl
  | 9, _, hne => exact rfl
  | 10, _, hne => exact rfl
  | 11, _, hne => exact rfl
  | 12, _, hne => exact rfl
  | 13, _, hne => exact rfl
  | 14, _, hne => exact rfl
  | 15, _, hne => exact rfl
  | 16, _, hne => exact rfl
  | 17, _, hne => exact absurd rfl hne
  | i + 18, hj, _ => exact absurd hj (by omega)
end DV
