/-! ===== the model's object ===== -/
def mvc (m : Nat) (M : Nat → Nat → Int) : Nat → am_C
  | 0 => am_ob 9 [am_I (M 0 0), am_R (m + 1), am_I (M 0 2), am_I (M 0 3), am_I (M 0 4), am_R (m + 2), am_R (m + 3), am_R (m + 4), am_R (m + 5), am_R (m + 6), am_R (m + 7), am_I (M 0 11), am_I (M 0 12), am_I (M 0 13), am_I (M 0 14), am_R (m + 8), am_R (m + 9), am_R (m + 10), am_R (m + 11), am_R (m + 12), am_I (M 0 20), am_I (M 0 21), am_I (M 0 22), am_I (M 0 23), am_I (M 0 24), am_I (M 0 25), am_R (m + 13), am_I (M 0 27), am_I (M 0 28), am_L (M 0 29), am_R (m + 14)]
  | 1 => am_ar 1 240 (cut 240 (M 1))
  | 2 => am_ar 0 7 (cut 7 (M 2))
  | 3 => am_ar 0 7 (cut 7 (M 3))
  | 4 => am_ar 0 48 (cut 48 (M 4))
  | 5 => am_ar 0 240 (cut 240 (M 5))
  | 6 => am_ar 0 5 (cut 5 (M 6))
  | 7 => am_ar 0 4 (cut 4 (M 7))
  | 8 => am_ar 0 609 (cut 609 (M 8))
  | 9 => am_ar 0 609 (cut 609 (M 9))
  | 10 => am_ar 0 609 (cut 609 (M 10))
  | 11 => am_ar 0 609 (cut 609 (M 11))
  | 12 => am_ar 0 24360 (cut 24360 (M 12))
  | 13 => am_ar 0 16 (cut 16 (M 13))
  | _ => am_ar 0 128 (cut 128 (M 14))
def mv (m : Nat) (M : Nat → Nat → Int) (h : am_H) : am_H := (fun k => if m ≤ k ∧ k < m + 15 then mvc m M (k - m) else h.1 k, h.2)
section VMV
variable {m : Nat} {M : Nat → Nat → Int} {h : am_H}
theorem mv_in {i : Nat} (hi : i < 15) : (mv m M h).1 (m + i) = mvc m M i := by
  show (if m ≤ m + i ∧ m + i < m + 15 then mvc m M (m + i - m) else h.1 (m + i)) = _
  rw [if_pos ⟨by omega, by omega⟩, Nat.add_sub_cancel_left]
theorem mv_0 : (mv m M h).1 m = mvc m M 0 := mv_in (i := 0) (by omega)
theorem mv_out {k : Nat} (hk : k < m ∨ m + 15 ≤ k) : (mv m M h).1 k = h.1 k := by
  show (if m ≤ k ∧ k < m + 15 then mvc m M (k - m) else h.1 k) = _
  rw [if_neg (by omega)]
theorem mv_n : (mv m M h).2 = h.2 := rfl
theorem mv_set {M' : Nat → Nat → Int} {i : Nat} (hi : i < 15) {c : am_C} (hc : mvc m M' i = c) (ho : ∀ j, j < 15 → j ≠ i → mvc m M' j = mvc m M j) : am_set (mv m M h) (m + i) c = mv m M' h := by
  show (_, _) = (_, _)
  congr 1
  funext k
  show (if k = m + i then c else (if m ≤ k ∧ k < m + 15 then mvc m M (k - m) else h.1 k)) = (if m ≤ k ∧ k < m + 15 then mvc m M' (k - m) else h.1 k)
  by_cases e : k = m + i
  · subst e
    rw [if_pos rfl, if_pos ⟨by omega, by omega⟩, Nat.add_sub_cancel_left, hc]
  · rw [if_neg e]
    by_cases a : m ≤ k ∧ k < m + 15
    · rw [if_pos a, if_pos a, ho (k - m) (by omega) (by omega)]
    · rw [if_neg a, if_neg a]
theorem mv_c0 : am_isc (mv m M h) m 9 = some () := by unfold am_isc; rw [mv_0]; rfl
theorem mv_f0_0 : am_gfI (mv m M h) m 9 0 = some (M 0 0) := by unfold am_gfI; rw [mv_0]; rfl
theorem mv_p0_0 (vv : Int) : am_pf (mv m M h) m 9 0 (am_I vv) = some (mv m (dup M 0 0 vv) h) := by
  unfold am_pf
  rw [mv_0]
  show some (am_set _ _ _) = _
  congr 1
  refine mv_set (i := 0) (by omega) rfl (fun j hj hne => ?_)
  match j, hj, hne with
  | 0, _, hne => exact absurd rfl hne
  | 1, _, _ => exact rfl
  | 2, _, _ => exact rfl
  | 3, _, _ => exact rfl
  | 4, _, _ => exact rfl
  | 5, _, _ => exact rfl
  | 6, _, _ => exact rfl
  | 7, _, _ => exact rfl
  | 8, _, _ => exact rfl
  | 9, _, _ => exact rfl
  | 10, _, _ => exact rfl
  | 11, _, _ => exact rfl
  | 12, _, _ => exact rfl
  | 13, _, _ => exact rfl
  | 14, _, _ => exact rfl
  | j + 15, hj, _ => exact absurd hj (by omega)
theorem mv_f0_1 : am_gfR (mv m M h) m 9 1 = some ((m + 1)) := by unfold am_gfR; rw [mv_0]; rfl
theorem mv_f0_2 : am_gfI (mv m M h) m 9 2 = some (M 0 2) := by unfold am_gfI; rw [mv_0]; rfl
theorem mv_p0_2 (vv : Int) : am_pf (mv m M h) m 9 2 (am_I vv) = some (mv m (dup M 0 2 vv) h) := by
  unfold am_pf
  rw [mv_0]
  show some (am_set _ _ _) = _
  congr 1
  refine mv_set (i := 0) (by omega) rfl (fun j hj hne => ?_)
  match j, hj, hne with
  | 0, _, hne => exact absurd rfl hne
  | 1, _, _ => exact rfl
  | 2, _, _ => exact rfl
  | 3, _, _ => exact rfl
  | 4, _, _ => exact rfl
  | 5, _, _ => exact rfl
  | 6, _, _ => exact rfl
  | 7, _, _ => exact rfl
  | 8, _, _ => exact rfl
  | 9, _, _ => exact rfl
  | 10, _, _ => exact rfl
  | 11, _, _ => exact rfl
  | 12, _, _ => exact rfl
  | 13, _, _ => exact rfl
  | 14, _, _ => exact rfl
  | j + 15, hj, _ => exact absurd hj (by omega)
theorem mv_f0_3 : am_gfI (mv m M h) m 9 3 = some (M 0 3) := by unfold am_gfI; rw [mv_0]; rfl
theorem mv_p0_3 (vv : Int) : am_pf (mv m M h) m 9 3 (am_I vv) = some (mv m (dup M 0 3 vv) h) := by
  unfold am_pf
  rw [mv_0]
  show some (am_set _ _ _) = _
  congr 1
  refine mv_set (i := 0) (by omega) rfl (fun j hj hne => ?_)
  match j, hj, hne with
  | 0, _, hne => exact absurd rfl hne
  | 1, _, _ => exact rfl
  | 2, _, _ => exact rfl
  | 3, _, _ => exact rfl
  | 4, _, _ => exact rfl
  | 5, _, _ => exact rfl
  | 6, _, _ => exact rfl
  | 7, _, _ => exact rfl
  | 8, _, _ => exact rfl
  | 9, _, _ => exact rfl
  | 10, _, _ => exact rfl
  | 11, _, _ => exact rfl
  | 12, _, _ => exact rfl
  | 13, _, _ => exact rfl
  | 14, _, _ => exact rfl
  | j + 15, hj, _ => exact absurd hj (by omega)
theorem mv_f0_4 : am_gfI (mv m M h) m 9 4 = some (M 0 4) := by unfold am_gfI; rw [mv_0]; rfl
theorem mv_p0_4 (vv : Int) : am_pf (mv m M h) m 9 4 (am_I vv) = some (mv m (dup M 0 4 vv) h) := by
  unfold am_pf
  rw [mv_0]
  show some (am_set _ _ _) = _
  congr 1
  refine mv_set (i := 0) (by omega) rfl (fun j hj hne => ?_)
  match j, hj, hne with
  | 0, _, hne => exact absurd rfl hne
  | 1, _, _ => exact rfl
  | 2, _, _ => exact rfl
  | 3, _, _ => exact rfl
  | 4, _, _ => exact rfl
  | 5, _, _ => exact rfl
  | 6, _, _ => exact rfl
  | 7, _, _ => exact rfl
  | 8, _, _ => exact rfl
  | 9, _, _ => exact rfl
  | 10, _, _ => exact rfl
  | 11, _, _ => exact rfl
  | 12, _, _ => exact rfl
  | 13, _, _ => exact rfl
  | 14, _, _ => exact rfl
  | j + 15, hj, _ => exact absurd hj (by omega)
theorem mv_f0_5 : am_gfR (mv m M h) m 9 5 = some ((m + 2)) := by unfold am_gfR; rw [mv_0]; rfl
theorem mv_f0_6 : am_gfR (mv m M h) m 9 6 = some ((m + 3)) := by unfold am_gfR; rw [mv_0]; rfl
theorem mv_f0_7 : am_gfR (mv m M h) m 9 7 = some ((m + 4)) := by unfold am_gfR; rw [mv_0]; rfl
theorem mv_f0_8 : am_gfR (mv m M h) m 9 8 = some ((m + 5)) := by unfold am_gfR; rw [mv_0]; rfl
theorem mv_f0_9 : am_gfR (mv m M h) m 9 9 = some ((m + 6)) := by unfold am_gfR; rw [mv_0]; rfl
theorem mv_f0_10 : am_gfR (mv m M h) m 9 10 = some ((m + 7)) := by unfold am_gfR; rw [mv_0]; rfl
theorem mv_f0_11 : am_gfI (mv m M h) m 9 11 = some (M 0 11) := by unfold am_gfI; rw [mv_0]; rfl
theorem mv_p0_11 (vv : Int) : am_pf (mv m M h) m 9 11 (am_I vv) = some (mv m (dup M 0 11 vv) h) := by
  unfold am_pf
  rw [mv_0]
  show some (am_set _ _ _) = _
  congr 1
  refine mv_set (i := 0) (by omega) rfl (fun j hj hne => ?_)
  match j, hj, hne with
  | 0, _, hne => exact absurd rfl hne
  | 1, _, _ => exact rfl
  | 2, _, _ => exact rfl
  | 3, _, _ => exact rfl
  | 4, _, _ => exact rfl
  | 5, _, _ => exact rfl
  | 6, _, _ => exact rfl
  | 7, _, _ => exact rfl
  | 8, _, _ => exact rfl
  | 9, _, _ => exact rfl
  | 10, _, _ => exact rfl
  | 11, _, _ => exact rfl
  | 12, _, _ => exact rfl
  | 13, _, _ => exact rfl
  | 14, _, _ => exact rfl
  | j + 15, hj, _ => exact absurd hj (by omega)
theorem mv_f0_12 : am_gfI (mv m M h) m 9 12 = some (M 0 12) := by unfold am_gfI; rw [mv_0]; rfl
theorem mv_p0_12 (vv : Int) : am_pf (mv m M h) m 9 12 (am_I vv) = some (mv m (dup M 0 12 vv) h) := by
  unfold am_pf
  rw [mv_0]
  show some (am_set _ _ _) = _
  congr 1
  refine mv_set (i := 0) (by omega) rfl (fun j hj hne => ?_)
  match j, hj, hne with
  | 0, _, hne => exact absurd rfl hne
  | 1, _, _ => exact rfl
  | 2, _, _ => exact rfl
  | 3, _, _ => exact rfl
  | 4, _, _ => exact rfl
  | 5, _, _ => exact rfl
  | 6, _, _ => exact rfl
  | 7, _, _ => exact rfl
  | 8, _, _ => exact rfl
  | 9, _, _ => exact rfl
  | 10, _, _ => exact rfl
  | 11, _, _ => exact rfl
  | 12, _, _ => exact rfl
  | 13, _, _ => exact rfl
  | 14, _, _ => exact rfl
  | j + 15, hj, _ => exact absurd hj (by omega)
theorem mv_f0_13 : am_gfI (mv m M h) m 9 13 = some (M 0 13) := by unfold am_gfI; rw [mv_0]; rfl
theorem mv_p0_13 (vv : Int) : am_pf (mv m M h) m 9 13 (am_I vv) = some (mv m (dup M 0 13 vv) h) := by
  unfold am_pf
  rw [mv_0]
  show some (am_set _ _ _) = _
  congr 1
  refine mv_set (i := 0) (by omega) rfl (fun j hj hne => ?_)
  match j, hj, hne with
  | 0, _, hne => exact absurd rfl hne
  | 1, _, _ => exact rfl
  | 2, _, _ => exact rfl
  | 3, _, _ => exact rfl
  | 4, _, _ => exact rfl
  | 5, _, _ => exact rfl
  | 6, _, _ => exact rfl
  | 7, _, _ => exact rfl
  | 8, _, _ => exact rfl
  | 9, _, _ => exact rfl
  | 10, _, _ => exact rfl
  | 11, _, _ => exact rfl
  | 12, _, _ => exact rfl
  | 13, _, _ => exact rfl
  | 14, _, _ => exact rfl
  | j + 15, hj, _ => exact absurd hj (by omega)
theorem mv_f0_14 : am_gfI (mv m M h) m 9 14 = some (M 0 14) := by unfold am_gfI; rw [mv_0]; rfl
theorem mv_p0_14 (vv : Int) : am_pf (mv m M h) m 9 14 (am_I vv) = some (mv m (dup M 0 14 vv) h) := by
  unfold am_pf
  rw [mv_0]
  show some (am_set _ _ _) = _
  congr 1
  refine mv_set (i := 0) (by omega) rfl (fun j hj hne => ?_)
  match j, hj, hne with
  | 0, _, hne => exact absurd rfl hne
  | 1, _, _ => exact rfl
  | 2, _, _ => exact rfl
  | 3, _, _ => exact rfl
  | 4, _, _ => exact rfl
  | 5, _, _ => exact rfl
  | 6, _, _ => exact rfl
  | 7, _, _ => exact rfl
  | 8, _, _ => exact rfl
  | 9, _, _ => exact rfl
  | 10, _, _ => exact rfl
  | 11, _, _ => exact rfl
  | 12, _, _ => exact rfl
  | 13, _, _ => exact rfl
  | 14, _, _ => exact rfl
  | j + 15, hj, _ => exact absurd hj (by omega)
theorem mv_f0_15 : am_gfR (mv m M h) m 9 15 = some ((m + 8)) := by unfold am_gfR; rw [mv_0]; rfl
theorem mv_f0_16 : am_gfR (mv m M h) m 9 16 = some ((m + 9)) := by unfold am_gfR; rw [mv_0]; rfl
theorem mv_f0_17 : am_gfR (mv m M h) m 9 17 = some ((m + 10)) := by unfold am_gfR; rw [mv_0]; rfl
theorem mv_f0_18 : am_gfR (mv m M h) m 9 18 = some ((m + 11)) := by unfold am_gfR; rw [mv_0]; rfl
theorem mv_f0_19 : am_gfR (mv m M h) m 9 19 = some ((m + 12)) := by unfold am_gfR; rw [mv_0]; rfl
theorem mv_f0_20 : am_gfI (mv m M h) m 9 20 = some (M 0 20) := by unfold am_gfI; rw [mv_0]; rfl
theorem mv_p0_20 (vv : Int) : am_pf (mv m M h) m 9 20 (am_I vv) = some (mv m (dup M 0 20 vv) h) := by
  unfold am_pf
  rw [mv_0]
  show some (am_set _ _ _) = _
  congr 1
  refine mv_set (i := 0) (by omega) rfl (fun j hj hne => ?_)
  match j, hj, hne with
  | 0, _, hne => exact absurd rfl hne
  | 1, _, _ => exact rfl
  | 2, _, _ => exact rfl
  | 3, _, _ => exact rfl
  | 4, _, _ => exact rfl
  | 5, _, _ => exact rfl
  | 6, _, _ => exact rfl
  | 7, _, _ => exact rfl
  | 8, _, _ => exact rfl
  | 9, _, _ => exact rfl
  | 10, _, _ => exact rfl
  | 11, _, _ => exact rfl
  | 12, _, _ => exact rfl
  | 13, _, _ => exact rfl
  | 14, _, _ => exact rfl
  | j + 15, hj, _ => exact absurd hj (by omega)
theorem mv_f0_21 : am_gfI (mv m M h) m 9 21 = some (M 0 21) := by unfold am_gfI; rw [mv_0]; rfl
theorem mv_p0_21 (vv : Int) : am_pf (mv m M h) m 9 21 (am_I vv) = some (mv m (dup M 0 21 vv) h) := by
  unfold am_pf
  rw [mv_0]
  show some (am_set _ _ _) = _
  congr 1
  refine mv_set (i := 0) (by omega) rfl (fun j hj hne => ?_)
  match j, hj, hne with
  | 0, _, hne => exact absurd rfl hne
  | 1, _, _ => exact rfl
  | 2, _, _ => exact rfl
  | 3, _, _ => exact rfl
  | 4, _, _ => exact rfl
  | 5, _, _ => exact rfl
  | 6, _, _ => exact rfl
  | 7, _, _ => exact rfl
  | 8, _, _ => exact rfl
  | 9, _, _ => exact rfl
  | 10, _, _ => exact rfl
  | 11, _, _ => exact rfl
  | 12, _, _ => exact rfl
  | 13, _, _ => exact rfl
  | 14, _, _ => exact rfl
  | j + 15, hj, _ => exact absurd hj (by omega)
theorem mv_f0_22 : am_gfI (mv m M h) m 9 22 = some (M 0 22) := by unfold am_gfI; rw [mv_0]; rfl
theorem mv_p0_22 (vv : Int) : am_pf (mv m M h) m 9 22 (am_I vv) = some (mv m (dup M 0 22 vv) h) := by
  unfold am_pf
  rw [mv_0]
  show some (am_set _ _ _) = _
  congr 1
  refine mv_set (i := 0) (by omega) rfl (fun j hj hne => ?_)
  match j, hj, hne with
  | 0, _, hne => exact absurd rfl hne
  | 1, _, _ => exact rfl
  | 2, _, _ => exact rfl
  | 3, _, _ => exact rfl
  | 4, _, _ => exact rfl
  | 5, _, _ => exact rfl
  | 6, _, _ => exact rfl
  | 7, _, _ => exact rfl
  | 8, _, _ => exact rfl
  | 9, _, _ => exact rfl
  | 10, _, _ => exact rfl
  | 11, _, _ => exact rfl
  | 12, _, _ => exact rfl
  | 13, _, _ => exact rfl
  | 14, _, _ => exact rfl
  | j + 15, hj, _ => exact absurd hj (by omega)
theorem mv_f0_23 : am_gfI (mv m M h) m 9 23 = some (M 0 23) := by unfold am_gfI; rw [mv_0]; rfl
theorem mv_p0_23 (vv : Int) : am_pf (mv m M h) m 9 23 (am_I vv) = some (mv m (dup M 0 23 vv) h) := by
  unfold am_pf
  rw [mv_0]
  show some (am_set _ _ _) = _
  congr 1
  refine mv_set (i := 0) (by omega) rfl (fun j hj hne => ?_)
  match j, hj, hne with
  | 0, _, hne => exact absurd rfl hne
  | 1, _, _ => exact rfl
  | 2, _, _ => exact rfl
  | 3, _, _ => exact rfl
  | 4, _, _ => exact rfl
  | 5, _, _ => exact rfl
  | 6, _, _ => exact rfl
  | 7, _, _ => exact rfl
  | 8, _, _ => exact rfl
  | 9, _, _ => exact rfl
  | 10, _, _ => exact rfl
  | 11, _, _ => exact rfl
  | 12, _, _ => exact rfl
  | 13, _, _ => exact rfl
  | 14, _, _ => exact rfl
  | j + 15, hj, _ => exact absurd hj (by omega)
theorem mv_f0_24 : am_gfI (mv m M h) m 9 24 = some (M 0 24) := by unfold am_gfI; rw [mv_0]; rfl
theorem mv_p0_24 (vv : Int) : am_pf (mv m M h) m 9 24 (am_I vv) = some (mv m (dup M 0 24 vv) h) := by
  unfold am_pf
  rw [mv_0]
  show some (am_set _ _ _) = _
  congr 1
  refine mv_set (i := 0) (by omega) rfl (fun j hj hne => ?_)
  match j, hj, hne with
  | 0, _, hne => exact absurd rfl hne
  | 1, _, _ => exact rfl
  | 2, _, _ => exact rfl
  | 3, _, _ => exact rfl
  | 4, _, _ => exact rfl
  | 5, _, _ => exact rfl
  | 6, _, _ => exact rfl
  | 7, _, _ => exact rfl
  | 8, _, _ => exact rfl
  | 9, _, _ => exact rfl
  | 10, _, _ => exact rfl
  | 11, _, _ => exact rfl
  | 12, _, _ => exact rfl
  | 13, _, _ => exact rfl
  | 14, _, _ => exact rfl
  | j + 15, hj, _ => exact absurd hj (by omega)
theorem mv_f0_25 : am_gfI (mv m M h) m 9 25 = some (M 0 25) := by unfold am_gfI; rw [mv_0]; rfl
theorem mv_p0_25 (vv : Int) : am_pf (mv m M h) m 9 25 (am_I vv) = some (mv m (dup M 0 25 vv) h) := by
  unfold am_pf
  rw [mv_0]
  show some (am_set _ _ _) = _
  congr 1
  refine mv_set (i := 0) (by omega) rfl (fun j hj hne => ?_)
  match j, hj, hne with
  | 0, _, hne => exact absurd rfl hne
  | 1, _, _ => exact rfl
  | 2, _, _ => exact rfl
  | 3, _, _ => exact rfl
  | 4, _, _ => exact rfl
  | 5, _, _ => exact rfl
  | 6, _, _ => exact rfl
  | 7, _, _ => exact rfl
  | 8, _, _ => exact rfl
  | 9, _, _ => exact rfl
  | 10, _, _ => exact rfl
  | 11, _, _ => exact rfl
  | 12, _, _ => exact rfl
  | 13, _, _ => exact rfl
  | 14, _, _ => exact rfl
  | j + 15, hj, _ => exact absurd hj (by omega)
theorem mv_f0_26 : am_gfR (mv m M h) m 9 26 = some ((m + 13)) := by unfold am_gfR; rw [mv_0]; rfl
theorem mv_f0_27 : am_gfI (mv m M h) m 9 27 = some (M 0 27) := by unfold am_gfI; rw [mv_0]; rfl
theorem mv_p0_27 (vv : Int) : am_pf (mv m M h) m 9 27 (am_I vv) = some (mv m (dup M 0 27 vv) h) := by
  unfold am_pf
  rw [mv_0]
  show some (am_set _ _ _) = _
  congr 1
  refine mv_set (i := 0) (by omega) rfl (fun j hj hne => ?_)
  match j, hj, hne with
  | 0, _, hne => exact absurd rfl hne
  | 1, _, _ => exact rfl
  | 2, _, _ => exact rfl
  | 3, _, _ => exact rfl
  | 4, _, _ => exact rfl
  | 5, _, _ => exact rfl
  | 6, _, _ => exact rfl
  | 7, _, _ => exact rfl
  | 8, _, _ => exact rfl
  | 9, _, _ => exact rfl
  | 10, _, _ => exact rfl
  | 11, _, _ => exact rfl
  | 12, _, _ => exact rfl
  | 13, _, _ => exact rfl
  | 14, _, _ => exact rfl
  | j + 15, hj, _ => exact absurd hj (by omega)
theorem mv_f0_28 : am_gfI (mv m M h) m 9 28 = some (M 0 28) := by unfold am_gfI; rw [mv_0]; rfl
theorem mv_p0_28 (vv : Int) : am_pf (mv m M h) m 9 28 (am_I vv) = some (mv m (dup M 0 28 vv) h) := by
  unfold am_pf
  rw [mv_0]
  show some (am_set _ _ _) = _
  congr 1
  refine mv_set (i := 0) (by omega) rfl (fun j hj hne => ?_)
  match j, hj, hne with
  | 0, _, hne => exact absurd rfl hne
  | 1, _, _ => exact rfl
  | 2, _, _ => exact rfl
  | 3, _, _ => exact rfl
  | 4, _, _ => exact rfl
  | 5, _, _ => exact rfl
  | 6, _, _ => exact rfl
  | 7, _, _ => exact rfl
  | 8, _, _ => exact rfl
  | 9, _, _ => exact rfl
  | 10, _, _ => exact rfl
  | 11, _, _ => exact rfl
  | 12, _, _ => exact rfl
  | 13, _, _ => exact rfl
  | 14, _, _ => exact rfl
  | j + 15, hj, _ => exact absurd hj (by omega)
theorem mv_f0_29 : am_gfL (mv m M h) m 9 29 = some (M 0 29) := by unfold am_gfL; rw [mv_0]; rfl
theorem mv_p0_29 (vv : Int) : am_pf (mv m M h) m 9 29 (am_L vv) = some (mv m (dup M 0 29 vv) h) := by
  unfold am_pf
  rw [mv_0]
  show some (am_set _ _ _) = _
  congr 1
  refine mv_set (i := 0) (by omega) rfl (fun j hj hne => ?_)
  match j, hj, hne with
  | 0, _, hne => exact absurd rfl hne
  | 1, _, _ => exact rfl
  | 2, _, _ => exact rfl
  | 3, _, _ => exact rfl
  | 4, _, _ => exact rfl
  | 5, _, _ => exact rfl
  | 6, _, _ => exact rfl
  | 7, _, _ => exact rfl
  | 8, _, _ => exact rfl
  | 9, _, _ => exact rfl
  | 10, _, _ => exact rfl
  | 11, _, _ => exact rfl
  | 12, _, _ => exact rfl
  | 13, _, _ => exact rfl
  | 14, _, _ => exact rfl
  | j + 15, hj, _ => exact absurd hj (by omega)
theorem mv_f0_30 : am_gfR (mv m M h) m 9 30 = some ((m + 14)) := by unfold am_gfR; rw [mv_0]; rfl
theorem mv_l1 : am_len (mv m M h) (m + 1) = some 240 := by unfold am_len; rw [mv_in (i := 1) (by omega)]; exact if_pos (by omega)
theorem mv_r1 {j : Int} (h0 : 0 ≤ j) (h1 : j < 240) : am_rd (mv m M h) (m + 1) 1 j = some (M 1 j.toNat) := by
  unfold am_rd
  rw [mv_in (i := 1) (by omega)]
  show (if 1 = 1 ∧ 0 ≤ j ∧ j < (240 : Nat) then some (cut 240 (M 1) j.toNat) else none) = _
  rw [if_pos ⟨rfl, h0, h1⟩, cut_at _ (by omega)]
theorem mv_w1 {j : Int} (vv : Int) (h0 : 0 ≤ j) (h1 : j < 240) : am_wr (mv m M h) (m + 1) 1 j vv = some (mv m (dup M 1 j.toNat vv) h) := by
  unfold am_wr
  rw [mv_in (i := 1) (by omega)]
  show (if 1 = 1 ∧ 0 ≤ j ∧ j < (240 : Nat) then some (am_set _ _ (am_ar 1 240 (va_up (cut 240 (M 1)) j.toNat vv))) else none) = _
  rw [if_pos ⟨rfl, h0, h1⟩, cut_up _ (by omega)]
  congr 1
  refine mv_set (i := 1) (by omega) rfl (fun j hj hne => ?_)
  match j, hj, hne with
  | 0, _, _ => exact rfl
  | 1, _, hne => exact absurd rfl hne
  | 2, _, _ => exact rfl
  | 3, _, _ => exact rfl
  | 4, _, _ => exact rfl
  | 5, _, _ => exact rfl
  | 6, _, _ => exact rfl
  | 7, _, _ => exact rfl
  | 8, _, _ => exact rfl
  | 9, _, _ => exact rfl
  | 10, _, _ => exact rfl
  | 11, _, _ => exact rfl
  | 12, _, _ => exact rfl
  | 13, _, _ => exact rfl
  | 14, _, _ => exact rfl
  | j + 15, hj, _ => exact absurd hj (by omega)
theorem mv_l2 : am_len (mv m M h) (m + 2) = some 7 := by unfold am_len; rw [mv_in (i := 2) (by omega)]; exact if_pos (by omega)
theorem mv_r2 {j : Int} (h0 : 0 ≤ j) (h1 : j < 7) : am_rd (mv m M h) (m + 2) 0 j = some (M 2 j.toNat) := by
  unfold am_rd
  rw [mv_in (i := 2) (by omega)]
  show (if 0 = 0 ∧ 0 ≤ j ∧ j < (7 : Nat) then some (cut 7 (M 2) j.toNat) else none) = _
  rw [if_pos ⟨rfl, h0, h1⟩, cut_at _ (by omega)]
theorem mv_w2 {j : Int} (vv : Int) (h0 : 0 ≤ j) (h1 : j < 7) : am_wr (mv m M h) (m + 2) 0 j vv = some (mv m (dup M 2 j.toNat vv) h) := by
  unfold am_wr
  rw [mv_in (i := 2) (by omega)]
  show (if 0 = 0 ∧ 0 ≤ j ∧ j < (7 : Nat) then some (am_set _ _ (am_ar 0 7 (va_up (cut 7 (M 2)) j.toNat vv))) else none) = _
  rw [if_pos ⟨rfl, h0, h1⟩, cut_up _ (by omega)]
  congr 1
  refine mv_set (i := 2) (by omega) rfl (fun j hj hne => ?_)
  match j, hj, hne with
  | 0, _, _ => exact rfl
  | 1, _, _ => exact rfl
  | 2, _, hne => exact absurd rfl hne
  | 3, _, _ => exact rfl
  | 4, _, _ => exact rfl
  | 5, _, _ => exact rfl
  | 6, _, _ => exact rfl
  | 7, _, _ => exact rfl
  | 8, _, _ => exact rfl
  | 9, _, _ => exact rfl
  | 10, _, _ => exact rfl
  | 11, _, _ => exact rfl
  | 12, _, _ => exact rfl
  | 13, _, _ => exact rfl
  | 14, _, _ => exact rfl
  | j + 15, hj, _ => exact absurd hj (by omega)
theorem mv_l3 : am_len (mv m M h) (m + 3) = some 7 := by unfold am_len; rw [mv_in (i := 3) (by omega)]; exact if_pos (by omega)
theorem mv_r3 {j : Int} (h0 : 0 ≤ j) (h1 : j < 7) : am_rd (mv m M h) (m + 3) 0 j = some (M 3 j.toNat) := by
  unfold am_rd
  rw [mv_in (i := 3) (by omega)]
  show (if 0 = 0 ∧ 0 ≤ j ∧ j < (7 : Nat) then some (cut 7 (M 3) j.toNat) else none) = _
  rw [if_pos ⟨rfl, h0, h1⟩, cut_at _ (by omega)]
theorem mv_w3 {j : Int} (vv : Int) (h0 : 0 ≤ j) (h1 : j < 7) : am_wr (mv m M h) (m + 3) 0 j vv = some (mv m (dup M 3 j.toNat vv) h) := by
  unfold am_wr
  rw [mv_in (i := 3) (by omega)]
  show (if 0 = 0 ∧ 0 ≤ j ∧ j < (7 : Nat) then some (am_set _ _ (am_ar 0 7 (va_up (cut 7 (M 3)) j.toNat vv))) else none) = _
  rw [if_pos ⟨rfl, h0, h1⟩, cut_up _ (by omega)]
  congr 1
  refine mv_set (i := 3) (by omega) rfl (fun j hj hne => ?_)
  match j, hj, hne with
  | 0, _, _ => exact rfl
  | 1, _, _ => exact rfl
  | 2, _, _ => exact rfl
  | 3, _, hne => exact absurd rfl hne
  | 4, _, _ => exact rfl
  | 5, _, _ => exact rfl
  | 6, _, _ => exact rfl
  | 7, _, _ => exact rfl
  | 8, _, _ => exact rfl
  | 9, _, _ => exact rfl
  | 10, _, _ => exact rfl
  | 11, _, _ => exact rfl
  | 12, _, _ => exact rfl
  | 13, _, _ => exact rfl
  | 14, _, _ => exact rfl
  | j + 15, hj, _ => exact absurd hj (by omega)
theorem mv_l4 : am_len (mv m M h) (m + 4) = some 48 := by unfold am_len; rw [mv_in (i := 4) (by omega)]; exact if_pos (by omega)
theorem mv_r4 {j : Int} (h0 : 0 ≤ j) (h1 : j < 48) : am_rd (mv m M h) (m + 4) 0 j = some (M 4 j.toNat) := by
  unfold am_rd
  rw [mv_in (i := 4) (by omega)]
  show (if 0 = 0 ∧ 0 ≤ j ∧ j < (48 : Nat) then some (cut 48 (M 4) j.toNat) else none) = _
  rw [if_pos ⟨rfl, h0, h1⟩, cut_at _ (by omega)]
theorem mv_w4 {j : Int} (vv : Int) (h0 : 0 ≤ j) (h1 : j < 48) : am_wr (mv m M h) (m + 4) 0 j vv = some (mv m (dup M 4 j.toNat vv) h) := by
  unfold am_wr
  rw [mv_in (i := 4) (by omega)]
  show (if 0 = 0 ∧ 0 ≤ j ∧ j < (48 : Nat) then some (am_set _ _ (am_ar 0 48 (va_up (cut 48 (M 4)) j.toNat vv))) else none) = _
  rw [if_pos ⟨rfl, h0, h1⟩, cut_up _ (by omega)]
  congr 1
  refine mv_set (i := 4) (by omega) rfl (fun j hj hne => ?_)
  match j, hj, hne with
  | 0, _, _ => exact rfl
  | 1, _, _ => exact rfl
  | 2, _, _ => exact rfl
  | 3, _, _ => exact rfl
  | 4, _, hne => exact absurd rfl hne
  | 5, _, _ => exact rfl
  | 6, _, _ => exact rfl
  | 7, _, _ => exact rfl
  | 8, _, _ => exact rfl
  | 9, _, _ => exact rfl
  | 10, _, _ => exact rfl
  | 11, _, _ => exact rfl
  | 12, _, _ => exact rfl
  | 13, _, _ => exact rfl
  | 14, _, _ => exact rfl
  | j + 15, hj, _ => exact absurd hj (by omega)
theorem mv_l5 : am_len (mv m M h) (m + 5) = some 240 := by unfold am_len; rw [mv_in (i := 5) (by omega)]; exact if_pos (by omega)
theorem mv_r5 {j : Int} (h0 : 0 ≤ j) (h1 : j < 240) : am_rd (mv m M h) (m + 5) 0 j = some (M 5 j.toNat) := by
  unfold am_rd
  rw [mv_in (i := 5) (by omega)]
  show (if 0 = 0 ∧ 0 ≤ j ∧ j < (240 : Nat) then some (cut 240 (M 5) j.toNat) else none) = _
  rw [if_pos ⟨rfl, h0, h1⟩, cut_at _ (by omega)]
theorem mv_w5 {j : Int} (vv : Int) (h0 : 0 ≤ j) (h1 : j < 240) : am_wr (mv m M h) (m + 5) 0 j vv = some (mv m (dup M 5 j.toNat vv) h) := by
  unfold am_wr
  rw [mv_in (i := 5) (by omega)]
  show (if 0 = 0 ∧ 0 ≤ j ∧ j < (240 : Nat) then some (am_set _ _ (am_ar 0 240 (va_up (cut 240 (M 5)) j.toNat vv))) else none) = _
  rw [if_pos ⟨rfl, h0, h1⟩, cut_up _ (by omega)]
  congr 1
  refine mv_set (i := 5) (by omega) rfl (fun j hj hne => ?_)
  match j, hj, hne with
  | 0, _, _ => exact rfl
  | 1, _, _ => exact rfl
  | 2, _, _ => exact rfl
  | 3, _, _ => exact rfl
  | 4, _, _ => exact rfl
  | 5, _, hne => exact absurd rfl hne
  | 6, _, _ => exact rfl
  | 7, _, _ => exact rfl
  | 8, _, _ => exact rfl
  | 9, _, _ => exact rfl
  | 10, _, _ => exact rfl
  | 11, _, _ => exact rfl
  | 12, _, _ => exact rfl
  | 13, _, _ => exact rfl
  | 14, _, _ => exact rfl
  | j + 15, hj, _ => exact absurd hj (by omega)
theorem mv_l6 : am_len (mv m M h) (m + 6) = some 5 := by unfold am_len; rw [mv_in (i := 6) (by omega)]; exact if_pos (by omega)
theorem mv_r6 {j : Int} (h0 : 0 ≤ j) (h1 : j < 5) : am_rd (mv m M h) (m + 6) 0 j = some (M 6 j.toNat) := by
  unfold am_rd
  rw [mv_in (i := 6) (by omega)]
  show (if 0 = 0 ∧ 0 ≤ j ∧ j < (5 : Nat) then some (cut 5 (M 6) j.toNat) else none) = _
  rw [if_pos ⟨rfl, h0, h1⟩, cut_at _ (by omega)]
theorem mv_w6 {j : Int} (vv : Int) (h0 : 0 ≤ j) (h1 : j < 5) : am_wr (mv m M h) (m + 6) 0 j vv = some (mv m (dup M 6 j.toNat vv) h) := by
  unfold am_wr
  rw [mv_in (i := 6) (by omega)]
  show (if 0 = 0 ∧ 0 ≤ j ∧ j < (5 : Nat) then some (am_set _ _ (am_ar 0 5 (va_up (cut 5 (M 6)) j.toNat vv))) else none) = _
  rw [if_pos ⟨rfl, h0, h1⟩, cut_up _ (by omega)]
  congr 1
  refine mv_set (i := 6) (by omega) rfl (fun j hj hne => ?_)
  match j, hj, hne with
  | 0, _, _ => exact rfl
  | 1, _, _ => exact rfl
  | 2, _, _ => exact rfl
  | 3, _, _ => exact rfl
  | 4, _, _ => exact rfl
  | 5, _, _ => exact rfl
  | 6, _, hne => exact absurd rfl hne
  | 7, _, _ => exact rfl
  | 8, _, _ => exact rfl
  | 9, _, _ => exact rfl
  | 10, _, _ => exact rfl
  | 11, _, _ => exact rfl
  | 12, _, _ => exact rfl
  | 13, _, _ => exact rfl
  | 14, _, _ => exact rfl
  | j + 15, hj, _ => exact absurd hj (by omega)
theorem mv_l7 : am_len (mv m M h) (m + 7) = some 4 := by unfold am_len; rw [mv_in (i := 7) (by omega)]; exact if_pos (by omega)
theorem mv_r7 {j : Int} (h0 : 0 ≤ j) (h1 : j < 4) : am_rd (mv m M h) (m + 7) 0 j = some (M 7 j.toNat) := by
  unfold am_rd
  rw [mv_in (i := 7) (by omega)]
  show (if 0 = 0 ∧ 0 ≤ j ∧ j < (4 : Nat) then some (cut 4 (M 7) j.toNat) else none) = _
  rw [if_pos ⟨rfl, h0, h1⟩, cut_at _ (by omega)]
theorem mv_w7 {j : Int} (vv : Int) (h0 : 0 ≤ j) (h1 : j < 4) : am_wr (mv m M h) (m + 7) 0 j vv = some (mv m (dup M 7 j.toNat vv) h) := by
  unfold am_wr
  rw [mv_in (i := 7) (by omega)]
  show (if 0 = 0 ∧ 0 ≤ j ∧ j < (4 : Nat) then some (am_set _ _ (am_ar 0 4 (va_up (cut 4 (M 7)) j.toNat vv))) else none) = _
  rw [if_pos ⟨rfl, h0, h1⟩, cut_up _ (by omega)]
  congr 1
  refine mv_set (i := 7) (by omega) rfl (fun j hj hne => ?_)
  match j, hj, hne with
  | 0, _, _ => exact rfl
  | 1, _, _ => exact rfl
  | 2, _, _ => exact rfl
  | 3, _, _ => exact rfl
  | 4, _, _ => exact rfl
  | 5, _, _ => exact rfl
  | 6, _, _ => exact rfl
  | 7, _, hne => exact absurd rfl hne
  | 8, _, _ => exact rfl
  | 9, _, _ => exact rfl
  | 10, _, _ => exact rfl
  | 11, _, _ => exact rfl
  | 12, _, _ => exact rfl
  | 13, _, _ => exact rfl
  | 14, _, _ => exact rfl
  | j + 15, hj, _ => exact absurd hj (by omega)
theorem mv_l8 : am_len (mv m M h) (m + 8) = some 609 := by unfold am_len; rw [mv_in (i := 8) (by omega)]; exact if_pos (by omega)
theorem mv_r8 {j : Int} (h0 : 0 ≤ j) (h1 : j < 609) : am_rd (mv m M h) (m + 8) 0 j = some (M 8 j.toNat) := by
  unfold am_rd
  rw [mv_in (i := 8) (by omega)]
  show (if 0 = 0 ∧ 0 ≤ j ∧ j < (609 : Nat) then some (cut 609 (M 8) j.toNat) else none) = _
  rw [if_pos ⟨rfl, h0, h1⟩, cut_at _ (by omega)]
theorem mv_w8 {j : Int} (vv : Int) (h0 : 0 ≤ j) (h1 : j < 609) : am_wr (mv m M h) (m + 8) 0 j vv = some (mv m (dup M 8 j.toNat vv) h) := by
  unfold am_wr
  rw [mv_in (i := 8) (by omega)]
  show (if 0 = 0 ∧ 0 ≤ j ∧ j < (609 : Nat) then some (am_set _ _ (am_ar 0 609 (va_up (cut 609 (M 8)) j.toNat vv))) else none) = _
  rw [if_pos ⟨rfl, h0, h1⟩, cut_up _ (by omega)]
  congr 1
  refine mv_set (i := 8) (by omega) rfl (fun j hj hne => ?_)
  match j, hj, hne with
  | 0, _, _ => exact rfl
  | 1, _, _ => exact rfl
  | 2, _, _ => exact rfl
  | 3, _, _ => exact rfl
  | 4, _, _ => exact rfl
  | 5, _, _ => exact rfl
  | 6, _, _ => exact rfl
  | 7, _, _ => exact rfl
  | 8, _, hne => exact absurd rfl hne
  | 9, _, _ => exact rfl
  | 10, _, _ => exact rfl
  | 11, _, _ => exact rfl
  | 12, _, _ => exact rfl
  | 13, _, _ => exact rfl
  | 14, _, _ => exact rfl
  | j + 15, hj, _ => exact absurd hj (by omega)
theorem mv_l9 : am_len (mv m M h) (m + 9) = some 609 := by unfold am_len; rw [mv_in (i := 9) (by omega)]; exact if_pos (by omega)
theorem mv_r9 {j : Int} (h0 : 0 ≤ j) (h1 : j < 609) : am_rd (mv m M h) (m + 9) 0 j = some (M 9 j.toNat) := by
  unfold am_rd
  rw [mv_in (i := 9) (by omega)]
  show (if 0 = 0 ∧ 0 ≤ j ∧ j < (609 : Nat) then some (cut 609 (M 9) j.toNat) else none) = _
  rw [if_pos ⟨rfl, h0, h1⟩, cut_at _ (by omega)]
theorem mv_w9 {j : Int} (vv : Int) (h0 : 0 ≤ j) (h1 : j < 609) : am_wr (mv m M h) (m + 9) 0 j vv = some (mv m (dup M 9 j.toNat vv) h) := by
  unfold am_wr
  rw [mv_in (i := 9) (by omega)]
  show (if 0 = 0 ∧ 0 ≤ j ∧ j < (609 : Nat) then some (am_set _ _ (am_ar 0 609 (va_up (cut 609 (M 9)) j.toNat vv))) else none) = _
  rw [if_pos ⟨rfl, h0, h1⟩, cut_up _ (by omega)]
  congr 1
  refine mv_set (i := 9) (by omega) rfl (fun j hj hne => ?_)
  match j, hj, hne with
  | 0, _, _ => exact rfl
  | 1, _, _ => exact rfl
  | 2, _, _ => exact rfl
  | 3, _, _ => exact rfl
  | 4, _, _ => exact rfl
  | 5, _, _ => exact rfl
  | 6, _, _ => exact rfl
  | 7, _, _ => exact rfl
  | 8, _, _ => exact rfl
  | 9, _, hne => exact absurd rfl hne
  | 10, _, _ => exact rfl
  | 11, _, _ => exact rfl
  | 12, _, _ => exact rfl
  | 13, _, _ => exact rfl
  | 14, _, _ => exact rfl
  | j + 15, hj, _ => exact absurd hj (by omega)
theorem mv_l10 : am_len (mv m M h) (m + 10) = some 609 := by unfold am_len; rw [mv_in (i := 10) (by omega)]; exact if_pos (by omega)
theorem mv_r10 {j : Int} (h0 : 0 ≤ j) (h1 : j < 609) : am_rd (mv m M h) (m + 10) 0 j = some (M 10 j.toNat) := by
  unfold am_rd
  rw [mv_in (i := 10) (by omega)]
  show (if 0 = 0 ∧ 0 ≤ j ∧ j < (609 : Nat) then some (cut 609 (M 10) j.toNat) else none) = _
  rw [if_pos ⟨rfl, h0, h1⟩, cut_at _ (by omega)]
theorem mv_w10 {j : Int} (vv : Int) (h0 : 0 ≤ j) (h1 : j < 609) : am_wr (mv m M h) (m + 10) 0 j vv = some (mv m (dup M 10 j.toNat vv) h) := by
  unfold am_wr
  rw [mv_in (i := 10) (by omega)]
  show (if 0 = 0 ∧ 0 ≤ j ∧ j < (609 : Nat) then some (am_set _ _ (am_ar 0 609 (va_up (cut 609 (M 10)) j.toNat vv))) else none) = _
  rw [if_pos ⟨rfl, h0, h1⟩, cut_up _ (by omega)]
  congr 1
  refine mv_set (i := 10) (by omega) rfl (fun j hj hne => ?_)
  match j, hj, hne with
  | 0, _, _ => exact rfl
  | 1, _, _ => exact rfl
  | 2, _, _ => exact rfl
  | 3, _, _ => exact rfl
  | 4, _, _ => exact rfl
  | 5, _, _ => exact rfl
  | 6, _, _ => exact rfl
  | 7, _, _ => exact rfl
  | 8, _, _ => exact rfl
  | 9, _, _ => exact rfl
  | 10, _, hne => exact absurd rfl hne
  | 11, _, _ => exact rfl
  | 12, _, _ => exact rfl
  | 13, _, _ => exact rfl
  | 14, _, _ => exact rfl
  | j + 15, hj, _ => exact absurd hj (by omega)
theorem mv_l11 : am_len (mv m M h) (m + 11) = some 609 := by unfold am_len; rw [mv_in (i := 11) (by omega)]; exact if_pos (by omega)
theorem mv_r11 {j : Int} (h0 : 0 ≤ j) (h1 : j < 609) : am_rd (mv m M h) (m + 11) 0 j = some (M 11 j.toNat) := by
  unfold am_rd
  rw [mv_in (i := 11) (by omega)]
  show (if 0 = 0 ∧ 0 ≤ j ∧ j < (609 : Nat) then some (cut 609 (M 11) j.toNat) else none) = _
  rw [if_pos ⟨rfl, h0, h1⟩, cut_at _ (by omega)]
theorem mv_w11 {j : Int} (vv : Int) (h0 : 0 ≤ j) (h1 : j < 609) : am_wr (mv m M h) (m + 11) 0 j vv = some (mv m (dup M 11 j.toNat vv) h) := by
  unfold am_wr
  rw [mv_in (i := 11) (by omega)]
  show (if 0 = 0 ∧ 0 ≤ j ∧ j < (609 : Nat) then some (am_set _ _ (am_ar 0 609 (va_up (cut 609 (M 11)) j.toNat vv))) else none) = _
  rw [if_pos ⟨rfl, h0, h1⟩, cut_up _ (by omega)]
  congr 1
  refine mv_set (i := 11) (by omega) rfl (fun j hj hne => ?_)
  match j, hj, hne with
  | 0, _, _ => exact rfl
  | 1, _, _ => exact rfl
  | 2, _, _ => exact rfl
  | 3, _, _ => exact rfl
  | 4, _, _ => exact rfl
  | 5, _, _ => exact rfl
  | 6, _, _ => exact rfl
  | 7, _, _ => exact rfl
  | 8, _, _ => exact rfl
  | 9, _, _ => exact rfl
  | 10, _, _ => exact rfl
  | 11, _, hne => exact absurd rfl hne
  | 12, _, _ => exact rfl
  | 13, _, _ => exact rfl
  | 14, _, _ => exact rfl
  | j + 15, hj, _ => exact absurd hj (by omega)
theorem mv_l12 : am_len (mv m M h) (m + 12) = some 24360 := by unfold am_len; rw [mv_in (i := 12) (by omega)]; exact if_pos (by omega)
theorem mv_r12 {j : Int} (h0 : 0 ≤ j) (h1 : j < 24360) : am_rd (mv m M h) (m + 12) 0 j = some (M 12 j.toNat) := by
  unfold am_rd
  rw [mv_in (i := 12) (by omega)]
  show (if 0 = 0 ∧ 0 ≤ j ∧ j < (24360 : Nat) then some (cut 24360 (M 12) j.toNat) else none) = _
  rw [if_pos ⟨rfl, h0, h1⟩, cut_at _ (by omega)]
theorem mv_w12 {j : Int} (vv : Int) (h0 : 0 ≤ j) (h1 : j < 24360) : am_wr (mv m M h) (m + 12) 0 j vv = some (mv m (dup M 12 j.toNat vv) h) := by
  unfold am_wr
  rw [mv_in (i := 12) (by omega)]
  show (if 0 = 0 ∧ 0 ≤ j ∧ j < (24360 : Nat) then some (am_set _ _ (am_ar 0 24360 (va_up (cut 24360 (M 12)) j.toNat vv))) else none) = _
  rw [if_pos ⟨rfl, h0, h1⟩, cut_up _ (by omega)]
  congr 1
  refine mv_set (i := 12) (by omega) rfl (fun j hj hne => ?_)
  match j, hj, hne with
  | 0, _, _ => exact rfl
  | 1, _, _ => exact rfl
  | 2, _, _ => exact rfl
  | 3, _, _ => exact rfl
  | 4, _, _ => exact rfl
  | 5, _, _ => exact rfl
  | 6, _, _ => exact rfl
  | 7, _, _ => exact rfl
  | 8, _, _ => exact rfl
  | 9, _, _ => exact rfl
  | 10, _, _ => exact rfl
  | 11, _, _ => exact rfl
  | 12, _, hne => exact absurd rfl hne
  | 13, _, _ => exact rfl
  | 14, _, _ => exact rfl
  | j + 15, hj, _ => exact absurd hj (by omega)
theorem mv_l13 : am_len (mv m M h) (m + 13) = some 16 := by unfold am_len; rw [mv_in (i := 13) (by omega)]; exact if_pos (by omega)
theorem mv_r13 {j : Int} (h0 : 0 ≤ j) (h1 : j < 16) : am_rd (mv m M h) (m + 13) 0 j = some (M 13 j.toNat) := by
  unfold am_rd
  rw [mv_in (i := 13) (by omega)]
  show (if 0 = 0 ∧ 0 ≤ j ∧ j < (16 : Nat) then some (cut 16 (M 13) j.toNat) else none) = _
  rw [if_pos ⟨rfl, h0, h1⟩, cut_at _ (by omega)]
theorem mv_w13 {j : Int} (vv : Int) (h0 : 0 ≤ j) (h1 : j < 16) : am_wr (mv m M h) (m + 13) 0 j vv = some (mv m (dup M 13 j.toNat vv) h) := by
  unfold am_wr
  rw [mv_in (i := 13) (by omega)]
  show (if 0 = 0 ∧ 0 ≤ j ∧ j < (16 : Nat) then some (am_set _ _ (am_ar 0 16 (va_up (cut 16 (M 13)) j.toNat vv))) else none) = _
  rw [if_pos ⟨rfl, h0, h1⟩, cut_up _ (by omega)]
  congr 1
  refine mv_set (i := 13) (by omega) rfl (fun j hj hne => ?_)
  match j, hj, hne with
  | 0, _, _ => exact rfl
  | 1, _, _ => exact rfl
  | 2, _, _ => exact rfl
  | 3, _, _ => exact rfl
  | 4, _, _ => exact rfl
  | 5, _, _ => exact rfl
  | 6, _, _ => exact rfl
  | 7, _, _ => exact rfl
  | 8, _, _ => exact rfl
  | 9, _, _ => exact rfl
  | 10, _, _ => exact rfl
  | 11, _, _ => exact rfl
  | 12, _, _ => exact rfl
  | 13, _, hne => exact absurd rfl hne
  | 14, _, _ => exact rfl
  | j + 15, hj, _ => exact absurd hj (by omega)
theorem mv_l14 : am_len (mv m M h) (m + 14) = some 128 := by unfold am_len; rw [mv_in (i := 14) (by omega)]; exact if_pos (by omega)
theorem mv_r14 {j : Int} (h0 : 0 ≤ j) (h1 : j < 128) : am_rd (mv m M h) (m + 14) 0 j = some (M 14 j.toNat) := by
  unfold am_rd
  rw [mv_in (i := 14) (by omega)]
  show (if 0 = 0 ∧ 0 ≤ j ∧ j < (128 : Nat) then some (cut 128 (M 14) j.toNat) else none) = _
  rw [if_pos ⟨rfl, h0, h1⟩, cut_at _ (by omega)]
theorem mv_w14 {j : Int} (vv : Int) (h0 : 0 ≤ j) (h1 : j < 128) : am_wr (mv m M h) (m + 14) 0 j vv = some (mv m (dup M 14 j.toNat vv) h) := by
  unfold am_wr
  rw [mv_in (i := 14) (by omega)]
  show (if 0 = 0 ∧ 0 ≤ j ∧ j < (128 : Nat) then some (am_set _ _ (am_ar 0 128 (va_up (cut 128 (M 14)) j.toNat vv))) else none) = _
  rw [if_pos ⟨rfl, h0, h1⟩, cut_up _ (by omega)]
  congr 1
  refine mv_set (i := 14) (by omega) rfl (fun j hj hne => ?_)
  match j, hj, hne with
  | 0, _, _ => exact rfl
  | 1, _, _ => exact rfl
  | 2, _, _ => exact rfl
  | 3, _, _ => exact rfl
  | 4, _, _ => exact rfl
  | 5, _, _ => exact rfl
  | 6, _, _ => exact rfl
  | 7, _, _ => exact rfl
  | 8, _, _ => exact rfl
  | 9, _, _ => exact rfl
  | 10, _, _ => exact rfl
  | 11, _, _ => exact rfl
  | 12, _, _ => exact rfl
  | 13, _, _ => exact rfl
  | 14, _, hne => exact absurd rfl hne
  | j + 15, hj, _ => exact absurd hj (by omega)
theorem mv_dv {a : Nat} (ha : a + 18 ≤ m ∨ m + 15 ≤ a) (E : Nat → Nat → Int) : dv a E (mv m M h) = mv m M (dv a E h) := by
  show (_, _) = (_, _)
  congr 1
  funext k
  by_cases e : a ≤ k ∧ k < a + 18
  · rw [if_pos e, if_neg (by omega)]
    show _ = (if a ≤ k ∧ k < a + 18 then dvc a E (k - a) else h.1 k)
    rw [if_pos e]
  · rw [if_neg e]
    show (if m ≤ k ∧ k < m + 15 then mvc m M (k - m) else h.1 k) = (if m ≤ k ∧ k < m + 15 then mvc m M (k - m) else (if a ≤ k ∧ k < a + 18 then dvc a E (k - a) else h.1 k))
    rw [if_neg e]
end VMV
