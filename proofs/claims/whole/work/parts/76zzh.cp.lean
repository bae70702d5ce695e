/-! ===== rows of the class's object, changed whole ===== -/
section ZCP
variable {x : Nat} {N P K T S : Nat → Nat → Int} {m : Nat} {A : Nat → Nat} {h : am_H}
theorem zv_s2 (f : Nat → Int) {c : am_C} (hc : am_ar 0 7 (cut 7 f) = c) : am_set (zv x N P K T S m A h) (x + 4) c = zv x N P K T (drow S 2 f) m A h := by
  refine zv_set (i := 4) (by omega) hc (fun j hj hne => ?_)
  match j, hj, hne with
  | 0, _, _ => exact rfl
  | 1, _, _ => exact rfl
  | 2, _, _ => exact rfl
  | 3, _, _ => exact rfl
  | 4, _, hne => exact absurd rfl hne
  | 5, _, _ => exact rfl
  | 6, _, _ => exact rfl
  | 7, _, _ => exact rfl
  | 8, _, _ => exact rfl
  | 9, _, _ => exact rfl
  | 10, _, _ => exact rfl
  | 11, _, _ => exact rfl
  | 12, _, _ => exact rfl
  | 13, _, _ => exact rfl
  | 14, _, _ => exact rfl
  | 15, _, _ => exact rfl
  | 16, _, _ => exact rfl
  | 17, _, _ => exact rfl
  | 18, _, _ => exact rfl
  | 19, _, _ => exact rfl
  | 20, _, _ => exact rfl
  | 21, _, _ => exact rfl
  | 22, _, _ => exact rfl
  | 23, _, _ => exact rfl
  | 24, _, _ => exact rfl
  | 25, _, _ => exact rfl
  | 26, _, _ => exact rfl
  | 27, _, _ => exact rfl
  | 28, _, _ => exact rfl
  | 29, _, _ => exact rfl
  | 30, _, _ => exact rfl
  | 31, _, _ => exact rfl
  | 32, _, _ => exact rfl
  | 33, _, _ => exact rfl
  | 34, _, _ => exact rfl
  | 35, _, _ => exact rfl
  | 36, _, _ => exact rfl
  | 37, _, _ => exact rfl
  | 38, _, _ => exact rfl
  | 39, _, _ => exact rfl
  | 40, _, _ => exact rfl
  | 41, _, _ => exact rfl
  | 42, _, _ => exact rfl
  | 43, _, _ => exact rfl
  | 44, _, _ => exact rfl
  | 45, _, _ => exact rfl
  | 46, _, _ => exact rfl
  | 47, _, _ => exact rfl
  | 48, _, _ => exact rfl
  | 49, _, _ => exact rfl
  | 50, _, _ => exact rfl
  | 51, _, _ => exact rfl
  | 52, _, _ => exact rfl
  | 53, _, _ => exact rfl
  | 54, _, _ => exact rfl
  | 55, _, _ => exact rfl
  | 56, _, _ => exact rfl
  | 57, _, _ => exact rfl
  | 58, _, _ => exact rfl
  | 59, _, _ => exact rfl
  | 60, _, _ => exact rfl
  | 61, _, _ => exact rfl
  | 62, _, _ => exact rfl
  | 63, _, _ => exact rfl
  | 64, _, _ => exact rfl
  | 65, _, _ => exact rfl
  | 66, _, _ => exact rfl
  | 67, _, _ => exact rfl
  | 68, _, _ => exact rfl
  | 69, _, _ => exact rfl
  | 70, _, _ => exact rfl
  | 71, _, _ => exact rfl
  | 72, _, _ => exact rfl
  | 73, _, _ => exact rfl
  | 74, _, _ => exact rfl
  | 75, _, _ => exact rfl
  | 76, _, _ => exact rfl
  | 77, _, _ => exact rfl
  | 78, _, _ => exact rfl
  | 79, _, _ => exact rfl
  | 80, _, _ => exact rfl
  | 81, _, _ => exact rfl
  | 82, _, _ => exact rfl
  | 83, _, _ => exact rfl
  | 84, _, _ => exact rfl
  | 85, _, _ => exact rfl
  | 86, _, _ => exact rfl
  | 87, _, _ => exact rfl
  | 88, _, _ => exact rfl
  | 89, _, _ => exact rfl
  | 90, _, _ => exact rfl
  | 91, _, _ => exact rfl
  | 92, _, _ => exact rfl
  | 93, _, _ => exact rfl
  | 94, _, _ => exact rfl
  | 95, _, _ => exact rfl
  | 96, _, _ => exact rfl
  | 97, _, _ => exact rfl
  | 98, _, _ => exact rfl
  | 99, _, _ => exact rfl
  | 100, _, _ => exact rfl
  | 101, _, _ => exact rfl
  | 102, _, _ => exact rfl
  | 103, _, _ => exact rfl
  | 104, _, _ => exact rfl
  | 105, _, _ => exact rfl
  | 106, _, _ => exact rfl
  | j + 107, hj, _ => exact absurd hj (by omega)
theorem zv_s10 (f : Nat → Int) {c : am_C} (hc : am_ar 0 16 (cut 16 f) = c) : am_set (zv x N P K T S m A h) (x + 92) c = zv x N P K T (drow S 10 f) m A h := by
  refine zv_set (i := 92) (by omega) hc (fun j hj hne => ?_)
  match j, hj, hne with
  | 0, _, _ => exact rfl
  | 1, _, _ => exact rfl
  | 2, _, _ => exact rfl
  | 3, _, _ => exact rfl
  | 4, _, _ => exact rfl
  | 5, _, _ => exact rfl
  | 6, _, _ => exact rfl
  | 7, _, _ => exact rfl
  | 8, _, _ => exact rfl
  | 9, _, _ => exact rfl
  | 10, _, _ => exact rfl
  | 11, _, _ => exact rfl
  | 12, _, _ => exact rfl
  | 13, _, _ => exact rfl
  | 14, _, _ => exact rfl
  | 15, _, _ => exact rfl
  | 16, _, _ => exact rfl
  | 17, _, _ => exact rfl
  | 18, _, _ => exact rfl
  | 19, _, _ => exact rfl
  | 20, _, _ => exact rfl
  | 21, _, _ => exact rfl
  | 22, _, _ => exact rfl
  | 23, _, _ => exact rfl
  | 24, _, _ => exact rfl
  | 25, _, _ => exact rfl
  | 26, _, _ => exact rfl
  | 27, _, _ => exact rfl
  | 28, _, _ => exact rfl
  | 29, _, _ => exact rfl
  | 30, _, _ => exact rfl
  | 31, _, _ => exact rfl
  | 32, _, _ => exact rfl
  | 33, _, _ => exact rfl
  | 34, _, _ => exact rfl
  | 35, _, _ => exact rfl
  | 36, _, _ => exact rfl
  | 37, _, _ => exact rfl
  | 38, _, _ => exact rfl
  | 39, _, _ => exact rfl
  | 40, _, _ => exact rfl
  | 41, _, _ => exact rfl
  | 42, _, _ => exact rfl
  | 43, _, _ => exact rfl
  | 44, _, _ => exact rfl
  | 45, _, _ => exact rfl
  | 46, _, _ => exact rfl
  | 47, _, _ => exact rfl
  | 48, _, _ => exact rfl
  | 49, _, _ => exact rfl
  | 50, _, _ => exact rfl
  | 51, _, _ => exact rfl
  | 52, _, _ => exact rfl
  | 53, _, _ => exact rfl
  | 54, _, _ => exact rfl
  | 55, _, _ => exact rfl
  | 56, _, _ => exact rfl
  | 57, _, _ => exact rfl
  | 58, _, _ => exact rfl
  | 59, _, _ => exact rfl
  | 60, _, _ => exact rfl
  | 61, _, _ => exact rfl
  | 62, _, _ => exact rfl
  | 63, _, _ => exact rfl
  | 64, _, _ => exact rfl
  | 65, _, _ => exact rfl
  | 66, _, _ => exact rfl
  | 67, _, _ => exact rfl
  | 68, _, _ => exact rfl
  | 69, _, _ => exact rfl
  | 70, _, _ => exact rfl
  | 71, _, _ => exact rfl
  | 72, _, _ => exact rfl
  | 73, _, _ => exact rfl
  | 74, _, _ => exact rfl
  | 75, _, _ => exact rfl
  | 76, _, _ => exact rfl
  | 77, _, _ => exact rfl
  | 78, _, _ => exact rfl
  | 79, _, _ => exact rfl
  | 80, _, _ => exact rfl
  | 81, _, _ => exact rfl
  | 82, _, _ => exact rfl
  | 83, _, _ => exact rfl
  | 84, _, _ => exact rfl
  | 85, _, _ => exact rfl
  | 86, _, _ => exact rfl
  | 87, _, _ => exact rfl
  | 88, _, _ => exact rfl
  | 89, _, _ => exact rfl
  | 90, _, _ => exact rfl
  | 91, _, _ => exact rfl
  | 92, _, hne => exact absurd rfl hne
  | 93, _, _ => exact rfl
  | 94, _, _ => exact rfl
  | 95, _, _ => exact rfl
  | 96, _, _ => exact rfl
  | 97, _, _ => exact rfl
  | 98, _, _ => exact rfl
  | 99, _, _ => exact rfl
  | 100, _, _ => exact rfl
  | 101, _, _ => exact rfl
  | 102, _, _ => exact rfl
  | 103, _, _ => exact rfl
  | 104, _, _ => exact rfl
  | 105, _, _ => exact rfl
  | 106, _, _ => exact rfl
  | j + 107, hj, _ => exact absurd hj (by omega)
theorem zv_s11 (f : Nat → Int) {c : am_C} (hc : am_ar 0 16 (cut 16 f) = c) : am_set (zv x N P K T S m A h) (x + 93) c = zv x N P K T (drow S 11 f) m A h := by
  refine zv_set (i := 93) (by omega) hc (fun j hj hne => ?_)
  match j, hj, hne with
  | 0, _, _ => exact rfl
  | 1, _, _ => exact rfl
  | 2, _, _ => exact rfl
  | 3, _, _ => exact rfl
  | 4, _, _ => exact rfl
  | 5, _, _ => exact rfl
  | 6, _, _ => exact rfl
  | 7, _, _ => exact rfl
  | 8, _, _ => exact rfl
  | 9, _, _ => exact rfl
  | 10, _, _ => exact rfl
  | 11, _, _ => exact rfl
  | 12, _, _ => exact rfl
  | 13, _, _ => exact rfl
  | 14, _, _ => exact rfl
  | 15, _, _ => exact rfl
  | 16, _, _ => exact rfl
  | 17, _, _ => exact rfl
  | 18, _, _ => exact rfl
  | 19, _, _ => exact rfl
  | 20, _, _ => exact rfl
  | 21, _, _ => exact rfl
  | 22, _, _ => exact rfl
  | 23, _, _ => exact rfl
  | 24, _, _ => exact rfl
  | 25, _, _ => exact rfl
  | 26, _, _ => exact rfl
  | 27, _, _ => exact rfl
  | 28, _, _ => exact rfl
  | 29, _, _ => exact rfl
  | 30, _, _ => exact rfl
  | 31, _, _ => exact rfl
  | 32, _, _ => exact rfl
  | 33, _, _ => exact rfl
  | 34, _, _ => exact rfl
  | 35, _, _ => exact rfl
  | 36, _, _ => exact rfl
  | 37, _, _ => exact rfl
  | 38, _, _ => exact rfl
  | 39, _, _ => exact rfl
  | 40, _, _ => exact rfl
  | 41, _, _ => exact rfl
  | 42, _, _ => exact rfl
  | 43, _, _ => exact rfl
  | 44, _, _ => exact rfl
  | 45, _, _ => exact rfl
  | 46, _, _ => exact rfl
  | 47, _, _ => exact rfl
  | 48, _, _ => exact rfl
  | 49, _, _ => exact rfl
  | 50, _, _ => exact rfl
  | 51, _, _ => exact rfl
  | 52, _, _ => exact rfl
  | 53, _, _ => exact rfl
  | 54, _, _ => exact rfl
  | 55, _, _ => exact rfl
  | 56, _, _ => exact rfl
  | 57, _, _ => exact rfl
  | 58, _, _ => exact rfl
  | 59, _, _ => exact rfl
  | 60, _, _ => exact rfl
  | 61, _, _ => exact rfl
  | 62, _, _ => exact rfl
  | 63, _, _ => exact rfl
  | 64, _, _ => exact rfl
  | 65, _, _ => exact rfl
  | 66, _, _ => exact rfl
  | 67, _, _ => exact rfl
  | 68, _, _ => exact rfl
  | 69, _, _ => exact rfl
  | 70, _, _ => exact rfl
  | 71, _, _ => exact rfl
  | 72, _, _ => exact rfl
  | 73, _, _ => exact rfl
  | 74, _, _ => exact rfl
  | 75, _, _ => exact rfl
  | 76, _, _ => exact rfl
  | 77, _, _ => exact rfl
  | 78, _, _ => exact rfl
  | 79, _, _ => exact rfl
  | 80, _, _ => exact rfl
  | 81, _, _ => exact rfl
  | 82, _, _ => exact rfl
  | 83, _, _ => exact rfl
  | 84, _, _ => exact rfl
  | 85, _, _ => exact rfl
  | 86, _, _ => exact rfl
  | 87, _, _ => exact rfl
  | 88, _, _ => exact rfl
  | 89, _, _ => exact rfl
  | 90, _, _ => exact rfl
  | 91, _, _ => exact rfl
  | 92, _, _ => exact rfl
  | 93, _, hne => exact absurd rfl hne
  | 94, _, _ => exact rfl
  | 95, _, _ => exact rfl
  | 96, _, _ => exact rfl
  | 97, _, _ => exact rfl
  | 98, _, _ => exact rfl
  | 99, _, _ => exact rfl
  | 100, _, _ => exact rfl
  | 101, _, _ => exact rfl
  | 102, _, _ => exact rfl
  | 103, _, _ => exact rfl
  | 104, _, _ => exact rfl
  | 105, _, _ => exact rfl
  | 106, _, _ => exact rfl
  | j + 107, hj, _ => exact absurd hj (by omega)
theorem zv_s12 (f : Nat → Int) {c : am_C} (hc : am_ar 0 16 (cut 16 f) = c) : am_set (zv x N P K T S m A h) (x + 94) c = zv x N P K T (drow S 12 f) m A h := by
  refine zv_set (i := 94) (by omega) hc (fun j hj hne => ?_)
  match j, hj, hne with
  | 0, _, _ => exact rfl
  | 1, _, _ => exact rfl
  | 2, _, _ => exact rfl
  | 3, _, _ => exact rfl
  | 4, _, _ => exact rfl
  | 5, _, _ => exact rfl
  | 6, _, _ => exact rfl
  | 7, _, _ => exact rfl
  | 8, _, _ => exact rfl
  | 9, _, _ => exact rfl
  | 10, _, _ => exact rfl
  | 11, _, _ => exact rfl
  | 12, _, _ => exact rfl
  | 13, _, _ => exact rfl
  | 14, _, _ => exact rfl
  | 15, _, _ => exact rfl
  | 16, _, _ => exact rfl
  | 17, _, _ => exact rfl
  | 18, _, _ => exact rfl
  | 19, _, _ => exact rfl
  | 20, _, _ => exact rfl
  | 21, _, _ => exact rfl
  | 22, _, _ => exact rfl
  | 23, _, _ => exact rfl
  | 24, _, _ => exact rfl
  | 25, _, _ => exact rfl
  | 26, _, _ => exact rfl
  | 27, _, _ => exact rfl
  | 28, _, _ => exact rfl
  | 29, _, _ => exact rfl
  | 30, _, _ => exact rfl
  | 31, _, _ => exact rfl
  | 32, _, _ => exact rfl
  | 33, _, _ => exact rfl
  | 34, _, _ => exact rfl
  | 35, _, _ => exact rfl
  | 36, _, _ => exact rfl
  | 37, _, _ => exact rfl
  | 38, _, _ => exact rfl
  | 39, _, _ => exact rfl
  | 40, _, _ => exact rfl
  | 41, _, _ => exact rfl
  | 42, _, _ => exact rfl
  | 43, _, _ => exact rfl
  | 44, _, _ => exact rfl
  | 45, _, _ => exact rfl
  | 46, _, _ => exact rfl
  | 47, _, _ => exact rfl
  | 48, _, _ => exact rfl
  | 49, _, _ => exact rfl
  | 50, _, _ => exact rfl
  | 51, _, _ => exact rfl
  | 52, _, _ => exact rfl
  | 53, _, _ => exact rfl
  | 54, _, _ => exact rfl
  | 55, _, _ => exact rfl
  | 56, _, _ => exact rfl
  | 57, _, _ => exact rfl
  | 58, _, _ => exact rfl
  | 59, _, _ => exact rfl
  | 60, _, _ => exact rfl
  | 61, _, _ => exact rfl
  | 62, _, _ => exact rfl
  | 63, _, _ => exact rfl
  | 64, _, _ => exact rfl
  | 65, _, _ => exact rfl
  | 66, _, _ => exact rfl
  | 67, _, _ => exact rfl
  | 68, _, _ => exact rfl
  | 69, _, _ => exact rfl
  | 70, _, _ => exact rfl
  | 71, _, _ => exact rfl
  | 72, _, _ => exact rfl
  | 73, _, _ => exact rfl
  | 74, _, _ => exact rfl
  | 75, _, _ => exact rfl
  | 76, _, _ => exact rfl
  | 77, _, _ => exact rfl
  | 78, _, _ => exact rfl
  | 79, _, _ => exact rfl
  | 80, _, _ => exact rfl
  | 81, _, _ => exact rfl
  | 82, _, _ => exact rfl
  | 83, _, _ => exact rfl
  | 84, _, _ => exact rfl
  | 85, _, _ => exact rfl
  | 86, _, _ => exact rfl
  | 87, _, _ => exact rfl
  | 88, _, _ => exact rfl
  | 89, _, _ => exact rfl
  | 90, _, _ => exact rfl
  | 91, _, _ => exact rfl
  | 92, _, _ => exact rfl
  | 93, _, _ => exact rfl
  | 94, _, hne => exact absurd rfl hne
  | 95, _, _ => exact rfl
  | 96, _, _ => exact rfl
  | 97, _, _ => exact rfl
  | 98, _, _ => exact rfl
  | 99, _, _ => exact rfl
  | 100, _, _ => exact rfl
  | 101, _, _ => exact rfl
  | 102, _, _ => exact rfl
  | 103, _, _ => exact rfl
  | 104, _, _ => exact rfl
  | 105, _, _ => exact rfl
  | 106, _, _ => exact rfl
  | j + 107, hj, _ => exact absurd hj (by omega)
theorem zv_s13 (f : Nat → Int) {c : am_C} (hc : am_ar 0 16 (cut 16 f) = c) : am_set (zv x N P K T S m A h) (x + 96) c = zv x N P K T (drow S 13 f) m A h := by
  refine zv_set (i := 96) (by omega) hc (fun j hj hne => ?_)
  match j, hj, hne with
  | 0, _, _ => exact rfl
  | 1, _, _ => exact rfl
  | 2, _, _ => exact rfl
  | 3, _, _ => exact rfl
  | 4, _, _ => exact rfl
  | 5, _, _ => exact rfl
  | 6, _, _ => exact rfl
  | 7, _, _ => exact rfl
  | 8, _, _ => exact rfl
  | 9, _, _ => exact rfl
  | 10, _, _ => exact rfl
  | 11, _, _ => exact rfl
  | 12, _, _ => exact rfl
  | 13, _, _ => exact rfl
  | 14, _, _ => exact rfl
  | 15, _, _ => exact rfl
  | 16, _, _ => exact rfl
  | 17, _, _ => exact rfl
  | 18, _, _ => exact rfl
  | 19, _, _ => exact rfl
  | 20, _, _ => exact rfl
  | 21, _, _ => exact rfl
  | 22, _, _ => exact rfl
  | 23, _, _ => exact rfl
  | 24, _, _ => exact rfl
  | 25, _, _ => exact rfl
  | 26, _, _ => exact rfl
  | 27, _, _ => exact rfl
  | 28, _, _ => exact rfl
  | 29, _, _ => exact rfl
  | 30, _, _ => exact rfl
  | 31, _, _ => exact rfl
  | 32, _, _ => exact rfl
  | 33, _, _ => exact rfl
  | 34, _, _ => exact rfl
  | 35, _, _ => exact rfl
  | 36, _, _ => exact rfl
  | 37, _, _ => exact rfl
  | 38, _, _ => exact rfl
  | 39, _, _ => exact rfl
  | 40, _, _ => exact rfl
  | 41, _, _ => exact rfl
  | 42, _, _ => exact rfl
  | 43, _, _ => exact rfl
  | 44, _, _ => exact rfl
  | 45, _, _ => exact rfl
  | 46, _, _ => exact rfl
  | 47, _, _ => exact rfl
  | 48, _, _ => exact rfl
  | 49, _, _ => exact rfl
  | 50, _, _ => exact rfl
  | 51, _, _ => exact rfl
  | 52, _, _ => exact rfl
  | 53, _, _ => exact rfl
  | 54, _, _ => exact rfl
  | 55, _, _ => exact rfl
  | 56, _, _ => exact rfl
  | 57, _, _ => exact rfl
  | 58, _, _ => exact rfl
  | 59, _, _ => exact rfl
  | 60, _, _ => exact rfl
  | 61, _, _ => exact rfl
  | 62, _, _ => exact rfl
  | 63, _, _ => exact rfl
  | 64, _, _ => exact rfl
  | 65, _, _ => exact rfl
  | 66, _, _ => exact rfl
  | 67, _, _ => exact rfl
  | 68, _, _ => exact rfl
  | 69, _, _ => exact rfl
  | 70, _, _ => exact rfl
  | 71, _, _ => exact rfl
  | 72, _, _ => exact rfl
  | 73, _, _ => exact rfl
  | 74, _, _ => exact rfl
  | 75, _, _ => exact rfl
  | 76, _, _ => exact rfl
  | 77, _, _ => exact rfl
  | 78, _, _ => exact rfl
  | 79, _, _ => exact rfl
  | 80, _, _ => exact rfl
  | 81, _, _ => exact rfl
  | 82, _, _ => exact rfl
  | 83, _, _ => exact rfl
  | 84, _, _ => exact rfl
  | 85, _, _ => exact rfl
  | 86, _, _ => exact rfl
  | 87, _, _ => exact rfl
  | 88, _, _ => exact rfl
  | 89, _, _ => exact rfl
  | 90, _, _ => exact rfl
  | 91, _, _ => exact rfl
  | 92, _, _ => exact rfl
  | 93, _, _ => exact rfl
  | 94, _, _ => exact rfl
  | 95, _, _ => exact rfl
  | 96, _, hne => exact absurd rfl hne
  | 97, _, _ => exact rfl
  | 98, _, _ => exact rfl
  | 99, _, _ => exact rfl
  | 100, _, _ => exact rfl
  | 101, _, _ => exact rfl
  | 102, _, _ => exact rfl
  | 103, _, _ => exact rfl
  | 104, _, _ => exact rfl
  | 105, _, _ => exact rfl
  | 106, _, _ => exact rfl
  | j + 107, hj, _ => exact absurd hj (by omega)
theorem zv_s14 (f : Nat → Int) {c : am_C} (hc : am_ar 0 16 (cut 16 f) = c) : am_set (zv x N P K T S m A h) (x + 97) c = zv x N P K T (drow S 14 f) m A h := by
  refine zv_set (i := 97) (by omega) hc (fun j hj hne => ?_)
  match j, hj, hne with
  | 0, _, _ => exact rfl
  | 1, _, _ => exact rfl
  | 2, _, _ => exact rfl
  | 3, _, _ => exact rfl
  | 4, _, _ => exact rfl
  | 5, _, _ => exact rfl
  | 6, _, _ => exact rfl
  | 7, _, _ => exact rfl
  | 8, _, _ => exact rfl
  | 9, _, _ => exact rfl
  | 10, _, _ => exact rfl
  | 11, _, _ => exact rfl
  | 12, _, _ => exact rfl
  | 13, _, _ => exact rfl
  | 14, _, _ => exact rfl
  | 15, _, _ => exact rfl
  | 16, _, _ => exact rfl
  | 17, _, _ => exact rfl
  | 18, _, _ => exact rfl
  | 19, _, _ => exact rfl
  | 20, _, _ => exact rfl
  | 21, _, _ => exact rfl
  | 22, _, _ => exact rfl
  | 23, _, _ => exact rfl
  | 24, _, _ => exact rfl
  | 25, _, _ => exact rfl
  | 26, _, _ => exact rfl
  | 27, _, _ => exact rfl
  | 28, _, _ => exact rfl
  | 29, _, _ => exact rfl
  | 30, _, _ => exact rfl
  | 31, _, _ => exact rfl
  | 32, _, _ => exact rfl
  | 33, _, _ => exact rfl
  | 34, _, _ => exact rfl
  | 35, _, _ => exact rfl
  | 36, _, _ => exact rfl
  | 37, _, _ => exact rfl
  | 38, _, _ => exact rfl
  | 39, _, _ => exact rfl
  | 40, _, _ => exact rfl
  | 41, _, _ => exact rfl
  | 42, _, _ => exact rfl
  | 43, _, _ => exact rfl
  | 44, _, _ => exact rfl
  | 45, _, _ => exact rfl
  | 46, _, _ => exact rfl
  | 47, _, _ => exact rfl
  | 48, _, _ => exact rfl
  | 49, _, _ => exact rfl
  | 50, _, _ => exact rfl
  | 51, _, _ => exact rfl
  | 52, _, _ => exact rfl
  | 53, _, _ => exact rfl
  | 54, _, _ => exact rfl
  | 55, _, _ => exact rfl
  | 56, _, _ => exact rfl
  | 57, _, _ => exact rfl
  | 58, _, _ => exact rfl
  | 59, _, _ => exact rfl
  | 60, _, _ => exact rfl
  | 61, _, _ => exact rfl
  | 62, _, _ => exact rfl
  | 63, _, _ => exact rfl
  | 64, _, _ => exact rfl
  | 65, _, _ => exact rfl
  | 66, _, _ => exact rfl
  | 67, _, _ => exact rfl
  | 68, _, _ => exact rfl
  | 69, _, _ => exact rfl
  | 70, _, _ => exact rfl
  | 71, _, _ => exact rfl
  | 72, _, _ => exact rfl
  | 73, _, _ => exact rfl
  | 74, _, _ => exact rfl
  | 75, _, _ => exact rfl
  | 76, _, _ => exact rfl
  | 77, _, _ => exact rfl
  | 78, _, _ => exact rfl
  | 79, _, _ => exact rfl
  | 80, _, _ => exact rfl
  | 81, _, _ => exact rfl
  | 82, _, _ => exact rfl
  | 83, _, _ => exact rfl
  | 84, _, _ => exact rfl
  | 85, _, _ => exact rfl
  | 86, _, _ => exact rfl
  | 87, _, _ => exact rfl
  | 88, _, _ => exact rfl
  | 89, _, _ => exact rfl
  | 90, _, _ => exact rfl
  | 91, _, _ => exact rfl
  | 92, _, _ => exact rfl
  | 93, _, _ => exact rfl
  | 94, _, _ => exact rfl
  | 95, _, _ => exact rfl
  | 96, _, _ => exact rfl
  | 97, _, hne => exact absurd rfl hne
  | 98, _, _ => exact rfl
  | 99, _, _ => exact rfl
  | 100, _, _ => exact rfl
  | 101, _, _ => exact rfl
  | 102, _, _ => exact rfl
  | 103, _, _ => exact rfl
  | 104, _, _ => exact rfl
  | 105, _, _ => exact rfl
  | 106, _, _ => exact rfl
  | j + 107, hj, _ => exact absurd hj (by omega)
theorem zv_s15 (f : Nat → Int) {c : am_C} (hc : am_ar 0 16 (cut 16 f) = c) : am_set (zv x N P K T S m A h) (x + 98) c = zv x N P K T (drow S 15 f) m A h := by
  refine zv_set (i := 98) (by omega) hc (fun j hj hne => ?_)
  match j, hj, hne with
  | 0, _, _ => exact rfl
  | 1, _, _ => exact rfl
  | 2, _, _ => exact rfl
  | 3, _, _ => exact rfl
  | 4, _, _ => exact rfl
  | 5, _, _ => exact rfl
  | 6, _, _ => exact rfl
  | 7, _, _ => exact rfl
  | 8, _, _ => exact rfl
  | 9, _, _ => exact rfl
  | 10, _, _ => exact rfl
  | 11, _, _ => exact rfl
  | 12, _, _ => exact rfl
  | 13, _, _ => exact rfl
  | 14, _, _ => exact rfl
  | 15, _, _ => exact rfl
  | 16, _, _ => exact rfl
  | 17, _, _ => exact rfl
  | 18, _, _ => exact rfl
  | 19, _, _ => exact rfl
  | 20, _, _ => exact rfl
  | 21, _, _ => exact rfl
  | 22, _, _ => exact rfl
  | 23, _, _ => exact rfl
  | 24, _, _ => exact rfl
  | 25, _, _ => exact rfl
  | 26, _, _ => exact rfl
  | 27, _, _ => exact rfl
  | 28, _, _ => exact rfl
  | 29, _, _ => exact rfl
  | 30, _, _ => exact rfl
  | 31, _, _ => exact rfl
  | 32, _, _ => exact rfl
  | 33, _, _ => exact rfl
  | 34, _, _ => exact rfl
  | 35, _, _ => exact rfl
  | 36, _, _ => exact rfl
  | 37, _, _ => exact rfl
  | 38, _, _ => exact rfl
  | 39, _, _ => exact rfl
  | 40, _, _ => exact rfl
  | 41, _, _ => exact rfl
  | 42, _, _ => exact rfl
  | 43, _, _ => exact rfl
  | 44, _, _ => exact rfl
  | 45, _, _ => exact rfl
  | 46, _, _ => exact rfl
  | 47, _, _ => exact rfl
  | 48, _, _ => exact rfl
  | 49, _, _ => exact rfl
  | 50, _, _ => exact rfl
  | 51, _, _ => exact rfl
  | 52, _, _ => exact rfl
  | 53, _, _ => exact rfl
  | 54, _, _ => exact rfl
  | 55, _, _ => exact rfl
  | 56, _, _ => exact rfl
  | 57, _, _ => exact rfl
  | 58, _, _ => exact rfl
  | 59, _, _ => exact rfl
  | 60, _, _ => exact rfl
  | 61, _, _ => exact rfl
  | 62, _, _ => exact rfl
  | 63, _, _ => exact rfl
  | 64, _, _ => exact rfl
  | 65, _, _ => exact rfl
  | 66, _, _ => exact rfl
  | 67, _, _ => exact rfl
  | 68, _, _ => exact rfl
  | 69, _, _ => exact rfl
  | 70, _, _ => exact rfl
  | 71, _, _ => exact rfl
  | 72, _, _ => exact rfl
  | 73, _, _ => exact rfl
  | 74, _, _ => exact rfl
  | 75, _, _ => exact rfl
  | 76, _, _ => exact rfl
  | 77, _, _ => exact rfl
  | 78, _, _ => exact rfl
  | 79, _, _ => exact rfl
  | 80, _, _ => exact rfl
  | 81, _, _ => exact rfl
  | 82, _, _ => exact rfl
  | 83, _, _ => exact rfl
  | 84, _, _ => exact rfl
  | 85, _, _ => exact rfl
  | 86, _, _ => exact rfl
  | 87, _, _ => exact rfl
  | 88, _, _ => exact rfl
  | 89, _, _ => exact rfl
  | 90, _, _ => exact rfl
  | 91, _, _ => exact rfl
  | 92, _, _ => exact rfl
  | 93, _, _ => exact rfl
  | 94, _, _ => exact rfl
  | 95, _, _ => exact rfl
  | 96, _, _ => exact rfl
  | 97, _, _ => exact rfl
  | 98, _, hne => exact absurd rfl hne
  | 99, _, _ => exact rfl
  | 100, _, _ => exact rfl
  | 101, _, _ => exact rfl
  | 102, _, _ => exact rfl
  | 103, _, _ => exact rfl
  | 104, _, _ => exact rfl
  | 105, _, _ => exact rfl
  | 106, _, _ => exact rfl
  | j + 107, hj, _ => exact absurd hj (by omega)
theorem zv_s16 (f : Nat → Int) {c : am_C} (hc : am_ar 0 16 (cut 16 f) = c) : am_set (zv x N P K T S m A h) (x + 100) c = zv x N P K T (drow S 16 f) m A h := by
  refine zv_set (i := 100) (by omega) hc (fun j hj hne => ?_)
  match j, hj, hne with
  | 0, _, _ => exact rfl
  | 1, _, _ => exact rfl
  | 2, _, _ => exact rfl
  | 3, _, _ => exact rfl
  | 4, _, _ => exact rfl
  | 5, _, _ => exact rfl
  | 6, _, _ => exact rfl
  | 7, _, _ => exact rfl
  | 8, _, _ => exact rfl
  | 9, _, _ => exact rfl
  | 10, _, _ => exact rfl
  | 11, _, _ => exact rfl
  | 12, _, _ => exact rfl
  | 13, _, _ => exact rfl
  | 14, _, _ => exact rfl
  | 15, _, _ => exact rfl
  | 16, _, _ => exact rfl
  | 17, _, _ => exact rfl
  | 18, _, _ => exact rfl
  | 19, _, _ => exact rfl
  | 20, _, _ => exact rfl
  | 21, _, _ => exact rfl
  | 22, _, _ => exact rfl
  | 23, _, _ => exact rfl
  | 24, _, _ => exact rfl
  | 25, _, _ => exact rfl
  | 26, _, _ => exact rfl
  | 27, _, _ => exact rfl
  | 28, _, _ => exact rfl
  | 29, _, _ => exact rfl
  | 30, _, _ => exact rfl
  | 31, _, _ => exact rfl
  | 32, _, _ => exact rfl
  | 33, _, _ => exact rfl
  | 34, _, _ => exact rfl
  | 35, _, _ => exact rfl
  | 36, _, _ => exact rfl
  | 37, _, _ => exact rfl
  | 38, _, _ => exact rfl
  | 39, _, _ => exact rfl
  | 40, _, _ => exact rfl
  | 41, _, _ => exact rfl
  | 42, _, _ => exact rfl
  | 43, _, _ => exact rfl
  | 44, _, _ => exact rfl
  | 45, _, _ => exact rfl
  | 46, _, _ => exact rfl
  | 47, _, _ => exact rfl
  | 48, _, _ => exact rfl
  | 49, _, _ => exact rfl
  | 50, _, _ => exact rfl
  | 51, _, _ => exact rfl
  | 52, _, _ => exact rfl
  | 53, _, _ => exact rfl
  | 54, _, _ => exact rfl
  | 55, _, _ => exact rfl
  | 56, _, _ => exact rfl
  | 57, _, _ => exact rfl
  | 58, _, _ => exact rfl
  | 59, _, _ => exact rfl
  | 60, _, _ => exact rfl
  | 61, _, _ => exact rfl
  | 62, _, _ => exact rfl
  | 63, _, _ => exact rfl
  | 64, _, _ => exact rfl
  | 65, _, _ => exact rfl
  | 66, _, _ => exact rfl
  | 67, _, _ => exact rfl
  | 68, _, _ => exact rfl
  | 69, _, _ => exact rfl
  | 70, _, _ => exact rfl
  | 71, _, _ => exact rfl
  | 72, _, _ => exact rfl
  | 73, _, _ => exact rfl
  | 74, _, _ => exact rfl
  | 75, _, _ => exact rfl
  | 76, _, _ => exact rfl
  | 77, _, _ => exact rfl
  | 78, _, _ => exact rfl
  | 79, _, _ => exact rfl
  | 80, _, _ => exact rfl
  | 81, _, _ => exact rfl
  | 82, _, _ => exact rfl
  | 83, _, _ => exact rfl
  | 84, _, _ => exact rfl
  | 85, _, _ => exact rfl
  | 86, _, _ => exact rfl
  | 87, _, _ => exact rfl
  | 88, _, _ => exact rfl
  | 89, _, _ => exact rfl
  | 90, _, _ => exact rfl
  | 91, _, _ => exact rfl
  | 92, _, _ => exact rfl
  | 93, _, _ => exact rfl
  | 94, _, _ => exact rfl
  | 95, _, _ => exact rfl
  | 96, _, _ => exact rfl
  | 97, _, _ => exact rfl
  | 98, _, _ => exact rfl
  | 99, _, _ => exact rfl
  | 100, _, hne => exact absurd rfl hne
  | 101, _, _ => exact rfl
  | 102, _, _ => exact rfl
  | 103, _, _ => exact rfl
  | 104, _, _ => exact rfl
  | 105, _, _ => exact rfl
  | 106, _, _ => exact rfl
  | j + 107, hj, _ => exact absurd hj (by omega)
theorem zv_s17 (f : Nat → Int) {c : am_C} (hc : am_ar 0 16 (cut 16 f) = c) : am_set (zv x N P K T S m A h) (x + 101) c = zv x N P K T (drow S 17 f) m A h := by
  refine zv_set (i := 101) (by omega) hc (fun j hj hne => ?_)
  match j, hj, hne with
  | 0, _, _ => exact rfl
  | 1, _, _ => exact rfl
  | 2, _, _ => exact rfl
  | 3, _, _ => exact rfl
  | 4, _, _ => exact rfl
  | 5, _, _ => exact rfl
  | 6, _, _ => exact rfl
  | 7, _, _ => exact rfl
  | 8, _, _ => exact rfl
  | 9, _, _ => exact rfl
  | 10, _, _ => exact rfl
  | 11, _, _ => exact rfl
  | 12, _, _ => exact rfl
  | 13, _, _ => exact rfl
  | 14, _, _ => exact rfl
  | 15, _, _ => exact rfl
  | 16, _, _ => exact rfl
  | 17, _, _ => exact rfl
  | 18, _, _ => exact rfl
  | 19, _, _ => exact rfl
  | 20, _, _ => exact rfl
  | 21, _, _ => exact rfl
  | 22, _, _ => exact rfl
  | 23, _, _ => exact rfl
  | 24, _, _ => exact rfl
  | 25, _, _ => exact rfl
  | 26, _, _ => exact rfl
  | 27, _, _ => exact rfl
  | 28, _, _ => exact rfl
  | 29, _, _ => exact rfl
  | 30, _, _ => exact rfl
  | 31, _, _ => exact rfl
  | 32, _, _ => exact rfl
  | 33, _, _ => exact rfl
  | 34, _, _ => exact rfl
  | 35, _, _ => exact rfl
  | 36, _, _ => exact rfl
  | 37, _, _ => exact rfl
  | 38, _, _ => exact rfl
  | 39, _, _ => exact rfl
  | 40, _, _ => exact rfl
  | 41, _, _ => exact rfl
  | 42, _, _ => exact rfl
  | 43, _, _ => exact rfl
  | 44, _, _ => exact rfl
  | 45, _, _ => exact rfl
  | 46, _, _ => exact rfl
  | 47, _, _ => exact rfl
  | 48, _, _ => exact rfl
  | 49, _, _ => exact rfl
  | 50, _, _ => exact rfl
  | 51, _, _ => exact rfl
  | 52, _, _ => exact rfl
  | 53, _, _ => exact rfl
  | 54, _, _ => exact rfl
  | 55, _, _ => exact rfl
  | 56, _, _ => exact rfl
  | 57, _, _ => exact rfl
  | 58, _, _ => exact rfl
  | 59, _, _ => exact rfl
  | 60, _, _ => exact rfl
  | 61, _, _ => exact rfl
  | 62, _, _ => exact rfl
  | 63, _, _ => exact rfl
  | 64, _, _ => exact rfl
  | 65, _, _ => exact rfl
  | 66, _, _ => exact rfl
  | 67, _, _ => exact rfl
  | 68, _, _ => exact rfl
  | 69, _, _ => exact rfl
  | 70, _, _ => exact rfl
  | 71, _, _ => exact rfl
  | 72, _, _ => exact rfl
  | 73, _, _ => exact rfl
  | 74, _, _ => exact rfl
  | 75, _, _ => exact rfl
  | 76, _, _ => exact rfl
  | 77, _, _ => exact rfl
  | 78, _, _ => exact rfl
  | 79, _, _ => exact rfl
  | 80, _, _ => exact rfl
  | 81, _, _ => exact rfl
  | 82, _, _ => exact rfl
  | 83, _, _ => exact rfl
  | 84, _, _ => exact rfl
  | 85, _, _ => exact rfl
  | 86, _, _ => exact rfl
  | 87, _, _ => exact rfl
  | 88, _, _ => exact rfl
  | 89, _, _ => exact rfl
  | 90, _, _ => exact rfl
  | 91, _, _ => exact rfl
  | 92, _, _ => exact rfl
  | 93, _, _ => exact rfl
  | 94, _, _ => exact rfl
  | 95, _, _ => exact rfl
  | 96, _, _ => exact rfl
  | 97, _, _ => exact rfl
  | 98, _, _ => exact rfl
  | 99, _, _ => exact rfl
  | 100, _, _ => exact rfl
  | 101, _, hne => exact absurd rfl hne
  | 102, _, _ => exact rfl
  | 103, _, _ => exact rfl
  | 104, _, _ => exact rfl
  | 105, _, _ => exact rfl
  | 106, _, _ => exact rfl
  | j + 107, hj, _ => exact absurd hj (by omega)
theorem zv_s18 (f : Nat → Int) {c : am_C} (hc : am_ar 0 16 (cut 16 f) = c) : am_set (zv x N P K T S m A h) (x + 102) c = zv x N P K T (drow S 18 f) m A h := by
  refine zv_set (i := 102) (by omega) hc (fun j hj hne => ?_)
  match j, hj, hne with
  | 0, _, _ => exact rfl
  | 1, _, _ => exact rfl
  | 2, _, _ => exact rfl
  | 3, _, _ => exact rfl
  | 4, _, _ => exact rfl
  | 5, _, _ => exact rfl
  | 6, _, _ => exact rfl
  | 7, _, _ => exact rfl
  | 8, _, _ => exact rfl
  | 9, _, _ => exact rfl
  | 10, _, _ => exact rfl
  | 11, _, _ => exact rfl
  | 12, _, _ => exact rfl
  | 13, _, _ => exact rfl
  | 14, _, _ => exact rfl
  | 15, _, _ => exact rfl
  | 16, _, _ => exact rfl
  | 17, _, _ => exact rfl
  | 18, _, _ => exact rfl
  | 19, _, _ => exact rfl
  | 20, _, _ => exact rfl
  | 21, _, _ => exact rfl
  | 22, _, _ => exact rfl
  | 23, _, _ => exact rfl
  | 24, _, _ => exact rfl
  | 25, _, _ => exact rfl
  | 26, _, _ => exact rfl
  | 27, _, _ => exact rfl
  | 28, _, _ => exact rfl
  | 29, _, _ => exact rfl
  | 30, _, _ => exact rfl
  | 31, _, _ => exact rfl
  | 32, _, _ => exact rfl
  | 33, _, _ => exact rfl
  | 34, _, _ => exact rfl
  | 35, _, _ => exact rfl
  | 36, _, _ => exact rfl
  | 37, _, _ => exact rfl
  | 38, _, _ => exact rfl
  | 39, _, _ => exact rfl
  | 40, _, _ => exact rfl
  | 41, _, _ => exact rfl
  | 42, _, _ => exact rfl
  | 43, _, _ => exact rfl
  | 44, _, _ => exact rfl
  | 45, _, _ => exact rfl
  | 46, _, _ => exact rfl
  | 47, _, _ => exact rfl
  | 48, _, _ => exact rfl
  | 49, _, _ => exact rfl
  | 50, _, _ => exact rfl
  | 51, _, _ => exact rfl
  | 52, _, _ => exact rfl
  | 53, _, _ => exact rfl
  | 54, _, _ => exact rfl
  | 55, _, _ => exact rfl
  | 56, _, _ => exact rfl
  | 57, _, _ => exact rfl
  | 58, _, _ => exact rfl
  | 59, _, _ => exact rfl
  | 60, _, _ => exact rfl
  | 61, _, _ => exact rfl
  | 62, _, _ => exact rfl
  | 63, _, _ => exact rfl
  | 64, _, _ => exact rfl
  | 65, _, _ => exact rfl
  | 66, _, _ => exact rfl
  | 67, _, _ => exact rfl
  | 68, _, _ => exact rfl
  | 69, _, _ => exact rfl
  | 70, _, _ => exact rfl
  | 71, _, _ => exact rfl
  | 72, _, _ => exact rfl
  | 73, _, _ => exact rfl
  | 74, _, _ => exact rfl
  | 75, _, _ => exact rfl
  | 76, _, _ => exact rfl
  | 77, _, _ => exact rfl
  | 78, _, _ => exact rfl
  | 79, _, _ => exact rfl
  | 80, _, _ => exact rfl
  | 81, _, _ => exact rfl
  | 82, _, _ => exact rfl
  | 83, _, _ => exact rfl
  | 84, _, _ => exact rfl
  | 85, _, _ => exact rfl
  | 86, _, _ => exact rfl
  | 87, _, _ => exact rfl
  | 88, _, _ => exact rfl
  | 89, _, _ => exact rfl
  | 90, _, _ => exact rfl
  | 91, _, _ => exact rfl
  | 92, _, _ => exact rfl
  | 93, _, _ => exact rfl
  | 94, _, _ => exact rfl
  | 95, _, _ => exact rfl
  | 96, _, _ => exact rfl
  | 97, _, _ => exact rfl
  | 98, _, _ => exact rfl
  | 99, _, _ => exact rfl
  | 100, _, _ => exact rfl
  | 101, _, _ => exact rfl
  | 102, _, hne => exact absurd rfl hne
  | 103, _, _ => exact rfl
  | 104, _, _ => exact rfl
  | 105, _, _ => exact rfl
  | 106, _, _ => exact rfl
  | j + 107, hj, _ => exact absurd hj (by omega)
theorem zv_s19 (f : Nat → Int) {c : am_C} (hc : am_ar 0 16 (cut 16 f) = c) : am_set (zv x N P K T S m A h) (x + 104) c = zv x N P K T (drow S 19 f) m A h := by
  refine zv_set (i := 104) (by omega) hc (fun j hj hne => ?_)
  match j, hj, hne with
  | 0, _, _ => exact rfl
  | 1, _, _ => exact rfl
  | 2, _, _ => exact rfl
  | 3, _, _ => exact rfl
  | 4, _, _ => exact rfl
  | 5, _, _ => exact rfl
  | 6, _, _ => exact rfl
  | 7, _, _ => exact rfl
  | 8, _, _ => exact rfl
  | 9, _, _ => exact rfl
  | 10, _, _ => exact rfl
  | 11, _, _ => exact rfl
  | 12, _, _ => exact rfl
  | 13, _, _ => exact rfl
  | 14, _, _ => exact rfl
  | 15, _, _ => exact rfl
  | 16, _, _ => exact rfl
  | 17, _, _ => exact rfl
  | 18, _, _ => exact rfl
  | 19, _, _ => exact rfl
  | 20, _, _ => exact rfl
  | 21, _, _ => exact rfl
  | 22, _, _ => exact rfl
  | 23, _, _ => exact rfl
  | 24, _, _ => exact rfl
  | 25, _, _ => exact rfl
  | 26, _, _ => exact rfl
  | 27, _, _ => exact rfl
  | 28, _, _ => exact rfl
  | 29, _, _ => exact rfl
  | 30, _, _ => exact rfl
  | 31, _, _ => exact rfl
  | 32, _, _ => exact rfl
  | 33, _, _ => exact rfl
  | 34, _, _ => exact rfl
  | 35, _, _ => exact rfl
  | 36, _, _ => exact rfl
  | 37, _, _ => exact rfl
  | 38, _, _ => exact rfl
  | 39, _, _ => exact rfl
  | 40, _, _ => exact rfl
  | 41, _, _ => exact rfl
  | 42, _, _ => exact rfl
  | 43, _, _ => exact rfl
  | 44, _, _ => exact rfl
  | 45, _, _ => exact rfl
  | 46, _, _ => exact rfl
  | 47, _, _ => exact rfl
  | 48, _, _ => exact rfl
  | 49, _, _ => exact rfl
  | 50, _, _ => exact rfl
  | 51, _, _ => exact rfl
  | 52, _, _ => exact rfl
  | 53, _, _ => exact rfl
  | 54, _, _ => exact rfl
  | 55, _, _ => exact rfl
  | 56, _, _ => exact rfl
  | 57, _, _ => exact rfl
  | 58, _, _ => exact rfl
  | 59, _, _ => exact rfl
  | 60, _, _ => exact rfl
  | 61, _, _ => exact rfl
  | 62, _, _ => exact rfl
  | 63, _, _ => exact rfl
  | 64, _, _ => exact rfl
  | 65, _, _ => exact rfl
  | 66, _, _ => exact rfl
  | 67, _, _ => exact rfl
  | 68, _, _ => exact rfl
  | 69, _, _ => exact rfl
  | 70, _, _ => exact rfl
  | 71, _, _ => exact rfl
  | 72, _, _ => exact rfl
  | 73, _, _ => exact rfl
  | 74, _, _ => exact rfl
  | 75, _, _ => exact rfl
  | 76, _, _ => exact rfl
  | 77, _, _ => exact rfl
  | 78, _, _ => exact rfl
  | 79, _, _ => exact rfl
  | 80, _, _ => exact rfl
  | 81, _, _ => exact rfl
  | 82, _, _ => exact rfl
  | 83, _, _ => exact rfl
  | 84, _, _ => exact rfl
  | 85, _, _ => exact rfl
  | 86, _, _ => exact rfl
  | 87, _, _ => exact rfl
  | 88, _, _ => exact rfl
  | 89, _, _ => exact rfl
  | 90, _, _ => exact rfl
  | 91, _, _ => exact rfl
  | 92, _, _ => exact rfl
  | 93, _, _ => exact rfl
  | 94, _, _ => exact rfl
  | 95, _, _ => exact rfl
  | 96, _, _ => exact rfl
  | 97, _, _ => exact rfl
  | 98, _, _ => exact rfl
  | 99, _, _ => exact rfl
  | 100, _, _ => exact rfl
  | 101, _, _ => exact rfl
  | 102, _, _ => exact rfl
  | 103, _, _ => exact rfl
  | 104, _, hne => exact absurd rfl hne
  | 105, _, _ => exact rfl
  | 106, _, _ => exact rfl
  | j + 107, hj, _ => exact absurd hj (by omega)
theorem zv_s20 (f : Nat → Int) {c : am_C} (hc : am_ar 0 16 (cut 16 f) = c) : am_set (zv x N P K T S m A h) (x + 105) c = zv x N P K T (drow S 20 f) m A h := by
  refine zv_set (i := 105) (by omega) hc (fun j hj hne => ?_)
  match j, hj, hne with
  | 0, _, _ => exact rfl
  | 1, _, _ => exact rfl
  | 2, _, _ => exact rfl
  | 3, _, _ => exact rfl
  | 4, _, _ => exact rfl
  | 5, _, _ => exact rfl
  | 6, _, _ => exact rfl
  | 7, _, _ => exact rfl
  | 8, _, _ => exact rfl
  | 9, _, _ => exact rfl
  | 10, _, _ => exact rfl
  | 11, _, _ => exact rfl
  | 12, _, _ => exact rfl
  | 13, _, _ => exact rfl
  | 14, _, _ => exact rfl
  | 15, _, _ => exact rfl
  | 16, _, _ => exact rfl
  | 17, _, _ => exact rfl
  | 18, _, _ => exact rfl
  | 19, _, _ => exact rfl
  | 20, _, _ => exact rfl
  | 21, _, _ => exact rfl
  | 22, _, _ => exact rfl
  | 23, _, _ => exact rfl
  | 24, _, _ => exact rfl
  | 25, _, _ => exact rfl
  | 26, _, _ => exact rfl
  | 27, _, _ => exact rfl
  | 28, _, _ => exact rfl
  | 29, _, _ => exact rfl
  | 30, _, _ => exact rfl
  | 31, _, _ => exact rfl
  | 32, _, _ => exact rfl
  | 33, _, _ => exact rfl
  | 34, _, _ => exact rfl
  | 35, _, _ => exact rfl
  | 36, _, _ => exact rfl
  | 37, _, _ => exact rfl
  | 38, _, _ => exact rfl
  | 39, _, _ => exact rfl
  | 40, _, _ => exact rfl
  | 41, _, _ => exact rfl
  | 42, _, _ => exact rfl
  | 43, _, _ => exact rfl
  | 44, _, _ => exact rfl
  | 45, _, _ => exact rfl
  | 46, _, _ => exact rfl
  | 47, _, _ => exact rfl
  | 48, _, _ => exact rfl
  | 49, _, _ => exact rfl
  | 50, _, _ => exact rfl
  | 51, _, _ => exact rfl
  | 52, _, _ => exact rfl
  | 53, _, _ => exact rfl
  | 54, _, _ => exact rfl
  | 55, _, _ => exact rfl
  | 56, _, _ => exact rfl
  | 57, _, _ => exact rfl
  | 58, _, _ => exact rfl
  | 59, _, _ => exact rfl
  | 60, _, _ => exact rfl
  | 61, _, _ => exact rfl
  | 62, _, _ => exact rfl
  | 63, _, _ => exact rfl
  | 64, _, _ => exact rfl
  | 65, _, _ => exact rfl
  | 66, _, _ => exact rfl
  | 67, _, _ => exact rfl
  | 68, _, _ => exact rfl
  | 69, _, _ => exact rfl
  | 70, _, _ => exact rfl
  | 71, _, _ => exact rfl
  | 72, _, _ => exact rfl
  | 73, _, _ => exact rfl
  | 74, _, _ => exact rfl
  | 75, _, _ => exact rfl
  | 76, _, _ => exact rfl
  | 77, _, _ => exact rfl
  | 78, _, _ => exact rfl
  | 79, _, _ => exact rfl
  | 80, _, _ => exact rfl
  | 81, _, _ => exact rfl
  | 82, _, _ => exact rfl
  | 83, _, _ => exact rfl
  | 84, _, _ => exact rfl
  | 85, _, _ => exact rfl
  | 86, _, _ => exact rfl
  | 87, _, _ => exact rfl
  | 88, _, _ => exact rfl
  | 89, _, _ => exact rfl
  | 90, _, _ => exact rfl
  | 91, _, _ => exact rfl
  | 92, _, _ => exact rfl
  | 93, _, _ => exact rfl
  | 94, _, _ => exact rfl
  | 95, _, _ => exact rfl
  | 96, _, _ => exact rfl
  | 97, _, _ => exact rfl
  | 98, _, _ => exact rfl
  | 99, _, _ => exact rfl
  | 100, _, _ => exact rfl
  | 101, _, _ => exact rfl
  | 102, _, _ => exact rfl
  | 103, _, _ => exact rfl
  | 104, _, _ => exact rfl
  | 105, _, hne => exact absurd rfl hne
  | 106, _, _ => exact rfl
  | j + 107, hj, _ => exact absurd hj (by omega)
theorem zv_s21 (f : Nat → Int) {c : am_C} (hc : am_ar 0 16 (cut 16 f) = c) : am_set (zv x N P K T S m A h) (x + 106) c = zv x N P K T (drow S 21 f) m A h := by
  refine zv_set (i := 106) (by omega) hc (fun j hj hne => ?_)
  match j, hj, hne with
  | 0, _, _ => exact rfl
  | 1, _, _ => exact rfl
  | 2, _, _ => exact rfl
  | 3, _, _ => exact rfl
  | 4, _, _ => exact rfl
  | 5, _, _ => exact rfl
  | 6, _, _ => exact rfl
  | 7, _, _ => exact rfl
  | 8, _, _ => exact rfl
  | 9, _, _ => exact rfl
  | 10, _, _ => exact rfl
  | 11, _, _ => exact rfl
  | 12, _, _ => exact rfl
  | 13, _, _ => exact rfl
  | 14, _, _ => exact rfl
  | 15, _, _ => exact rfl
  | 16, _, _ => exact rfl
  | 17, _, _ => exact rfl
  | 18, _, _ => exact rfl
  | 19, _, _ => exact rfl
  | 20, _, _ => exact rfl
  | 21, _, _ => exact rfl
  | 22, _, _ => exact rfl
  | 23, _, _ => exact rfl
  | 24, _, _ => exact rfl
  | 25, _, _ => exact rfl
  | 26, _, _ => exact rfl
  | 27, _, _ => exact rfl
  | 28, _, _ => exact rfl
  | 29, _, _ => exact rfl
  | 30, _, _ => exact rfl
  | 31, _, _ => exact rfl
  | 32, _, _ => exact rfl
  | 33, _, _ => exact rfl
  | 34, _, _ => exact rfl
  | 35, _, _ => exact rfl
  | 36, _, _ => exact rfl
  | 37, _, _ => exact rfl
  | 38, _, _ => exact rfl
  | 39, _, _ => exact rfl
  | 40, _, _ => exact rfl
  | 41, _, _ => exact rfl
  | 42, _, _ => exact rfl
  | 43, _, _ => exact rfl
  | 44, _, _ => exact rfl
  | 45, _, _ => exact rfl
  | 46, _, _ => exact rfl
  | 47, _, _ => exact rfl
  | 48, _, _ => exact rfl
  | 49, _, _ => exact rfl
  | 50, _, _ => exact rfl
  | 51, _, _ => exact rfl
  | 52, _, _ => exact rfl
  | 53, _, _ => exact rfl
  | 54, _, _ => exact rfl
  | 55, _, _ => exact rfl
  | 56, _, _ => exact rfl
  | 57, _, _ => exact rfl
  | 58, _, _ => exact rfl
  | 59, _, _ => exact rfl
  | 60, _, _ => exact rfl
  | 61, _, _ => exact rfl
  | 62, _, _ => exact rfl
  | 63, _, _ => exact rfl
  | 64, _, _ => exact rfl
  | 65, _, _ => exact rfl
  | 66, _, _ => exact rfl
  | 67, _, _ => exact rfl
  | 68, _, _ => exact rfl
  | 69, _, _ => exact rfl
  | 70, _, _ => exact rfl
  | 71, _, _ => exact rfl
  | 72, _, _ => exact rfl
  | 73, _, _ => exact rfl
  | 74, _, _ => exact rfl
  | 75, _, _ => exact rfl
  | 76, _, _ => exact rfl
  | 77, _, _ => exact rfl
  | 78, _, _ => exact rfl
  | 79, _, _ => exact rfl
  | 80, _, _ => exact rfl
  | 81, _, _ => exact rfl
  | 82, _, _ => exact rfl
  | 83, _, _ => exact rfl
  | 84, _, _ => exact rfl
  | 85, _, _ => exact rfl
  | 86, _, _ => exact rfl
  | 87, _, _ => exact rfl
  | 88, _, _ => exact rfl
  | 89, _, _ => exact rfl
  | 90, _, _ => exact rfl
  | 91, _, _ => exact rfl
  | 92, _, _ => exact rfl
  | 93, _, _ => exact rfl
  | 94, _, _ => exact rfl
  | 95, _, _ => exact rfl
  | 96, _, _ => exact rfl
  | 97, _, _ => exact rfl
  | 98, _, _ => exact rfl
  | 99, _, _ => exact rfl
  | 100, _, _ => exact rfl
  | 101, _, _ => exact rfl
  | 102, _, _ => exact rfl
  | 103, _, _ => exact rfl
  | 104, _, _ => exact rfl
  | 105, _, _ => exact rfl
  | 106, _, hne => exact absurd rfl hne
  | j + 107, hj, _ => exact absurd hj (by omega)
theorem zv_k10 : am_cpy (zv x N P K T S m A h) (am_R (x + 8)) 0 (x + 92) 0 16 = some (zv x N P K T (drow S 10 (S 5)) m A h) := by
  unfold am_cpy
  show (match (zv x N P K T S m A h).1 (x + 8) with
    | .inr (.inl (t, n, f)) => if t = 0 then am_cp (zv x N P K T S m A h) f n 0 (x + 92) 0 16 else none
    | _ => none) = _
  rw [zv_in (i := 8) (by omega)]
  show (if 0 = 0 then am_cp (zv x N P K T S m A h) (cut 16 (S 5)) 16 0 (x + 92) 0 16 else none) = _
  rw [if_pos rfl]
  unfold am_cp
  rw [zv_in (i := 92) (by omega)]
  show (if 0 = 0 ∧ (0 : Int) ≤ 0 ∧ (0 : Int) ≤ 0 ∧ (0 : Int) ≤ 16 ∧ (0 : Int) + 16 ≤ (16 : Nat) ∧ (0 : Int) + 16 ≤ (16 : Nat) then some (am_set _ _ (am_ar 0 16 (va_cpy (cut 16 (S 5)) (cut 16 (S 10)) 0 0 16))) else none) = _
  rw [if_pos (by omega)]
  congr 1
  refine zv_s10 (S 5) ?_
  congr 3
  funext q
  unfold va_cpy cut
  by_cases a : q < 16
  · rw [if_pos a, if_pos (by omega), if_pos (by omega)]; congr 1; omega
  · rw [if_neg a, if_neg (by omega), if_neg a]
theorem zv_k11 : am_cpy (zv x N P K T S m A h) (am_R (x + 9)) 0 (x + 93) 0 16 = some (zv x N P K T (drow S 11 (S 6)) m A h) := by
  unfold am_cpy
  show (match (zv x N P K T S m A h).1 (x + 9) with
    | .inr (.inl (t, n, f)) => if t = 0 then am_cp (zv x N P K T S m A h) f n 0 (x + 93) 0 16 else none
    | _ => none) = _
  rw [zv_in (i := 9) (by omega)]
  show (if 0 = 0 then am_cp (zv x N P K T S m A h) (cut 16 (S 6)) 16 0 (x + 93) 0 16 else none) = _
  rw [if_pos rfl]
  unfold am_cp
  rw [zv_in (i := 93) (by omega)]
  show (if 0 = 0 ∧ (0 : Int) ≤ 0 ∧ (0 : Int) ≤ 0 ∧ (0 : Int) ≤ 16 ∧ (0 : Int) + 16 ≤ (16 : Nat) ∧ (0 : Int) + 16 ≤ (16 : Nat) then some (am_set _ _ (am_ar 0 16 (va_cpy (cut 16 (S 6)) (cut 16 (S 11)) 0 0 16))) else none) = _
  rw [if_pos (by omega)]
  congr 1
  refine zv_s11 (S 6) ?_
  congr 3
  funext q
  unfold va_cpy cut
  by_cases a : q < 16
  · rw [if_pos a, if_pos (by omega), if_pos (by omega)]; congr 1; omega
  · rw [if_neg a, if_neg (by omega), if_neg a]
theorem zv_k12 : am_cpy (zv x N P K T S m A h) (am_R (x + 10)) 0 (x + 94) 0 16 = some (zv x N P K T (drow S 12 (S 7)) m A h) := by
  unfold am_cpy
  show (match (zv x N P K T S m A h).1 (x + 10) with
    | .inr (.inl (t, n, f)) => if t = 0 then am_cp (zv x N P K T S m A h) f n 0 (x + 94) 0 16 else none
    | _ => none) = _
  rw [zv_in (i := 10) (by omega)]
  show (if 0 = 0 then am_cp (zv x N P K T S m A h) (cut 16 (S 7)) 16 0 (x + 94) 0 16 else none) = _
  rw [if_pos rfl]
  unfold am_cp
  rw [zv_in (i := 94) (by omega)]
  show (if 0 = 0 ∧ (0 : Int) ≤ 0 ∧ (0 : Int) ≤ 0 ∧ (0 : Int) ≤ 16 ∧ (0 : Int) + 16 ≤ (16 : Nat) ∧ (0 : Int) + 16 ≤ (16 : Nat) then some (am_set _ _ (am_ar 0 16 (va_cpy (cut 16 (S 7)) (cut 16 (S 12)) 0 0 16))) else none) = _
  rw [if_pos (by omega)]
  congr 1
  refine zv_s12 (S 7) ?_
  congr 3
  funext q
  unfold va_cpy cut
  by_cases a : q < 16
  · rw [if_pos a, if_pos (by omega), if_pos (by omega)]; congr 1; omega
  · rw [if_neg a, if_neg (by omega), if_neg a]
theorem zv_k13 : am_cpy (zv x N P K T S m A h) (am_R (x + 8)) 0 (x + 96) 0 16 = some (zv x N P K T (drow S 13 (S 5)) m A h) := by
  unfold am_cpy
  show (match (zv x N P K T S m A h).1 (x + 8) with
    | .inr (.inl (t, n, f)) => if t = 0 then am_cp (zv x N P K T S m A h) f n 0 (x + 96) 0 16 else none
    | _ => none) = _
  rw [zv_in (i := 8) (by omega)]
  show (if 0 = 0 then am_cp (zv x N P K T S m A h) (cut 16 (S 5)) 16 0 (x + 96) 0 16 else none) = _
  rw [if_pos rfl]
  unfold am_cp
  rw [zv_in (i := 96) (by omega)]
  show (if 0 = 0 ∧ (0 : Int) ≤ 0 ∧ (0 : Int) ≤ 0 ∧ (0 : Int) ≤ 16 ∧ (0 : Int) + 16 ≤ (16 : Nat) ∧ (0 : Int) + 16 ≤ (16 : Nat) then some (am_set _ _ (am_ar 0 16 (va_cpy (cut 16 (S 5)) (cut 16 (S 13)) 0 0 16))) else none) = _
  rw [if_pos (by omega)]
  congr 1
  refine zv_s13 (S 5) ?_
  congr 3
  funext q
  unfold va_cpy cut
  by_cases a : q < 16
  · rw [if_pos a, if_pos (by omega), if_pos (by omega)]; congr 1; omega
  · rw [if_neg a, if_neg (by omega), if_neg a]
theorem zv_k14 : am_cpy (zv x N P K T S m A h) (am_R (x + 9)) 0 (x + 97) 0 16 = some (zv x N P K T (drow S 14 (S 6)) m A h) := by
  unfold am_cpy
  show (match (zv x N P K T S m A h).1 (x + 9) with
    | .inr (.inl (t, n, f)) => if t = 0 then am_cp (zv x N P K T S m A h) f n 0 (x + 97) 0 16 else none
    | _ => none) = _
  rw [zv_in (i := 9) (by omega)]
  show (if 0 = 0 then am_cp (zv x N P K T S m A h) (cut 16 (S 6)) 16 0 (x + 97) 0 16 else none) = _
  rw [if_pos rfl]
  unfold am_cp
  rw [zv_in (i := 97) (by omega)]
  show (if 0 = 0 ∧ (0 : Int) ≤ 0 ∧ (0 : Int) ≤ 0 ∧ (0 : Int) ≤ 16 ∧ (0 : Int) + 16 ≤ (16 : Nat) ∧ (0 : Int) + 16 ≤ (16 : Nat) then some (am_set _ _ (am_ar 0 16 (va_cpy (cut 16 (S 6)) (cut 16 (S 14)) 0 0 16))) else none) = _
  rw [if_pos (by omega)]
  congr 1
  refine zv_s14 (S 6) ?_
  congr 3
  funext q
  unfold va_cpy cut
  by_cases a : q < 16
  · rw [if_pos a, if_pos (by omega), if_pos (by omega)]; congr 1; omega
  · rw [if_neg a, if_neg (by omega), if_neg a]
theorem zv_k15 : am_cpy (zv x N P K T S m A h) (am_R (x + 10)) 0 (x + 98) 0 16 = some (zv x N P K T (drow S 15 (S 7)) m A h) := by
  unfold am_cpy
  show (match (zv x N P K T S m A h).1 (x + 10) with
    | .inr (.inl (t, n, f)) => if t = 0 then am_cp (zv x N P K T S m A h) f n 0 (x + 98) 0 16 else none
    | _ => none) = _
  rw [zv_in (i := 10) (by omega)]
  show (if 0 = 0 then am_cp (zv x N P K T S m A h) (cut 16 (S 7)) 16 0 (x + 98) 0 16 else none) = _
  rw [if_pos rfl]
  unfold am_cp
  rw [zv_in (i := 98) (by omega)]
  show (if 0 = 0 ∧ (0 : Int) ≤ 0 ∧ (0 : Int) ≤ 0 ∧ (0 : Int) ≤ 16 ∧ (0 : Int) + 16 ≤ (16 : Nat) ∧ (0 : Int) + 16 ≤ (16 : Nat) then some (am_set _ _ (am_ar 0 16 (va_cpy (cut 16 (S 7)) (cut 16 (S 15)) 0 0 16))) else none) = _
  rw [if_pos (by omega)]
  congr 1
  refine zv_s15 (S 7) ?_
  congr 3
  funext q
  unfold va_cpy cut
  by_cases a : q < 16
  · rw [if_pos a, if_pos (by omega), if_pos (by omega)]; congr 1; omega
  · rw [if_neg a, if_neg (by omega), if_neg a]
theorem zv_k16 : am_cpy (zv x N P K T S m A h) (am_R (x + 8)) 0 (x + 100) 0 16 = some (zv x N P K T (drow S 16 (S 5)) m A h) := by
  unfold am_cpy
  show (match (zv x N P K T S m A h).1 (x + 8) with
    | .inr (.inl (t, n, f)) => if t = 0 then am_cp (zv x N P K T S m A h) f n 0 (x + 100) 0 16 else none
    | _ => none) = _
  rw [zv_in (i := 8) (by omega)]
  show (if 0 = 0 then am_cp (zv x N P K T S m A h) (cut 16 (S 5)) 16 0 (x + 100) 0 16 else none) = _
  rw [if_pos rfl]
  unfold am_cp
  rw [zv_in (i := 100) (by omega)]
  show (if 0 = 0 ∧ (0 : Int) ≤ 0 ∧ (0 : Int) ≤ 0 ∧ (0 : Int) ≤ 16 ∧ (0 : Int) + 16 ≤ (16 : Nat) ∧ (0 : Int) + 16 ≤ (16 : Nat) then some (am_set _ _ (am_ar 0 16 (va_cpy (cut 16 (S 5)) (cut 16 (S 16)) 0 0 16))) else none) = _
  rw [if_pos (by omega)]
  congr 1
  refine zv_s16 (S 5) ?_
  congr 3
  funext q
  unfold va_cpy cut
  by_cases a : q < 16
  · rw [if_pos a, if_pos (by omega), if_pos (by omega)]; congr 1; omega
  · rw [if_neg a, if_neg (by omega), if_neg a]
theorem zv_k17 : am_cpy (zv x N P K T S m A h) (am_R (x + 9)) 0 (x + 101) 0 16 = some (zv x N P K T (drow S 17 (S 6)) m A h) := by
  unfold am_cpy
  show (match (zv x N P K T S m A h).1 (x + 9) with
    | .inr (.inl (t, n, f)) => if t = 0 then am_cp (zv x N P K T S m A h) f n 0 (x + 101) 0 16 else none
    | _ => none) = _
  rw [zv_in (i := 9) (by omega)]
  show (if 0 = 0 then am_cp (zv x N P K T S m A h) (cut 16 (S 6)) 16 0 (x + 101) 0 16 else none) = _
  rw [if_pos rfl]
  unfold am_cp
  rw [zv_in (i := 101) (by omega)]
  show (if 0 = 0 ∧ (0 : Int) ≤ 0 ∧ (0 : Int) ≤ 0 ∧ (0 : Int) ≤ 16 ∧ (0 : Int) + 16 ≤ (16 : Nat) ∧ (0 : Int) + 16 ≤ (16 : Nat) then some (am_set _ _ (am_ar 0 16 (va_cpy (cut 16 (S 6)) (cut 16 (S 17)) 0 0 16))) else none) = _
  rw [if_pos (by omega)]
  congr 1
  refine zv_s17 (S 6) ?_
  congr 3
  funext q
  unfold va_cpy cut
  by_cases a : q < 16
  · rw [if_pos a, if_pos (by omega), if_pos (by omega)]; congr 1; omega
  · rw [if_neg a, if_neg (by omega), if_neg a]
theorem zv_k18 : am_cpy (zv x N P K T S m A h) (am_R (x + 10)) 0 (x + 102) 0 16 = some (zv x N P K T (drow S 18 (S 7)) m A h) := by
  unfold am_cpy
  show (match (zv x N P K T S m A h).1 (x + 10) with
    | .inr (.inl (t, n, f)) => if t = 0 then am_cp (zv x N P K T S m A h) f n 0 (x + 102) 0 16 else none
    | _ => none) = _
  rw [zv_in (i := 10) (by omega)]
  show (if 0 = 0 then am_cp (zv x N P K T S m A h) (cut 16 (S 7)) 16 0 (x + 102) 0 16 else none) = _
  rw [if_pos rfl]
  unfold am_cp
  rw [zv_in (i := 102) (by omega)]
  show (if 0 = 0 ∧ (0 : Int) ≤ 0 ∧ (0 : Int) ≤ 0 ∧ (0 : Int) ≤ 16 ∧ (0 : Int) + 16 ≤ (16 : Nat) ∧ (0 : Int) + 16 ≤ (16 : Nat) then some (am_set _ _ (am_ar 0 16 (va_cpy (cut 16 (S 7)) (cut 16 (S 18)) 0 0 16))) else none) = _
  rw [if_pos (by omega)]
  congr 1
  refine zv_s18 (S 7) ?_
  congr 3
  funext q
  unfold va_cpy cut
  by_cases a : q < 16
  · rw [if_pos a, if_pos (by omega), if_pos (by omega)]; congr 1; omega
  · rw [if_neg a, if_neg (by omega), if_neg a]
theorem zv_k19 : am_cpy (zv x N P K T S m A h) (am_R (x + 8)) 0 (x + 104) 0 16 = some (zv x N P K T (drow S 19 (S 5)) m A h) := by
  unfold am_cpy
  show (match (zv x N P K T S m A h).1 (x + 8) with
    | .inr (.inl (t, n, f)) => if t = 0 then am_cp (zv x N P K T S m A h) f n 0 (x + 104) 0 16 else none
    | _ => none) = _
  rw [zv_in (i := 8) (by omega)]
  show (if 0 = 0 then am_cp (zv x N P K T S m A h) (cut 16 (S 5)) 16 0 (x + 104) 0 16 else none) = _
  rw [if_pos rfl]
  unfold am_cp
  rw [zv_in (i := 104) (by omega)]
  show (if 0 = 0 ∧ (0 : Int) ≤ 0 ∧ (0 : Int) ≤ 0 ∧ (0 : Int) ≤ 16 ∧ (0 : Int) + 16 ≤ (16 : Nat) ∧ (0 : Int) + 16 ≤ (16 : Nat) then some (am_set _ _ (am_ar 0 16 (va_cpy (cut 16 (S 5)) (cut 16 (S 19)) 0 0 16))) else none) = _
  rw [if_pos (by omega)]
  congr 1
  refine zv_s19 (S 5) ?_
  congr 3
  funext q
  unfold va_cpy cut
  by_cases a : q < 16
  · rw [if_pos a, if_pos (by omega), if_pos (by omega)]; congr 1; omega
  · rw [if_neg a, if_neg (by omega), if_neg a]
theorem zv_k20 : am_cpy (zv x N P K T S m A h) (am_R (x + 9)) 0 (x + 105) 0 16 = some (zv x N P K T (drow S 20 (S 6)) m A h) := by
  unfold am_cpy
  show (match (zv x N P K T S m A h).1 (x + 9) with
    | .inr (.inl (t, n, f)) => if t = 0 then am_cp (zv x N P K T S m A h) f n 0 (x + 105) 0 16 else none
    | _ => none) = _
  rw [zv_in (i := 9) (by omega)]
  show (if 0 = 0 then am_cp (zv x N P K T S m A h) (cut 16 (S 6)) 16 0 (x + 105) 0 16 else none) = _
  rw [if_pos rfl]
  unfold am_cp
  rw [zv_in (i := 105) (by omega)]
  show (if 0 = 0 ∧ (0 : Int) ≤ 0 ∧ (0 : Int) ≤ 0 ∧ (0 : Int) ≤ 16 ∧ (0 : Int) + 16 ≤ (16 : Nat) ∧ (0 : Int) + 16 ≤ (16 : Nat) then some (am_set _ _ (am_ar 0 16 (va_cpy (cut 16 (S 6)) (cut 16 (S 20)) 0 0 16))) else none) = _
  rw [if_pos (by omega)]
  congr 1
  refine zv_s20 (S 6) ?_
  congr 3
  funext q
  unfold va_cpy cut
  by_cases a : q < 16
  · rw [if_pos a, if_pos (by omega), if_pos (by omega)]; congr 1; omega
  · rw [if_neg a, if_neg (by omega), if_neg a]
theorem zv_k21 : am_cpy (zv x N P K T S m A h) (am_R (x + 10)) 0 (x + 106) 0 16 = some (zv x N P K T (drow S 21 (S 7)) m A h) := by
  unfold am_cpy
  show (match (zv x N P K T S m A h).1 (x + 10) with
    | .inr (.inl (t, n, f)) => if t = 0 then am_cp (zv x N P K T S m A h) f n 0 (x + 106) 0 16 else none
    | _ => none) = _
  rw [zv_in (i := 10) (by omega)]
  show (if 0 = 0 then am_cp (zv x N P K T S m A h) (cut 16 (S 7)) 16 0 (x + 106) 0 16 else none) = _
  rw [if_pos rfl]
  unfold am_cp
  rw [zv_in (i := 106) (by omega)]
  show (if 0 = 0 ∧ (0 : Int) ≤ 0 ∧ (0 : Int) ≤ 0 ∧ (0 : Int) ≤ 16 ∧ (0 : Int) + 16 ≤ (16 : Nat) ∧ (0 : Int) + 16 ≤ (16 : Nat) then some (am_set _ _ (am_ar 0 16 (va_cpy (cut 16 (S 7)) (cut 16 (S 21)) 0 0 16))) else none) = _
  rw [if_pos (by omega)]
  congr 1
  refine zv_s21 (S 7) ?_
  congr 3
  funext q
  unfold va_cpy cut
  by_cases a : q < 16
  · rw [if_pos a, if_pos (by omega), if_pos (by omega)]; congr 1; omega
  · rw [if_neg a, if_neg (by omega), if_neg a]
end ZCP
