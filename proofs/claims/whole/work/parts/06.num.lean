/-! ===== THE ABSTRACT MACHINE IS THE MACHINE: numbers ===== -/
def am_i32 (x : Int) : Prop := -2147483648 ≤ x ∧ x < 2147483648
def am_i64 (x : Int) : Prop := -9223372036854775808 ≤ x ∧ x < 9223372036854775808
theorem am_toInt {x : Int} (h : am_i32 x) : (Int32.ofInt x).toInt = x := Int32.toInt_ofInt_of_le (by have := h.1; omega) (by have := h.2; omega)
theorem am_toInt64 {x : Int} (h : am_i64 x) : (Int64.ofInt x).toInt = x := Int64.toInt_ofInt_of_le (by have := h.1; omega) (by have := h.2; omega)
theorem am_i32_toInt (x : Int32) : am_i32 x.toInt := by
  have h1 := x.le_toInt
  have h2 := x.toInt_lt
  constructor <;> omega
theorem am_i64_toInt (x : Int64) : am_i64 x.toInt := by
  have h1 := x.le_toInt
  have h2 := x.toInt_lt
  constructor <;> omega
theorem am_w_of (x : Int) : Int32.ofInt (am_w x) = Int32.ofInt x := by
  apply Int32.toInt_inj.mp
  rw [Int32.toInt_ofInt, Int32.toInt_ofInt]
  exact Int.bmod_bmod
theorem am_q_of (x : Int) : Int64.ofInt (am_q x) = Int64.ofInt x := by
  apply Int64.toInt_inj.mp
  rw [Int64.toInt_ofInt, Int64.toInt_ofInt]
  exact Int.bmod_bmod
theorem am_i32_w (x : Int) : am_i32 (am_w x) := by
  have h := am_i32_toInt (Int32.ofInt x)
  rw [Int32.toInt_ofInt] at h
  exact h
theorem am_i64_q (x : Int) : am_i64 (am_q x) := by
  have h := am_i64_toInt (Int64.ofInt x)
  rw [Int64.toInt_ofInt] at h
  exact h
theorem am_w_id {x : Int} (h1 : -2147483648 ≤ x) (h2 : x < 2147483648) : am_w x = x := by
  have h := am_toInt (x := x) ⟨h1, h2⟩
  rw [Int32.toInt_ofInt] at h
  exact h
theorem am_q_id {x : Int} (h1 : -9223372036854775808 ≤ x) (h2 : x < 9223372036854775808) : am_q x = x := by
  have h := am_toInt64 (x := x) ⟨h1, h2⟩
  rw [Int64.toInt_ofInt] at h
  exact h
theorem am_lt {x y : Int} (hx : am_i32 x) (hy : am_i32 y) : Int32.ofInt x < Int32.ofInt y ↔ x < y := by
  rw [Int32.lt_iff_toInt_lt, am_toInt hx, am_toInt hy]
theorem am_le {x y : Int} (hx : am_i32 x) (hy : am_i32 y) : Int32.ofInt x ≤ Int32.ofInt y ↔ x ≤ y := by
  rw [Int32.le_iff_toInt_le, am_toInt hx, am_toInt hy]
theorem am_eq {x y : Int} (hx : am_i32 x) (hy : am_i32 y) : Int32.ofInt x = Int32.ofInt y ↔ x = y := by
  rw [← Int32.toInt_inj, am_toInt hx, am_toInt hy]
theorem am_eq64 {x y : Int} (hx : am_i64 x) (hy : am_i64 y) : Int64.ofInt x = Int64.ofInt y ↔ x = y := by
  rw [← Int64.toInt_inj, am_toInt64 hx, am_toInt64 hy]
theorem am_lt64 {x y : Int} (hx : am_i64 x) (hy : am_i64 y) : Int64.ofInt x < Int64.ofInt y ↔ x < y := by
  rw [Int64.lt_iff_toInt_lt, am_toInt64 hx, am_toInt64 hy]
theorem am_i32_0 : am_i32 0 := ⟨by omega, by omega⟩
theorem am_of0 : Int32.ofInt 0 = 0 := rfl
theorem am_clamp {j : Int} (hj : am_i32 j) : (Int32.ofInt j).toNatClampNeg = j.toNat := by
  show (Int32.ofInt j).toInt.toNat = j.toNat
  rw [am_toInt hj]
theorem am_in {j : Int} (hj : am_i32 j) {n : Nat} (h0 : 0 ≤ j) (h1 : j < n) : ¬ (Int32.ofInt j < 0 ∨ n ≤ (Int32.ofInt j).toNatClampNeg) := by
  rw [am_clamp hj]
  rintro (h | h)
  · have h2 := (am_lt hj am_i32_0).mp h
    omega
  · omega
theorem am_i2l_of {x : Int} (hx : am_i32 x) : (Int32.ofInt x).toInt64 = Int64.ofInt x := by
  apply Int64.toInt_inj.mp
  rw [Int32.toInt_toInt64, am_toInt hx, am_toInt64 ⟨by have := hx.1; omega, by have := hx.2; omega⟩]
theorem am_l2i_of {x : Int} (hx : am_i64 x) : (Int64.ofInt x).toInt32 = Int32.ofInt (am_w x) := by
  apply Int32.toInt_inj.mp
  rw [Int64.toInt_toInt32, am_toInt64 hx, am_w_of, Int32.toInt_ofInt]
theorem am_lcmp_of {x y : Int} (hx : am_i64 x) (hy : am_i64 y) : lg_cmp (Int64.ofInt x) (Int64.ofInt y) = Int32.ofInt (am_lcmp x y) := by
  unfold lg_cmp am_lcmp
  by_cases h : x > y
  · rw [if_pos h, if_pos ((am_lt64 hy hx).mpr h)]
    rfl
  · rw [if_neg h, if_neg (fun q => h ((am_lt64 hy hx).mp q))]
    by_cases h2 : x = y
    · rw [if_pos h2, if_pos ((am_eq64 hx hy).mpr h2)]
      rfl
    · rw [if_neg h2, if_neg (fun q => h2 ((am_eq64 hx hy).mp q))]
      rfl
