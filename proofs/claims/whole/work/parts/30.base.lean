/-! ===== loops, and what a call has returned ===== -/
theorem loop_up {α : Sort _} (G : Nat → α) (n : Nat) (h : ∀ z, z < n → G z = G (z + 1)) : ∀ k, k ≤ n → G 0 = G k := by
  intro k
  induction k with
  | zero => intro _; rfl
  | succ k ih => intro hk; exact (ih (by omega)).trans (h k (by omega))
theorem loop_to {α : Sort _} (G : Nat → α) (n : Nat) (h : ∀ z, z < n → G z = G (z + 1)) : G 0 = G n := loop_up G n h n (Nat.le_refl n)
theorem loop_from {α : Sort _} (G : Nat → α) (a n : Nat) (han : a ≤ n) (h : ∀ z, a ≤ z → z < n → G z = G (z + 1)) : G a = G n := by
  have := loop_to (fun k => G (a + k)) (n - a) (fun z hz => h (a + z) (by omega) (by omega))
  simpa [show a + (n - a) = n by omega] using this
theorem am_oI_some (x : Int) (h : am_H) : am_oI (some (some (am_I x), h)) = some (x, h) := rfl
theorem am_oV_some (h : am_H) : am_oV (some (none, h)) = some h := rfl
theorem am_rok_0 (x : Int) : am_rok 0 x = true := rfl
theorem am_rok_1 (p : Prop) [Decidable p] : am_rok 1 (if p then 1 else 0) = true := by split <;> rfl
theorem am_w_nat1 {z : Nat} (h : z < 2147483647) : am_w ((z : Int) + 1) = ((z + 1 : Nat) : Int) := by
  rw [am_w_id (by omega) (by omega)]
  omega
/-- how many of the first n are x -/
def sp_cnt (f : Nat → Int) (x : Int) : Nat → Nat
  | 0 => 0
  | n + 1 => sp_cnt f x n + if f n = x then 1 else 0
theorem sp_cnt_le (f : Nat → Int) (x : Int) (n : Nat) : sp_cnt f x n ≤ n := by
  induction n with
  | zero => exact Nat.le_refl _
  | succ n ih => unfold sp_cnt; split <;> omega
