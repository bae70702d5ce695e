/-! ===== loops, and what a call has returned ===== -/
theorem loop_up {α : Sort _} (G : Nat → α) (n : Nat) (h : ∀ z, z < n → G z = G (z + 1)) : ∀ k, k ≤ n → G 0 = G k := by
  intro k
  induction k with
  | zero => intro _; rfl
  | succ k ih => intro hk; exact (ih (by omega)).trans (h k (by omega))
theorem loop_to {α : Sort _} (G : Nat → α) (n : Nat) (h : ∀ z, z < n → G z = G (z + 1)) : G 0 = G n := loop_up G n h n (Nat.le_refl n)
theorem loop_from {α : Sort _} (G : Nat → α) (a n : Nat) (han : a ≤ n) (h : ∀ z, a ≤ z → z < n → G z = G (z + 1)) : G a = G n := by
  have := loop_to (fun k => G (a + k)) (n - a) (fun z hz => h (a + z) (by omega) (by omega))
  simpa [show a + (n - a) = n by omega] using this
theorem am_oI_some (x : Int) (h : am_H) : am_oI (some (some (am_I x), h)) = some (x, h) := rfl
theorem am_oV_some (h : am_H) : am_oV (some (none, h)) = some h := rfl
theorem am_oI_ite {p : Prop} [Decidable p] (a b : Option am_Res) : am_oI (if p then a else b) = if p then am_oI a else am_oI b := apply_ite _ _ _ _
theorem am_oV_ite {p : Prop} [Decidable p] (a b : Option am_Res) : am_oV (if p then a else b) = if p then am_oV a else am_oV b := apply_ite _ _ _ _
theorem am_bind_ite {α β : Type} {p : Prop} [Decidable p] (a b : Option α) (f : α → Option β) : (if p then a else b).bind f = if p then a.bind f else b.bind f := apply_ite (fun o : Option α => o.bind f) _ _ _
theorem am_rok1_0 : am_rok 1 0 = true := rfl
theorem am_rok1_1 : am_rok 1 1 = true := rfl
theorem am_w_nat1 {z : Nat} (h : z < 2147483647) : am_w ((z : Int) + 1) = ((z + 1 : Nat) : Int) := by
  rw [am_w_id (by omega) (by omega)]
  omega
theorem am_div16 {p : Nat} (h : p < 2147483648) : am_div p 16 = ((p / 16 : Nat) : Int) := by
  unfold am_div
  rw [Int32.toInt_div_of_ne_right _ _ (by decide), am_toInt ⟨by omega, by omega⟩, show (Int32.ofInt 16).toInt = ((16 : Nat) : Int) from rfl, ← Int.ofNat_tdiv]
theorem am_rem_of {a b : Int} (ha : am_i32 a) (hb : am_i32 b) (h0 : 0 ≤ a) (hb0 : 0 < b) : am_rem a b = a % b := by
  unfold am_rem
  rw [Int32.toInt_sub, Int32.toInt_mul, Int32.toInt_div_of_ne_right _ _ (fun e => by have := (am_eq hb (⟨by omega, by omega⟩ : am_i32 (-1))).mp e; omega), am_toInt ha, am_toInt hb]
  have e1 : a.tdiv b = a / b := Int.tdiv_eq_ediv_of_nonneg h0
  rw [e1]
  have h1 := Int.emod_add_mul_ediv a b
  have h2 := Int.emod_nonneg a (show b ≠ 0 by omega)
  have h3 := Int.emod_lt_of_pos a hb0
  have h4 : a / b * b = b * (a / b) := Int.mul_comm _ _
  have h5 : 0 ≤ a / b * b := Int.mul_nonneg (Int.ediv_nonneg h0 (by omega)) (by omega)
  have hb2 := hb.2
  have ha2 := ha.2
  have hq : am_w (a / b * b) = a / b * b := am_w_id (by omega) (by omega)
  have hr : am_w (a - a / b * b) = a - a / b * b := am_w_id (by omega) (by omega)
  have hq' : (a / b * b).bmod (2 ^ 32) = a / b * b := hq
  have hr' : (a - a / b * b).bmod (2 ^ 32) = a - a / b * b := hr
  rw [hq', hr']
  omega
theorem am_rem16 {p : Nat} (h : p < 2147483648) : am_rem p 16 = ((p % 16 : Nat) : Int) := by
  rw [am_rem_of ⟨by omega, by omega⟩ ⟨by omega, by omega⟩ (by omega) (by omega)]
  omega
/-- how many of the first n are such -/
def cnt (P : Nat → Bool) : Nat → Nat
  | 0 => 0
  | n + 1 => cnt P n + if P n = true then 1 else 0
theorem cnt_le (P : Nat → Bool) (n : Nat) : cnt P n ≤ n := by
  induction n with
  | zero => exact Nat.le_refl _
  | succ n ih => unfold cnt; split <;> omega
theorem cnt_congr {P Q : Nat → Bool} {n : Nat} (h : ∀ j, j < n → P j = Q j) : cnt P n = cnt Q n := by
  induction n with
  | zero => rfl
  | succ n ih => unfold cnt; rw [ih (fun j hj => h j (by omega)), h n (by omega)]
/-- the first of n that is such (n: none) -/
def fst (P : Nat → Bool) : Nat → Nat → Nat
  | _, 0 => 0
  | k, n + 1 => if P k = true then 0 else fst P (k + 1) n + 1
/-- added up -/
def sm (f : Nat → Int) : Nat → Int
  | 0 => 0
  | n + 1 => sm f n + f n
theorem loop_v {α β : Type} (G : Nat → β → α) (n : Nat) (h : ∀ z v, z < n → ∃ v', G z v = G (z + 1) v') : ∀ v, ∃ v', G 0 v = G n v' := by
  have key : ∀ k, k ≤ n → ∀ v, ∃ v', G 0 v = G k v' := by
    intro k
    induction k with
    | zero => intro _ v; exact ⟨v, rfl⟩
    | succ k ih =>
      intro hk v
      obtain ⟨v1, e1⟩ := ih (by omega) v
      obtain ⟨v2, e2⟩ := h k v1 (by omega)
      exact ⟨v2, e1.trans e2⟩
  exact key n (Nat.le_refl n)
/-- the greatest, from a on -/
def mxs (f : Nat → Int) (a : Int) : Nat → Int
  | 0 => a
  | n + 1 => am_max (mxs f a n) (f n)
/-- the first k from a on with P, or -1 -/
def fnd (P : Nat → Bool) : Nat → Int
  | 0 => -1
  | n + 1 => if fnd P n = -1 then (if P n = true then n else -1) else fnd P n
theorem fnd_none {P : Nat → Bool} {n : Nat} : (∀ j, j < n → P j = false) → fnd P n = -1 := by
  induction n with
  | zero => intro _; rfl
  | succ n ih =>
    intro h
    unfold fnd
    rw [ih (fun j hj => h j (by omega)), if_pos rfl, h n (by omega)]
    rfl
theorem fnd_at {P : Nat → Bool} {k : Nat} (hk : P k = true) (hb : ∀ j, j < k → P j = false) : ∀ n, k < n → fnd P n = k := by
  intro n
  induction n with
  | zero => intro h; omega
  | succ n ih =>
    intro h
    unfold fnd
    by_cases e : k = n
    · subst e
      rw [fnd_none hb, if_pos rfl, hk]
      rfl
    · rw [ih (by omega), if_neg (by omega)]
/-- either none of n is such, or there is a first -/
theorem first_or (P : Nat → Bool) (n : Nat) : (∀ j, j < n → P j = false) ∨ ∃ k, k < n ∧ P k = true ∧ ∀ j, j < k → P j = false := by
  induction n with
  | zero => exact Or.inl (fun j hj => by omega)
  | succ n ih =>
    rcases ih with h | ⟨k, h1, h2, h3⟩
    · cases e : P n with
      | true => exact Or.inr ⟨n, by omega, e, h⟩
      | false =>
        refine Or.inl (fun j hj => ?_)
        by_cases q : j = n
        · rw [q]; exact e
        · exact h j (by omega)
    · exact Or.inr ⟨k, by omega, h2, h3⟩
