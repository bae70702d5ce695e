/-! ===== THE ABSTRACT MACHINE IS THE MACHINE: numbers ===== -/
def am_i32 (x : Int) : Prop := -2147483648 ≤ x ∧ x < 2147483648
def am_i64 (x : Int) : Prop := -9223372036854775808 ≤ x ∧ x < 9223372036854775808
theorem am_toInt {x : Int} (h : am_i32 x) : (Int32.ofInt x).toInt = x := Int32.toInt_ofInt_of_le (by have := h.1; omega) (by have := h.2; omega)
theorem am_toInt64 {x : Int} (h : am_i64 x) : (Int64.ofInt x).toInt = x := Int64.toInt_ofInt_of_le (by have := h.1; omega) (by have := h.2; omega)
theorem am_i32_toInt (x : Int32) : am_i32 x.toInt := by
  have h1 := x.le_toInt
  have h2 := x.toInt_lt
  constructor <;> omega
theorem am_i64_toInt (x : Int64) : am_i64 x.toInt := by
  have h1 := x.le_toInt
  have h2 := x.toInt_lt
  constructor <;> omega
theorem am_w_of (x : Int) : Int32.ofInt (am_w x) = Int32.ofInt x := by
  apply Int32.toInt_inj.mp
  rw [Int32.toInt_ofInt, Int32.toInt_ofInt]
  exact Int.bmod_bmod
theorem am_q_of (x : Int) : Int64.ofInt (am_q x) = Int64.ofInt x := by
  apply Int64.toInt_inj.mp
  rw [Int64.toInt_ofInt, Int64.toInt_ofInt]
  exact Int.bmod_bmod
theorem am_i32_w (x : Int) : am_i32 (am_w x) := by
  have h := am_i32_toInt (Int32.ofInt x)
  rw [Int32.toInt_ofInt] at h
  exact h
theorem am_i64_q (x : Int) : am_i64 (am_q x) := by
  have h := am_i64_toInt (Int64.ofInt x)
  rw [Int64.toInt_ofInt] at h
  exact h
theorem am_w_id {x : Int} (h1 : -2147483648 ≤ x) (h2 : x < 2147483648) : am_w x = x := by
  have h := am_toInt (x := x) ⟨h1, h2⟩
  rw [Int32.toInt_ofInt] at h
  exact h
theorem am_q_id {x : Int} (h1 : -9223372036854775808 ≤ x) (h2 : x < 9223372036854775808) : am_q x = x := by
  have h := am_toInt64 (x := x) ⟨h1, h2⟩
  rw [Int64.toInt_ofInt] at h
  exact h
theorem am_lt {x y : Int} (hx : am_i32 x) (hy : am_i32 y) : Int32.ofInt x < Int32.ofInt y ↔ x < y := by
  rw [Int32.lt_iff_toInt_lt, am_toInt hx, am_toInt hy]
theorem am_le {x y : Int} (hx : am_i32 x) (hy : am_i32 y) : Int32.ofInt x ≤ Int32.ofInt y ↔ x ≤ y := by
  rw [Int32.le_iff_toInt_le, am_toInt hx, am_toInt hy]
theorem am_eq {x y : Int} (hx : am_i32 x) (hy : am_i32 y) : Int32.ofInt x = Int32.ofInt y ↔ x = y := by
  rw [← Int32.toInt_inj, am_toInt hx, am_toInt hy]
theorem am_eq64 {x y : Int} (hx : am_i64 x) (hy : am_i64 y) : Int64.ofInt x = Int64.ofInt y ↔ x = y := by
  rw [← Int64.toInt_inj, am_toInt64 hx, am_toInt64 hy]
theorem am_lt64 {x y : Int} (hx : am_i64 x) (hy : am_i64 y) : Int64.ofInt x < Int64.ofInt y ↔ x < y := by
  rw [Int64.lt_iff_toInt_lt, am_toInt64 hx, am_toInt64 hy]
theorem am_i32_0 : am_i32 0 := ⟨by omega, by omega⟩
theorem am_of0 : Int32.ofInt 0 = 0 := rfl
theorem am_clamp {j : Int} (hj : am_i32 j) : (Int32.ofInt j).toNatClampNeg = j.toNat := by
  show (Int32.ofInt j).toInt.toNat = j.toNat
  rw [am_toInt hj]
theorem am_in {j : Int} (hj : am_i32 j) {n : Nat} (h0 : 0 ≤ j) (h1 : j < n) : ¬ (Int32.ofInt j < 0 ∨ n ≤ (Int32.ofInt j).toNatClampNeg) := by
  rw [am_clamp hj]
  rintro (h | h)
  · have h2 := (am_lt hj am_i32_0).mp h
    omega
  · omega
theorem am_i2l_of {x : Int} (hx : am_i32 x) : (Int32.ofInt x).toInt64 = Int64.ofInt x := by
  apply Int64.toInt_inj.mp
  rw [Int32.toInt_toInt64, am_toInt hx, am_toInt64 ⟨by have := hx.1; omega, by have := hx.2; omega⟩]
theorem am_l2i_of {x : Int} (hx : am_i64 x) : (Int64.ofInt x).toInt32 = Int32.ofInt (am_w x) := by
  apply Int32.toInt_inj.mp
  rw [Int64.toInt_toInt32, am_toInt64 hx, am_w_of, Int32.toInt_ofInt]
theorem am_lcmp_of {x y : Int} (hx : am_i64 x) (hy : am_i64 y) : lg_cmp (Int64.ofInt x) (Int64.ofInt y) = Int32.ofInt (am_lcmp x y) := by
  unfold lg_cmp am_lcmp
  by_cases h : x > y
  · rw [if_pos h, if_pos ((am_lt64 hy hx).mpr h)]
    rfl
  · rw [if_neg h, if_neg (fun q => h ((am_lt64 hy hx).mp q))]
    by_cases h2 : x = y
    · rw [if_pos h2, if_pos ((am_eq64 hx hy).mpr h2)]
      rfl
    · rw [if_neg h2, if_neg (fun q => h2 ((am_eq64 hx hy).mp q))]
      rfl
/-! ===== values, cells, heaps ===== -/
def am_wv (v : am_V) : Prop := match v with
  | .inl x => am_i32 x
  | .inr (.inl x) => am_i64 x
  | _ => True
def am_wk (ty : Nat) (x : Int) : Prop := match ty with
  | 0 => am_i32 x
  | 1 => -128 ≤ x ∧ x < 128
  | _ => am_i64 x
def am_wc (c : am_C) : Prop := match c with
  | .inl (_, fs) => ∀ v ∈ fs, am_wv v
  | .inr (.inl (ty, _, f)) => ∀ j, am_wk ty (f j)
  | _ => True
section AMREP
variable (D : va_G) (ca : Nat → ClassId) (base : Nat) (KV : Nat → Value) (sc : Nat × (Nat → Int))
def am_cv (v : am_V) : Value := match v with
  | .inl x => .int (Int32.ofInt x)
  | .inr (.inl x) => .long (Int64.ofInt x)
  | .inr (.inr (.inl a)) => .ref (base + a)
  | .inr (.inr (.inr k)) => KV k
def am_el (ty : Nat) (x : Int) : Value := match ty with
  | 2 => .long (Int64.ofInt x)
  | _ => .int (Int32.ofInt x)
def am_er (r : Option Nat) : Value := match r with
  | none => .null
  | some b => .ref (base + b)
/-- a cell stands in the heap -/
def am_rc (c : am_C) (a : Nat) (H : Heap) : Prop := match c with
  | .inl (ci, fs) => ci < 10 ∧ fs.length = am_clN ci ∧ t_OB a (D.1 ci) (am_clN ci) (D.2 ci) H (vp_V (fs.map (am_cv base KV)))
  | .inr (.inl (ty, n, f)) => ty < 3 ∧ H[a]? = some (arrV (ca ty) n (fun j => am_el ty (f j)))
  | .inr (.inr (.inl (ty, n, f))) => (ty = 3 ∨ ty = 4) ∧ H[a]? = some (arrV (ca ty) n (fun j => am_er base (f j)))
  | _ => True
def am_Rep (h : am_H) (H : Heap) : Prop := H.size = base + h.2.1 ∧ h.2.2.2 = sc ∧ (∀ k, am_wc (h.1 k)) ∧ (∀ k, h.2.1 ≤ k → h.1 k = am_no) ∧ ∀ k, am_rc D ca base KV (h.1 k) (base + k) H
variable {D ca base KV sc}
theorem am_rc.kept {c : am_C} {a : Nat} {H H1 : Heap} (h : am_rc D ca base KV c a H) (hq : H1[a]? = H[a]?) : am_rc D ca base KV c a H1 := by
  rcases c with ⟨ci, fs⟩ | ⟨ty, n, f⟩ | ⟨ty, n, f⟩ | u
  · exact ⟨h.1, h.2.1, h.2.2.kept hq⟩
  · exact ⟨h.1, hq.trans h.2⟩
  · exact ⟨h.1, hq.trans h.2⟩
  · trivial
/-- one cell is written -/
theorem am_Rep.set {h : am_H} {H H1 : Heap} (hR : am_Rep D ca base KV sc h H) {a : Nat} (ha : a < h.2.1) {c : am_C} (hw : am_wc c) (hc : am_rc D ca base KV c (base + a) H1) (hz : H1.size = H.size) (ho : ∀ q, q ≠ base + a → H1[q]? = H[q]?) : am_Rep D ca base KV sc (am_set h a c) H1 := by
  obtain ⟨h1, h2, h3, h4, h5⟩ := hR
  refine ⟨hz.trans h1, h2, fun k => ?_, fun k hk => ?_, fun k => ?_⟩
  · show am_wc (va_up h.1 a c k)
    unfold va_up
    by_cases e : k = a
    · rw [if_pos e]; exact hw
    · rw [if_neg e]; exact h3 k
  · show va_up h.1 a c k = am_no
    have hk' : h.2.1 ≤ k := hk
    unfold va_up
    rw [if_neg (by omega)]
    exact h4 k hk'
  · show am_rc D ca base KV (va_up h.1 a c k) (base + k) H1
    unfold va_up
    by_cases e : k = a
    · subst e; rw [if_pos rfl]; exact hc
    · rw [if_neg e]
      exact (h5 k).kept (ho _ (by omega))
/-- a cell is made -/
theorem am_Rep.push {h : am_H} {H H1 : Heap} (hR : am_Rep D ca base KV sc h H) {c : am_C} {k : Nat} (hw : am_wc c) (hc : am_rc D ca base KV c (base + h.2.1) H1) (hz : H1.size = H.size + 1) (ho : ∀ q, q < H.size → H1[q]? = H[q]?) : am_Rep D ca base KV sc (am_push h c k) H1 := by
  obtain ⟨h1, h2, h3, h4, h5⟩ := hR
  refine ⟨?_, h2, fun j => ?_, fun j hj => ?_, fun j => ?_⟩
  · show H1.size = base + (h.2.1 + 1)
    omega
  · show am_wc (va_up h.1 h.2.1 c j)
    unfold va_up
    by_cases e : j = h.2.1
    · rw [if_pos e]; exact hw
    · rw [if_neg e]; exact h3 j
  · show va_up h.1 h.2.1 c j = am_no
    have hj' : h.2.1 + 1 ≤ j := hj
    unfold va_up
    rw [if_neg (by omega)]
    exact h4 j (by omega)
  · show am_rc D ca base KV (va_up h.1 h.2.1 c j) (base + j) H1
    unfold va_up
    by_cases e : j = h.2.1
    · subst e; rw [if_pos rfl]; exact hc
    · rw [if_neg e]
      by_cases hl : j < h.2.1
      · exact (h5 j).kept (ho _ (by omega))
      · rw [h4 j (by omega)]
        trivial
theorem am_Rep.lt {h : am_H} {H : Heap} (hR : am_Rep D ca base KV sc h H) {a : Nat} (hne : h.1 a ≠ am_no) : a < h.2.1 := by
  rcases Nat.lt_or_ge a h.2.1 with q | q
  · exact q
  · exact absurd (hR.2.2.2.1 a q) hne
end AMREP
