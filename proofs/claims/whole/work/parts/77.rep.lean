/-! ===== values, cells, heaps ===== -/
def am_wv (v : am_V) : Prop := match v with
  | .inl x => am_i32 x
  | .inr (.inl x) => am_i64 x
  | _ => True
def am_wk (ty : Nat) (x : Int) : Prop := match ty with
  | 0 => am_i32 x
  | 1 => -128 ≤ x ∧ x < 128
  | _ => am_i64 x
def am_wc (c : am_C) : Prop := match c with
  | .inl (_, fs) => ∀ v ∈ fs, am_wv v
  | .inr (.inl (ty, _, f)) => ∀ j, am_wk ty (f j)
  | _ => True
section AMREP
variable (D : va_G) (ca : Nat → ClassId) (base : Nat) (KV : Nat → Value) (sc : Nat × (Nat → Int))
def am_cv (v : am_V) : Value := match v with
  | .inl x => .int (Int32.ofInt x)
  | .inr (.inl x) => .long (Int64.ofInt x)
  | .inr (.inr (.inl a)) => .ref (base + a)
  | .inr (.inr (.inr k)) => KV k
def am_el (ty : Nat) (x : Int) : Value := match ty with
  | 2 => .long (Int64.ofInt x)
  | _ => .int (Int32.ofInt x)
def am_er (r : Option Nat) : Value := match r with
  | none => .null
  | some b => .ref (base + b)
/-- a cell stands in the heap -/
def am_rc (c : am_C) (a : Nat) (H : Heap) : Prop := match c with
  | .inl (ci, fs) => ci < 10 ∧ fs.length = am_clN ci ∧ t_OB a (D.1 ci) (am_clN ci) (D.2 ci) H (vp_V (fs.map (am_cv base KV)))
  | .inr (.inl (ty, n, f)) => ty < 3 ∧ H[a]? = some (arrV (ca ty) n (fun j => am_el ty (f j)))
  | .inr (.inr (.inl (ty, n, f))) => (ty = 3 ∨ ty = 4) ∧ H[a]? = some (arrV (ca ty) n (fun j => am_er base (f j)))
  | _ => True
def am_Rep (h : am_H) (H : Heap) : Prop := H.size = base + h.2.1 ∧ h.2.2.2 = sc ∧ (∀ k, am_wc (h.1 k)) ∧ (∀ k, h.2.1 ≤ k → h.1 k = am_no) ∧ ∀ k, am_rc D ca base KV (h.1 k) (base + k) H
variable {D ca base KV sc}
theorem am_rc.kept {c : am_C} {a : Nat} {H H1 : Heap} (h : am_rc D ca base KV c a H) (hq : H1[a]? = H[a]?) : am_rc D ca base KV c a H1 := by
  rcases c with ⟨ci, fs⟩ | ⟨ty, n, f⟩ | ⟨ty, n, f⟩ | u
  · exact ⟨h.1, h.2.1, h.2.2.kept hq⟩
  · exact ⟨h.1, hq.trans h.2⟩
  · exact ⟨h.1, hq.trans h.2⟩
  · trivial
/-- one cell is written -/
theorem am_Rep.set {h : am_H} {H H1 : Heap} (hR : am_Rep D ca base KV sc h H) {a : Nat} (ha : a < h.2.1) {c : am_C} (hw : am_wc c) (hc : am_rc D ca base KV c (base + a) H1) (hz : H1.size = H.size) (ho : ∀ q, q ≠ base + a → H1[q]? = H[q]?) : am_Rep D ca base KV sc (am_set h a c) H1 := by
  obtain ⟨h1, h2, h3, h4, h5⟩ := hR
  refine ⟨hz.trans h1, h2, fun k => ?_, fun k hk => ?_, fun k => ?_⟩
  · show am_wc (va_up h.1 a c k)
    unfold va_up
    by_cases e : k = a
    · rw [if_pos e]; exact hw
    · rw [if_neg e]; exact h3 k
  · show va_up h.1 a c k = am_no
    have hk' : h.2.1 ≤ k := hk
    unfold va_up
    rw [if_neg (by omega)]
    exact h4 k hk'
  · show am_rc D ca base KV (va_up h.1 a c k) (base + k) H1
    unfold va_up
    by_cases e : k = a
    · subst e; rw [if_pos rfl]; exact hc
    · rw [if_neg e]
      exact (h5 k).kept (ho _ (by omega))
/-- a cell is made -/
theorem am_Rep.push {h : am_H} {H H1 : Heap} (hR : am_Rep D ca base KV sc h H) {c : am_C} {k : Nat} (hw : am_wc c) (hc : am_rc D ca base KV c (base + h.2.1) H1) (hz : H1.size = H.size + 1) (ho : ∀ q, q < H.size → H1[q]? = H[q]?) : am_Rep D ca base KV sc (am_push h c k) H1 := by
  obtain ⟨h1, h2, h3, h4, h5⟩ := hR
  refine ⟨?_, h2, fun j => ?_, fun j hj => ?_, fun j => ?_⟩
  · show H1.size = base + (h.2.1 + 1)
    omega
  · show am_wc (va_up h.1 h.2.1 c j)
    unfold va_up
    by_cases e : j = h.2.1
    · rw [if_pos e]; exact hw
    · rw [if_neg e]; exact h3 j
  · show va_up h.1 h.2.1 c j = am_no
    have hj' : h.2.1 + 1 ≤ j := hj
    unfold va_up
    rw [if_neg (by omega)]
    exact h4 j (by omega)
  · show am_rc D ca base KV (va_up h.1 h.2.1 c j) (base + j) H1
    unfold va_up
    by_cases e : j = h.2.1
    · subst e; rw [if_pos rfl]; exact hc
    · rw [if_neg e]
      by_cases hl : j < h.2.1
      · exact (h5 j).kept (ho _ (by omega))
      · rw [h4 j (by omega)]
        trivial
theorem am_Rep.lt {h : am_H} {H : Heap} (hR : am_Rep D ca base KV sc h H) {a : Nat} (hne : h.1 a ≠ am_no) : a < h.2.1 := by
  rcases Nat.lt_or_ge a h.2.1 with q | q
  · exact q
  · exact absurd (hR.2.2.2.1 a q) hne
end AMREP
