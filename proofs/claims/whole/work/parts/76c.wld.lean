/-! ===== the class's and the model's objects side by side; the history ===== -/
section WLD
variable {x : Nat} {N P K T S : Nat → Nat → Int} {m : Nat} {A : Nat → Nat} {h : am_H} {mo : Nat} {M : Nat → Nat → Int}
theorem zv_mv (hm : x + 107 ≤ mo) : zv x N P K T S m A (mv mo M h) = mv mo M (zv x N P K T S m A h) := by
  show (_, _) = (_, _)
  congr 1
  funext k
  by_cases a : x ≤ k ∧ k < x + 107
  · have b : ¬ (mo ≤ k ∧ k < mo + 15) := by omega
    rw [if_pos a, if_neg b]
    show _ = (if x ≤ k ∧ k < x + 107 then zvc x N P K T S m A (k - x) else h.1 k)
    rw [if_pos a]
  · rw [if_neg a]
    show (if mo ≤ k ∧ k < mo + 15 then mvc mo M (k - mo) else h.1 k) = (if mo ≤ k ∧ k < mo + 15 then mvc mo M (k - mo) else (if x ≤ k ∧ k < x + 107 then zvc x N P K T S m A (k - x) else h.1 k))
    rw [if_neg a]
end WLD
/-- a drive lies at an address -/
def Is (a : Nat) (E : Nat → Nat → Int) (h : am_H) : Prop := ∀ i, i < 18 → h.1 (a + i) = dvc a E i
theorem Is_dv {a : Nat} {E : Nat → Nat → Int} {h : am_H} (w : Is a E h) : dv a E h = h := by
  show (_, _) = (h.1, h.2)
  congr 1
  funext k
  by_cases e : a ≤ k ∧ k < a + 18
  · rw [if_pos e]
    have := w (k - a) (by omega)
    rw [show a + (k - a) = k by omega] at this
    exact this.symm
  · rw [if_neg e]
theorem Is_self (a : Nat) (E : Nat → Nat → Int) (h : am_H) : Is a E (dv a E h) := fun i hi => dv_in a E h hi
theorem Is_out {a b : Nat} {E F : Nat → Nat → Int} {h : am_H} (w : Is a E h) (hab : a + 18 ≤ b ∨ b + 18 ≤ a) : Is a E (dv b F h) := fun i hi => by rw [dv_out (by omega)]; exact w i hi
/-- the history's drives: m of them, at addresses A, that hold HD; all at or above lo -/
def HS (lo m : Nat) (A : Nat → Nat) (HD : Nat → Nat → Nat → Int) (h : am_H) : Prop := m ≤ 41 ∧ (∀ j, j < m → lo ≤ A j ∧ A j + 18 ≤ h.2.1 ∧ Is (A j) (HD j) h) ∧ (∀ i j, i < m → j < m → i ≠ j → A i + 18 ≤ A j ∨ A j + 18 ≤ A i) ∧ lo ≤ h.2.1
/-- a heap with so many cells and slots more -/
def grw (h : am_H) (c k : Nat) : am_H := (h.1, h.2.1 + c, h.2.2.1 + k, h.2.2.2)
theorem HS_put {lo m : Nat} {A : Nat → Nat} {HD : Nat → Nat → Nat → Int} {h : am_H} (w : HS lo m A HD h) {j : Nat} (hj : j < m) (E : Nat → Nat → Int) : HS lo m A (fun i => if i = j then E else HD i) (dv (A j) E h) := by
  obtain ⟨w1, w2, w3, w4⟩ := w
  refine ⟨w1, fun i hi => ⟨(w2 i hi).1, (w2 i hi).2.1, ?_⟩, w3, w4⟩
  dsimp only
  by_cases e : i = j
  · rw [if_pos e, e]; exact Is_self _ _ _
  · rw [if_neg e]; exact Is_out (w2 i hi).2.2 (w3 i j hi hj e)
theorem HS_new {lo m : Nat} {A : Nat → Nat} {HD : Nat → Nat → Nat → Int} {h : am_H} (w : HS lo m A HD h) (hm : m < 41) (E : Nat → Nat → Int) (k : Nat) : HS lo (m + 1) (fun i => if i = m then h.2.1 else A i) (fun i => if i = m then E else HD i) (dv h.2.1 E (grw h 18 k)) := by
  obtain ⟨w1, w2, w3, w4⟩ := w
  refine ⟨by omega, fun i hi => ?_, ?_, ?_⟩
  · dsimp only
    by_cases e : i = m
    · rw [if_pos e, if_pos e]
      exact ⟨w4, Nat.le_refl _, Is_self _ _ _⟩
    · rw [if_neg e, if_neg e]
      have h2 := w2 i (by omega)
      have h3 : A i + 18 ≤ (grw h 18 k).2.1 := by show A i + 18 ≤ h.2.1 + 18; omega
      refine ⟨h2.1, h3, ?_⟩
      have h4 : Is (A i) (HD i) (grw h 18 k) := h2.2.2
      exact Is_out h4 (by omega)
  · intro i j hi hj hne
    dsimp only
    by_cases e : i = m
    · rw [if_pos e, if_neg (show ¬ j = m by omega)]
      have := (w2 j (by omega)).2.1
      omega
    · rw [if_neg e]
      by_cases e' : j = m
      · rw [if_pos e']
        have := (w2 i (by omega)).2.1
        omega
      · rw [if_neg e']
        exact w3 i j (by omega) (by omega) hne
  · show lo ≤ h.2.1 + 18; omega
