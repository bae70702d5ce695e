/-! ===== THE RELATION of the class's state and the model's, between calls ===== -/
/-- a drive of the class and a row of the model that are alike -/
def DK (Z : Nat) (R : Nat → Int) (K : Nat → Nat → Int) (f : Nat → Int) (n : Nat) : Prop := ∃ A, IV K Z 3 ∧ RL K A true (fun _ => 0) 0 8 ∧ (∀ j, j < 609 → f j = pack A j) ∧ (∀ j, j < 6 → K 0 j = R j) ∧ BD K n ∧ ND K
/-- the model's rules are a drive's -/
def RU (M N : Nat → Nat → Int) : Prop := (∀ j, j < 6 → M 3 j = N 0 j) ∧ M 0 23 = N 0 2 ∧ M 0 24 = N 0 3 ∧ M 0 25 = N 0 4 ∧ N 0 2 ≤ N 0 3
def mslot (M : Nat → Nat → Int) (i : Nat) : Nat := ((M 0 20 + i) % 40).toNat
/-- there is a drive -/
def WD (Z n : Nat) (N K S : Nat → Nat → Int) (HD : Nat → Nat → Nat → Int) (M : Nat → Nat → Int) : Prop := M 0 14 = 1 ∧ RU M N ∧ DK Z (N 0) N (M 8) n ∧ (S 0 1 = 1 → DK Z (N 0) K (M 11) n) ∧ ∀ i : Nat, (i : Int) < S 0 15 → DK Z (N 0) (HD (hslot S i)) (fun j => M 12 (609 * mslot M i + j)) n
/-- there is none -/
def W0 (N S M : Nat → Nat → Int) : Prop := M 0 14 = 0 ∧ (N 0 0 = 0 ∧ N 0 4 = 0 ∧ N 16 1 = 0 ∧ LW N) ∧ M 8 428 = 0 ∧ S 0 1 = 0 ∧ S 0 15 = 0
/-- the tape -/
def WT (S M : Nat → Nat → Int) : Prop := (0 ≤ S 0 2 ∧ S 0 2 ≤ 240 ∧ M 0 2 = S 0 2) ∧ ∀ i : Nat, (i : Int) < S 0 2 → (1 ≤ S 1 i ∧ S 1 i ≤ 255) ∧ M 1 i = am_i2b (S 1 i)
/-- the scripts -/
def WS (S M : Nat → Nat → Int) : Prop := (0 ≤ S 0 0 ∧ S 0 0 ≤ 4 ∧ M 0 12 = S 0 0) ∧ ∀ s : Nat, (s : Int) < S 0 0 → (1 ≤ S 0 (17 + s) ∧ S 0 (17 + s) ≤ 16 ∧ M 6 s = S 0 (17 + s)) ∧ ∀ i : Nat, (i : Int) < S 0 (17 + s) → (M 5 (48 * s + 3 * i) = S (10 + 3 * s) i ∧ M 5 (48 * s + 3 * i + 1) = S (11 + 3 * s) i ∧ M 5 (48 * s + 3 * i + 2) = S (12 + 3 * s) i) ∧ (0 ≤ S (10 + 3 * s) i ∧ S (10 + 3 * s) i ≤ 8) ∧ (S (10 + 3 * s) i = 0 → 0 ≤ S (12 + 3 * s) i ∧ S (12 + 3 * s) i ≤ 999) ∧ (S (10 + 3 * s) i = 1 → S (12 + 3 * s) i = -1)
/-- the counts of the history -/
def WH (m : Nat) (S M : Nat → Nat → Int) : Prop := (0 ≤ S 0 14 ∧ S 0 14 ≤ 40) ∧ (0 ≤ S 0 15 ∧ S 0 15 ≤ 40 ∧ M 0 21 = S 0 15) ∧ (0 ≤ M 0 20 ∧ M 0 20 ≤ 39) ∧ (m = 41 ∨ (S 0 14 = 0 ∧ S 0 15 ≤ m)) ∧ (S 0 1 = 0 ∨ S 0 1 = 1) ∧ M 0 22 = S 0 1
/-- all of it; n bounds what was counted -/
def WR (n m : Nat) (N K S : Nat → Nat → Int) (HD : Nat → Nat → Nat → Int) (M : Nat → Nat → Int) : Prop := WT S M ∧ WS S M ∧ (∀ j, j < 4 → M 7 j = S 9 j) ∧ WH m S M ∧ (W0 N S M ∨ ∃ Z, WD Z n N K S HD M)
/-- rows of the model that calls must not lose -/
def MK (M M' : Nat → Nat → Int) : Prop := (∀ r, r = 1 ∨ r = 3 ∨ r = 5 ∨ r = 6 ∨ r = 7 ∨ r = 8 ∨ r = 11 ∨ r = 12 → M' r = M r) ∧ ∀ j, j = 2 ∨ j = 12 ∨ j = 14 ∨ j = 20 ∨ j = 21 ∨ j = 22 ∨ j = 23 ∨ j = 24 ∨ j = 25 → M' 0 j = M 0 j
theorem MK_refl (M : Nat → Nat → Int) : MK M M := ⟨fun _ _ => rfl, fun _ _ => rfl⟩
theorem MK_trans {M M' M'' : Nat → Nat → Int} (a : MK M M') (b : MK M' M'') : MK M M'' := ⟨fun r h => (b.1 r h).trans (a.1 r h), fun j h => (b.2 j h).trans (a.2 j h)⟩
theorem MK_f (M : Nat → Nat → Int) {j : Nat} (hj : j = 0 ∨ j = 3 ∨ j = 4 ∨ j = 11 ∨ j = 13 ∨ j = 27 ∨ j = 28 ∨ j = 29) (v : Int) : MK M (dup M 0 j v) := ⟨fun r h => dup_o _ _ _ (by omega), fun i h => by rw [dup_t, va_up_ne _ _ (by omega)]⟩
theorem MK_row (M : Nat → Nat → Int) {r : Nat} (hr : r = 2 ∨ r = 4 ∨ r = 9 ∨ r = 10 ∨ r = 13 ∨ r = 14) (f : Nat → Int) : MK M (drow M r f) := ⟨fun q h => drow_o _ _ (by omega), fun i h => by rw [drow_o _ _ (by omega)]⟩
theorem WR_MK {n m : Nat} {N K S : Nat → Nat → Int} {HD : Nat → Nat → Nat → Int} {M M' : Nat → Nat → Int} (w : WR n m N K S HD M) (k : MK M M') : WR n m N K S HD M' := by
  obtain ⟨a, b, c, d, e⟩ := w
  have r := k.1
  have f := k.2
  refine ⟨?_, ?_, ?_, ?_, ?_⟩
  · unfold WT at a ⊢; rw [r 1 (by omega), f 2 (by omega)]; exact a
  · unfold WS at b ⊢; rw [r 5 (by omega), r 6 (by omega), f 12 (by omega)]; exact b
  · rw [r 7 (by omega)]; exact c
  · unfold WH at d ⊢; rw [f 20 (by omega), f 21 (by omega), f 22 (by omega)]; exact d
  · rcases e with e | ⟨Z, e⟩
    · left
      unfold W0 at e ⊢
      rw [f 14 (by omega), r 8 (by omega)]
      exact e
    · right
      refine ⟨Z, ?_⟩
      have em : ∀ i, mslot M' i = mslot M i := by intro i; unfold mslot; rw [f 20 (by omega)]
      unfold WD RU at e ⊢
      rw [f 14 (by omega), f 23 (by omega), f 24 (by omega), f 25 (by omega), r 3 (by omega), r 8 (by omega), r 11 (by omega), r 12 (by omega)]
      refine ⟨e.1, e.2.1, e.2.2.1, e.2.2.2.1, fun i hi => ?_⟩
      rw [em]
      exact e.2.2.2.2 i hi
theorem RU_MR {M N A : Nat → Nat → Int} (h : RU M N) (e : A 0 = N 0) : MR M A := by
  unfold MR
  rw [e]
  exact ⟨h.1 0 (by omega), h.1 1 (by omega), h.2.1, h.2.2.1, h.2.2.2.1, h.1 5 (by omega)⟩
/-- the model's heap, its row c as a pack -/
theorem mv_pk {mo : Nat} {M : Nat → Nat → Int} {h : am_H} {c : Nat} (hc : 8 ≤ c ∧ c ≤ 11) {A : Nat → Nat → Int} (e : ∀ j, j < 609 → M c j = pack A j) : mv mo M h = mv mo (drow M c (pack A)) h := by
  have := mv_row_ext (m := mo) (M := M) (h := h) hc (f := M c) (g := pack A) e
  rw [drow_self] at this
  exact this
/-- the shape of a call that looks only -/
def LK (cy my : Nat) (as : List am_V) (x mo n m : Nat) (A : Nat → Nat) (N P K T S : Nat → Nat → Int) (HD : Nat → Nat → Nat → Int) (M : Nat → Nat → Int) : Prop := ∀ h g : am_H, ∃ (v : Int) (M' : Nat → Nat → Int), am_cI cy (am_R x :: as) (zv x N P K T S m A h) = some (v, zv x N P K T S m A h) ∧ am_cI my (am_R mo :: as) (mv mo M g) = some (v, mv mo M' g) ∧ MK M M'
