/-! ===== BRIDGE (1): what is kept by key is right ===== -/
theorem cnt_add1 {P Q : Nat → Bool} {n q : Nat} (hq : q < n) (h : ∀ p, p < n → p ≠ q → P p = Q p) (hP : P q = true) (hQ : Q q = false) : cnt P n = cnt Q n + 1 := by
  induction n with
  | zero => omega
  | succ n ih =>
    unfold cnt
    by_cases e : q = n
    · subst e
      rw [hP, hQ, cnt_congr (fun j hj => h j (by omega) (by omega)), if_pos rfl, if_neg (by decide)]
    · rw [ih (by omega) (fun p hp hne => h p (by omega) hne), h n (by omega) (fun q' => e q'.symm)]
      omega
theorem cnt_app (P : Nat → Bool) (a : Nat) : ∀ b, cnt P (a + b) = cnt P a + cnt (fun i => P (a + i)) b := by
  intro b
  induction b with
  | zero => rfl
  | succ b ih =>
    show cnt P (a + b) + (if P (a + b) = true then 1 else 0) = cnt P a + (cnt (fun i => P (a + i)) b + if P (a + b) = true then 1 else 0)
    rw [ih]
    omega
theorem cnt_cut {Q : Nat → Bool} {n m : Nat} (h : n ≤ m) : cnt (fun i => decide (i < n) && Q i) m = cnt Q n := by
  obtain ⟨d, rfl⟩ : ∃ d, m = n + d := ⟨m - n, by omega⟩
  rw [cnt_app, cnt_zero (P := fun i => decide (n + i < n) && Q (n + i)) (fun j _ => by rw [decide_eq_false (by omega)]; rfl)]
  exact cnt_congr (fun j hj => by rw [decide_eq_true hj]; rfl)
/-- the latest of a key among some places -/
def LTc (A : Nat → Nat → Int) (k : Int) (H : Nat → Bool) (b : Int) : Prop := (b = -1 ∧ ∀ p, p < 128 → H p = true → ¬ A 7 p = k) ∨ ∃ p : Nat, p < 128 ∧ H p = true ∧ A 7 p = k ∧ b = p ∧ ∀ q, q < 128 → H q = true → A 7 q = k → A 9 q < A 9 p ∨ (A 9 q = A 9 p ∧ p ≤ q)
theorem LTc_uniq {A B : Nat → Nat → Int} {k : Int} {H : Nat → Bool} {a b : Int} (h7 : ∀ p, p < 128 → H p = true → A 7 p = B 7 p ∧ A 9 p = B 9 p) (ha : LTc A k H a) (hb : LTc B k H b) : a = b := by
  rcases ha with ⟨a1, a2⟩ | ⟨p, p1, p2, p3, p4, p5⟩
  · rcases hb with ⟨b1, b2⟩ | ⟨q, q1, q2, q3, q4, q5⟩
    · rw [a1, b1]
    · exact absurd ((h7 q q1 q2).1.trans q3) (a2 q q1 q2)
  · rcases hb with ⟨b1, b2⟩ | ⟨q, q1, q2, q3, q4, q5⟩
    · exact absurd ((h7 p p1 p2).1.symm.trans p3) (b2 p p1 p2)
    · have e1 := p5 q q1 q2 ((h7 q q1 q2).1.trans q3)
      have e2 := q5 p p1 p2 ((h7 p p1 p2).1.symm.trans p3)
      have e3 := (h7 p p1 p2).2
      have e4 := (h7 q q1 q2).2
      rw [p4, q4]
      omega
theorem LTc_set {A : Nat → Nat → Int} {k : Int} {H H' : Nat → Bool} {b : Int} (h : ∀ p, p < 128 → H p = H' p) (hb : LTc A k H b) : LTc A k H' b := by
  rcases hb with ⟨b1, b2⟩ | ⟨p, p1, p2, p3, p4, p5⟩
  · exact Or.inl ⟨b1, fun p hp hH => b2 p hp (by rw [h p hp]; exact hH)⟩
  · exact Or.inr ⟨p, p1, by rw [← h p p1]; exact p2, p3, p4, fun q hq hH => p5 q hq (by rw [h q hq]; exact hH)⟩
/-- one place more -/
theorem LTc_step {A : Nat → Nat → Int} {k : Int} {H : Nat → Bool} {b : Int} {n : Nat} (hn : n < 128) (hH : ∀ p, p < 128 → H p = true → p < n) (hb : LTc A k H b) : LTc A k (fun p => H p || decide (p = n)) (if A 7 n = k ∧ (b = -1 ∨ A 9 b.toNat < A 9 n) then (n : Int) else b) := by
  have hor : ∀ p, (H p || decide (p = n)) = true → H p = true ∨ p = n := by
    intro p h
    rcases Bool.or_eq_true_iff.mp h with h | h
    · exact Or.inl h
    · exact Or.inr (of_decide_eq_true h)
  have hn' : (H n || decide (n = n)) = true := by rw [decide_eq_true rfl, Bool.or_true]
  by_cases e1 : A 7 n = k
  · rcases hb with ⟨b1, b2⟩ | ⟨p, p1, p2, p3, p4, p5⟩
    · rw [if_pos ⟨e1, Or.inl b1⟩]
      refine Or.inr ⟨n, hn, hn', e1, rfl, ?_⟩
      intro q hq hHq hk
      rcases hor q hHq with h | h
      · exact absurd hk (b2 q hq h)
      · right; rw [h]; exact ⟨rfl, Nat.le_refl n⟩
    · have hpn := hH p p1 p2
      rw [p4, Int.toNat_natCast]
      by_cases e2 : A 9 p < A 9 n
      · rw [if_pos ⟨e1, Or.inr e2⟩]
        refine Or.inr ⟨n, hn, hn', e1, rfl, ?_⟩
        intro q hq hHq hk
        rcases hor q hHq with h | h
        · have := p5 q hq h hk
          left; omega
        · right; rw [h]; exact ⟨rfl, Nat.le_refl n⟩
      · rw [if_neg (by omega)]
        refine Or.inr ⟨p, p1, by dsimp only; rw [p2, Bool.true_or], p3, rfl, ?_⟩
        intro q hq hHq hk
        rcases hor q hHq with h | h
        · exact p5 q hq h hk
        · rw [h]; omega
  · rw [if_neg (fun q => e1 q.1)]
    rcases hb with ⟨b1, b2⟩ | ⟨p, p1, p2, p3, p4, p5⟩
    · refine Or.inl ⟨b1, ?_⟩
      intro q hq hHq
      rcases hor q hHq with h | h
      · exact b2 q hq h
      · rw [h]; exact e1
    · refine Or.inr ⟨p, p1, by dsimp only; rw [p2, Bool.true_or], p3, p4, ?_⟩
      intro q hq hHq hk
      rcases hor q hHq with h | h
      · exact p5 q hq h hk
      · rw [h] at hk; exact absurd hk e1
def pr (A : Nat → Nat → Int) (p : Nat) : Bool := decide (((p % 16 : Nat) : Int) < A 3 (p / 16))
/-- pointers are what they can be -/
def PW (A : Nat → Nat → Int) (Z : Nat) : Prop := A 0 0 = Z ∧ Z ≤ 8 ∧ ∀ z, z < 8 → 0 ≤ A 3 z ∧ A 3 z ≤ 16
theorem pr_at {A : Nat → Nat → Int} {z i : Nat} (hi : i < 16) : pr A (16 * z + i) = decide ((i : Int) < A 3 z) := by
  unfold pr
  rw [show (16 * z + i) / 16 = z by omega, show (16 * z + i) % 16 = i by omega]
theorem lt_in_c {A : Nat → Nat → Int} {Z : Nat} (w : PW A Z) (k : Int) {z : Nat} (hz : z < Z) {b : Int} (hb : LTc A k (fun p => decide (p < 16 * z) && pr A p) b) : ∀ i : Nat, (i : Int) ≤ A 3 z → LTc A k (fun p => decide (p < 16 * z + i) && pr A p) (lt_in A k z b i) := by
  intro i
  have h3 := w.2.2 z (by have := w.2.1; omega)
  have hZ := w.2.1
  induction i with
  | zero => intro _; exact hb
  | succ i ih =>
    intro hi
    have ih := ih (by omega)
    have st := LTc_step (n := 16 * z + i) (by omega) (fun p _ h => by
      rw [Bool.and_eq_true, decide_eq_true_eq] at h
      exact h.1) ih
    refine LTc_set ?_ st
    intro p hp
    by_cases e : p = 16 * z + i
    · subst e
      rw [decide_eq_true (rfl : 16 * z + i = 16 * z + i), Bool.or_true, decide_eq_true (show 16 * z + i < 16 * z + (i + 1) by omega), pr_at (by omega), decide_eq_true (by omega)]
      rfl
    · rw [decide_eq_false e, Bool.or_false]
      by_cases e2 : p < 16 * z + i
      · rw [decide_eq_true e2, decide_eq_true (show p < 16 * z + (i + 1) by omega)]
      · rw [decide_eq_false e2, decide_eq_false (show ¬ p < 16 * z + (i + 1) by omega)]
theorem lt_c0 {A : Nat → Nat → Int} {Z : Nat} (w : PW A Z) (k : Int) : ∀ z, z ≤ Z → LTc A k (fun p => decide (p < 16 * z) && pr A p) (lt A k z) := by
  intro z
  induction z with
  | zero =>
    intro _
    refine Or.inl ⟨rfl, ?_⟩
    intro p _ h
    dsimp only at h
    rw [decide_eq_false (show ¬ p < 16 * 0 by omega), Bool.false_and] at h
    exact absurd h (by decide)
  | succ z ih =>
    intro hz
    have hZ := w.2.1
    have h3 := w.2.2 z (by omega)
    refine LTc_set ?_ (lt_in_c w k (by omega) (ih (by omega)) (A 3 z).toNat (by omega))
    intro p hp
    by_cases e1 : p < 16 * z + (A 3 z).toNat
    · rw [decide_eq_true e1, decide_eq_true (show p < 16 * (z + 1) by omega)]
    · rw [decide_eq_false e1]
      by_cases e2 : p < 16 * (z + 1)
      · rw [decide_eq_true e2, show p = 16 * z + (p - 16 * z) by omega, pr_at (by omega), decide_eq_false (by omega)]
        rfl
      · rw [decide_eq_false e2]
theorem has_pr {A : Nat → Nat → Int} {Z : Nat} (w : PW A Z) (p : Nat) : (decide (p < 16 * Z) && pr A p) = cd_has A p := by
  unfold pr cd_has
  rw [w.1]
  by_cases e : p < 16 * Z
  · rw [decide_eq_true e, Bool.true_and]
    by_cases e2 : ((p % 16 : Nat) : Int) < A 3 (p / 16)
    · rw [decide_eq_true e2, decide_eq_true ⟨by omega, e2⟩]
    · rw [decide_eq_false e2, decide_eq_false (fun q => e2 q.2)]
  · rw [decide_eq_false e, Bool.false_and, decide_eq_false (fun q => e (by omega))]
theorem lt_c {A : Nat → Nat → Int} {Z : Nat} (w : PW A Z) (k : Int) : LTc A k (cd_has A) (lt A k Z) := LTc_set (fun p _ => has_pr w p) (lt_c0 w k Z (Nat.le_refl Z))
theorem has_lt {A : Nat → Nat → Int} {Z : Nat} (w : PW A Z) {p : Nat} (h : cd_has A p = true) : p < 16 * Z ∧ p / 16 < Z ∧ ((p % 16 : Nat) : Int) < A 3 (p / 16) := by
  have h1 := of_decide_eq_true (h : decide _ = true)
  rw [w.1] at h1
  exact ⟨by omega, by omega, h1.2⟩
theorem has_at {A : Nat → Nat → Int} {Z : Nat} (w : PW A Z) {z i : Nat} (hz : z < Z) (hi : (i : Int) < A 3 z) : cd_has A (16 * z + i) = true := by
  have h3 := w.2.2 z (by have := w.2.1; omega)
  unfold cd_has
  rw [show (16 * z + i) / 16 = z by omega, show (16 * z + i) % 16 = i by omega, w.1]
  exact decide_eq_true ⟨by omega, hi⟩
theorem el_flat {A : Nat → Nat → Int} {Z : Nat} (w : PW A Z) (k x : Int) : el A k x Z = cnt (fun p => cd_has A p && el_p A k x p) 128 := by
  have hZ := w.2.1
  have key : ∀ z, z ≤ Z → el A k x z = cnt (fun p => pr A p && el_p A k x p) (16 * z) := by
    intro z
    induction z with
    | zero => intro _; rfl
    | succ z ih =>
      intro hz
      have h3 := w.2.2 z (by omega)
      show el A k x z + cnt (fun i => el_p A k x (16 * z + i)) (A 3 z).toNat = _
      rw [ih (by omega), show 16 * (z + 1) = 16 * z + 16 by omega, cnt_app]
      congr 1
      rw [← cnt_cut (Q := fun i => el_p A k x (16 * z + i)) (n := (A 3 z).toNat) (m := 16) (by omega)]
      refine cnt_congr (fun i hi => ?_)
      rw [pr_at hi]
      by_cases e : (i : Int) < A 3 z
      · rw [decide_eq_true e, decide_eq_true (show i < (A 3 z).toNat by omega)]
      · rw [decide_eq_false e, decide_eq_false (show ¬ i < (A 3 z).toNat by omega)]
  rw [key Z (Nat.le_refl Z), show 128 = 16 * Z + (128 - 16 * Z) by omega, cnt_app]
  rw [cnt_zero (P := fun i => cd_has A (16 * Z + i) && el_p A k x (16 * Z + i)) (fun j _ => by
    rw [← has_pr w, decide_eq_false (show ¬ 16 * Z + j < 16 * Z by omega)]; rfl), Nat.add_zero]
  refine cnt_congr (fun p hp => ?_)
  rw [← has_pr w, decide_eq_true (show p < 16 * Z by omega), Bool.true_and]
theorem cnt_pos {P : Nat → Bool} {n : Nat} : 0 < cnt P n ↔ ∃ p, p < n ∧ P p = true := by
  constructor
  · intro h
    rcases first_or P n with hno | ⟨k, k1, k2, _⟩
    · rw [cnt_zero hno] at h; omega
    · exact ⟨k, k1, k2⟩
  · rintro ⟨p, hp, hP⟩
    rcases Nat.eq_zero_or_pos (cnt P n) with h | h
    · exfalso
      have h1 : ∀ m, cnt P m = 0 → ∀ j, j < m → P j = false := by
        intro m
        induction m with
        | zero => intro _ j hj; omega
        | succ m ih =>
          intro hm j hj
          unfold cnt at hm
          by_cases e : j = m
          · subst e
            cases q : P j with
            | false => rfl
            | true => rw [q, if_pos rfl] at hm; omega
          · exact ih (by omega) j (by omega)
      rw [h1 n h p hp] at hP
      exact absurd hP (by decide)
    · exact h
/-- what is kept by key is right for the blocks of a set of places -/
def CC (D : Nat → Nat → Int) (H : Nat → Bool) : Prop := ∀ k : Nat, k < 32 → LTc D k H (D 10 k) ∧ (¬ D 10 k = -1 → (∀ q, q < 128 → H q = true → D 7 q = k → D 11 k ≤ D 9 q) ∧ ∃ q, q < 128 ∧ H q = true ∧ D 7 q = k ∧ D 9 q = D 11 k) ∧ D 12 k = (cnt (fun p => H p && decide (D 7 p = k)) 128 : Int)
theorem CC_of {D E : Nat → Nat → Int} {H H' : Nat → Bool} (c : CC D H) (hH : ∀ p, p < 128 → H p = H' p) (h7 : ∀ p, p < 128 → H p = true → E 7 p = D 7 p ∧ E 9 p = D 9 p) (e10 : E 10 = D 10) (e11 : E 11 = D 11) (e12 : E 12 = D 12) : CC E H' := by
  intro k hk
  obtain ⟨c1, c2, c3⟩ := c k hk
  rw [e10, e11, e12]
  refine ⟨?_, ?_, ?_⟩
  · refine LTc_set hH ?_
    rcases c1 with ⟨b1, b2⟩ | ⟨p, p1, p2, p3, p4, p5⟩
    · exact Or.inl ⟨b1, fun p hp h => by rw [(h7 p hp h).1]; exact b2 p hp h⟩
    · refine Or.inr ⟨p, p1, p2, by rw [(h7 p p1 p2).1]; exact p3, p4, fun q hq hh hk => ?_⟩
      rw [(h7 q hq hh).2, (h7 p p1 p2).2]
      rw [(h7 q hq hh).1] at hk
      exact p5 q hq hh hk
  · intro hn
    obtain ⟨d1, q, q1, q2, q3, q4⟩ := c2 hn
    refine ⟨fun q hq hh hk => ?_, q, q1, by rw [← hH q q1]; exact q2, by rw [(h7 q q1 q2).1]; exact q3, by rw [(h7 q q1 q2).2]; exact q4⟩
    rw [← hH q hq] at hh
    rw [(h7 q hq hh).1] at hk
    rw [(h7 q hq hh).2]
    exact d1 q hq hh hk
  · rw [c3]
    refine congrArg (fun n : Nat => (n : Int)) (cnt_congr (fun p hp => ?_))
    rw [← hH p hp]
    cases e : H p with
    | false => rfl
    | true => rw [(h7 p hp e).1]
theorem ln_10e (D : Nat → Nat → Int) (p k : Nat) : ln D p 10 k = if k = (D 7 p).toNat then (if D 10 (D 7 p).toNat = -1 ∨ D 9 (D 10 (D 7 p).toNat).toNat < D 9 p ∨ (D 9 p = D 9 (D 10 (D 7 p).toNat).toNat ∧ (p : Int) < D 10 (D 7 p).toNat) then (p : Int) else D 10 (D 7 p).toNat) else D 10 k := by
  unfold ln
  rw [dup_o _ _ _ (by omega), dup_o _ _ _ (by omega), dup_t]
  rfl
theorem ln_11e (D : Nat → Nat → Int) (p k : Nat) : ln D p 11 k = if k = (D 7 p).toNat then (if D 10 (D 7 p).toNat = -1 then D 9 p else am_min (D 11 (D 7 p).toNat) (D 9 p)) else D 11 k := by
  unfold ln
  rw [dup_o _ _ _ (by omega), dup_t, dup_o _ _ _ (by omega)]
  rfl
theorem ln_12e (D : Nat → Nat → Int) (p k : Nat) : ln D p 12 k = if k = (D 7 p).toNat then am_w (D 12 (D 7 p).toNat + 1) else D 12 k := by
  unfold ln
  rw [dup_t, dup_o _ _ _ (by omega), dup_o _ _ _ (by omega)]
  rfl
theorem CC_ln {D : Nat → Nat → Int} {H : Nat → Bool} (c : CC D H) {q : Nat} (hq : q < 128) (hH : H q = false) (hk : 0 ≤ D 7 q ∧ D 7 q < 32) : CC (ln D q) (fun p => H p || decide (p = q)) := by
  obtain ⟨K, hK⟩ : ∃ K : Nat, D 7 q = K := ⟨(D 7 q).toNat, by omega⟩
  have e7 : ln D q 7 = D 7 := ln_o _ _ (by omega)
  have e9 : ln D q 9 = D 9 := ln_o _ _ (by omega)
  have hor : ∀ p, (H p || decide (p = q)) = true → H p = true ∨ p = q := by
    intro p h
    rcases Bool.or_eq_true_iff.mp h with h | h
    · exact Or.inl h
    · exact Or.inr (of_decide_eq_true h)
  have hol : ∀ p, H p = true → (H p || decide (p = q)) = true := fun p h => by rw [h, Bool.true_or]
  have hoq : (H q || decide (q = q)) = true := by rw [decide_eq_true rfl, Bool.or_true]
  intro k hk'
  obtain ⟨c1, c2, c3⟩ := c k hk'
  rw [ln_10e, ln_11e, ln_12e, hK, Int.toNat_natCast]
  by_cases e : k = K
  · subst e
    rw [if_pos rfl, if_pos rfl, if_pos rfl]
    refine ⟨?_, ?_, ?_⟩
    · unfold LTc
      rw [e7, e9]
      rcases c1 with ⟨b1, b2⟩ | ⟨p, p1, p2, p3, p4, p5⟩
      · rw [if_pos (Or.inl b1)]
        refine Or.inr ⟨q, hq, hoq, hK, rfl, ?_⟩
        intro r hr hh hkr
        rcases hor r hh with h | h
        · exact absurd hkr (b2 r hr h)
        · right; rw [h]; exact ⟨rfl, Nat.le_refl _⟩
      · rw [p4, Int.toNat_natCast]
        by_cases e2 : (p : Int) = -1 ∨ D 9 p < D 9 q ∨ D 9 q = D 9 p ∧ (q : Int) < (p : Int)
        · rw [if_pos e2]
          refine Or.inr ⟨q, hq, hoq, hK, rfl, ?_⟩
          intro r hr hh hkr
          rcases hor r hh with h | h
          · have := p5 r hr h hkr
            omega
          · right; rw [h]; exact ⟨rfl, Nat.le_refl _⟩
        · rw [if_neg e2]
          refine Or.inr ⟨p, p1, hol p p2, p3, rfl, ?_⟩
          intro r hr hh hkr
          rcases hor r hh with h | h
          · exact p5 r hr h hkr
          · rw [h]; omega
    · intro _
      rw [e7, e9]
      by_cases e1 : D 10 k = -1
      · rw [if_pos e1]
        have hno : ∀ p, p < 128 → H p = true → ¬ D 7 p = k := by
          rcases c1 with ⟨b1, b2⟩ | ⟨p, p1, p2, p3, p4, p5⟩
          · exact b2
          · omega
        refine ⟨?_, q, hq, hoq, hK, rfl⟩
        intro r hr hh hkr
        rcases hor r hh with h | h
        · exact absurd hkr (hno r hr h)
        · rw [h]; omega
      · rw [if_neg e1]
        obtain ⟨d1, r, r1, r2, r3, r4⟩ := c2 e1
        unfold am_min
        by_cases e2 : D 9 q < D 11 k
        · rw [if_pos e2]
          refine ⟨?_, q, hq, hoq, hK, rfl⟩
          intro t ht hh hkt
          rcases hor t hh with h | h
          · have := d1 t ht h hkt; omega
          · rw [h]; omega
        · rw [if_neg e2]
          refine ⟨?_, r, r1, hol r r2, r3, r4⟩
          intro t ht hh hkt
          rcases hor t hh with h | h
          · exact d1 t ht h hkt
          · rw [h]; omega
    · rw [c3, e7]
      have hle := cnt_le (fun p => H p && decide (D 7 p = k)) 128
      rw [am_w_id (by omega) (by omega)]
      have := cnt_add1 (P := fun p => (H p || decide (p = q)) && decide (D 7 p = k)) (Q := fun p => H p && decide (D 7 p = k)) (n := 128) (q := q) hq (fun p _ hne => by rw [decide_eq_false hne, Bool.or_false]) (by rw [hoq, decide_eq_true hK]; rfl) (by rw [hH]; rfl)
      rw [this]
      omega
  · rw [if_neg e, if_neg e, if_neg e]
    have hne : ∀ p, p = q → ¬ D 7 p = k := fun p h => by rw [h, hK]; omega
    refine ⟨?_, ?_, ?_⟩
    · unfold LTc
      rw [e7, e9]
      rcases c1 with ⟨b1, b2⟩ | ⟨p, p1, p2, p3, p4, p5⟩
      · refine Or.inl ⟨b1, fun r hr hh => ?_⟩
        rcases hor r hh with h | h
        · exact b2 r hr h
        · exact hne r h
      · refine Or.inr ⟨p, p1, hol p p2, p3, p4, fun r hr hh hkr => ?_⟩
        rcases hor r hh with h | h
        · exact p5 r hr h hkr
        · exact absurd hkr (hne r h)
    · intro hn
      rw [e7, e9]
      obtain ⟨d1, r, r1, r2, r3, r4⟩ := c2 hn
      refine ⟨fun t ht hh hkt => ?_, r, r1, hol r r2, r3, r4⟩
      rcases hor t hh with h | h
      · exact d1 t ht h hkt
      · exact absurd hkt (hne t h)
    · rw [c3, e7]
      refine congrArg (fun n : Nat => (n : Int)) (cnt_congr (fun p hp => ?_))
      by_cases ep : p = q
      · rw [decide_eq_false (hne p ep), Bool.and_false, Bool.and_false]
      · dsimp only
        rw [decide_eq_false ep, Bool.or_false]
theorem CC_la {D : Nat → Nat → Int} (hk : ∀ p, p < 128 → cd_has D p = true → 0 ≤ D 7 p ∧ D 7 p < 32) : CC (la D 128) (cd_has D) := by
  have key : ∀ n, n ≤ 128 → CC (la D n) (fun p => decide (p < n) && cd_has D p) := by
    intro n
    induction n with
    | zero =>
      intro _ k hk
      show LTc (la0 D) k _ (la0 D 10 k) ∧ (¬ la0 D 10 k = -1 → _) ∧ la0 D 12 k = _
      have e10 : la0 D 10 k = -1 := by unfold la0; rw [drow_o _ _ (by omega), drow_o _ _ (by omega), drow_t]; exact if_pos hk
      have e12 : la0 D 12 k = 0 := by unfold la0; rw [drow_t]; exact if_pos hk
      refine ⟨Or.inl ⟨e10, fun p _ h => ?_⟩, fun h => absurd e10 h, ?_⟩
      · dsimp only at h
        rw [decide_eq_false (show ¬ p < 0 by omega), Bool.false_and] at h; exact absurd h (by decide)
      · rw [e12, cnt_zero (fun j _ => by dsimp only; rw [decide_eq_false (show ¬ j < 0 by omega)]; rfl)]; rfl
    | succ n ih =>
      intro hn
      have ih := ih (by omega)
      unfold la
      split
      · rename_i hh
        have e7 : la D n 7 = D 7 := la_o D (by omega) n
        have c := CC_ln (q := n) ih (by omega) (by rw [decide_eq_false (by omega)]; rfl) (by rw [e7]; exact hk n (by omega) hh)
        refine CC_of c (fun p hp => ?_) (fun _ _ _ => ⟨rfl, rfl⟩) rfl rfl rfl
        by_cases e : p = n
        · subst e
          rw [hh, decide_eq_true (show p < p + 1 by omega), decide_eq_true (rfl : p = p), Bool.or_true]
          rfl
        · rw [decide_eq_false e, Bool.or_false]
          by_cases e2 : p < n
          · rw [decide_eq_true e2, decide_eq_true (show p < n + 1 by omega)]
          · rw [decide_eq_false e2, decide_eq_false (show ¬ p < n + 1 by omega)]
      · rename_i hh
        refine CC_of ih (fun p hp => ?_) (fun _ _ _ => ⟨rfl, rfl⟩) rfl rfl rfl
        by_cases e : p = n
        · subst e
          rw [Bool.eq_false_iff.mpr hh, Bool.and_false, Bool.and_false]
        · by_cases e2 : p < n
          · rw [decide_eq_true e2, decide_eq_true (show p < n + 1 by omega)]
          · rw [decide_eq_false e2, decide_eq_false (show ¬ p < n + 1 by omega)]
  refine CC_of (key 128 (Nat.le_refl 128)) (fun p hp => ?_) (fun _ _ _ => ⟨rfl, rfl⟩) rfl rfl rfl
  rw [decide_eq_true hp]
  rfl
