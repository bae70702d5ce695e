/-! ===== order: sets of zones, the best of the rest ===== -/
theorem bits_or : ∀ X : Fin 256, ∀ a : Fin 8, (∀ z : Fin 8, hasb (am_or ((X.val : Nat) : Int) (am_shl 1 ((a.val : Nat) : Int))) z.val = (hasb ((X.val : Nat) : Int) z.val || decide (z.val = a.val))) ∧ 0 ≤ am_or ((X.val : Nat) : Int) (am_shl 1 ((a.val : Nat) : Int)) ∧ am_or ((X.val : Nat) : Int) (am_shl 1 ((a.val : Nat) : Int)) < 256 := by decide +kernel
theorem bits_at {X : Int} (h0 : 0 ≤ X) (h1 : X < 256) {a : Nat} (ha : a < 8) : (∀ z, z < 8 → hasb (am_or X (am_shl 1 (a : Int))) z = (hasb X z || decide (z = a))) ∧ 0 ≤ am_or X (am_shl 1 (a : Int)) ∧ am_or X (am_shl 1 (a : Int)) < 256 := by
  obtain ⟨n, rfl⟩ : ∃ n : Nat, X = n := ⟨X.toNat, by omega⟩
  have h := bits_or ⟨n, by omega⟩ ⟨a, ha⟩
  exact ⟨fun z hz => h.1 ⟨z, hz⟩, h.2.1, h.2.2⟩
theorem bst_spec (P : Nat → Bool) (s : Nat → Int) : ∀ n, (bst P (fun z b => decide (s b < s z)) n = -1 ∧ ∀ j, j < n → P j = false) ∨ ∃ o : Nat, o < n ∧ bst P (fun z b => decide (s b < s z)) n = o ∧ P o = true ∧ ∀ j, j < n → P j = true → s j < s o ∨ (s j = s o ∧ o ≤ j) := by
  intro n
  induction n with
  | zero => exact Or.inl ⟨rfl, fun j hj => by omega⟩
  | succ n ih =>
    have es : bst P (fun z b => decide (s b < s z)) (n + 1) = if P n = true then (if bst P (fun z b => decide (s b < s z)) n = -1 ∨ decide (s (bst P (fun z b => decide (s b < s z)) n).toNat < s n) = true then (n : Int) else bst P (fun z b => decide (s b < s z)) n) else bst P (fun z b => decide (s b < s z)) n := rfl
    rw [es]
    clear es
    cases e0 : P n with
    | true =>
      rw [if_pos rfl]
      rcases ih with ⟨a1, a2⟩ | ⟨o, o1, o2, o3, o4⟩
      · rw [if_pos (Or.inl a1)]
        refine Or.inr ⟨n, by omega, rfl, e0, fun j hj hv => ?_⟩
        by_cases t : j = n
        · rw [t]; exact Or.inr ⟨rfl, Nat.le_refl n⟩
        · rw [a2 j (by omega)] at hv; exact absurd hv (by decide)
      · rw [o2, Int.toNat_natCast]
        by_cases e2 : s o < s n
        · rw [if_pos (Or.inr (decide_eq_true e2))]
          refine Or.inr ⟨n, by omega, rfl, e0, fun j hj hv => ?_⟩
          by_cases t : j = n
          · rw [t]; exact Or.inr ⟨rfl, Nat.le_refl n⟩
          · have := o4 j (by omega) hv; omega
        · rw [if_neg (fun q => q.elim (fun t => by omega) (fun t => e2 (of_decide_eq_true t)))]
          refine Or.inr ⟨o, by omega, rfl, o3, fun j hj hv => ?_⟩
          by_cases t : j = n
          · rw [t]; omega
          · exact o4 j (by omega) hv
    | false =>
      rw [if_neg (by decide)]
      rcases ih with ⟨a1, a2⟩ | ⟨o, o1, o2, o3, o4⟩
      · refine Or.inl ⟨a1, fun j hj => ?_⟩
        by_cases t : j = n
        · rw [t]; exact e0
        · exact a2 j (by omega)
      · refine Or.inr ⟨o, by omega, o2, o3, fun j hj hv => ?_⟩
        by_cases t : j = n
        · rw [t, e0] at hv; exact absurd hv (by decide)
        · exact o4 j (by omega) hv
section ORDM
variable {N Ad : Nat → Nat → Int} {Z : Nat}
theorem tk_eq (iv : IV N Z 3) (rl : RL N Ad true (fun _ => 0) 0 8) {p : Int} (hp : 0 ≤ p ∧ p ≤ 3) (X : Int) : ml_tk Ad Z p X Z = bst (fun z => cd_toC N z && !(hasb X z)) (fun z b => decide (cd_score N b p < cd_score N z p)) Z := by
  unfold ml_tk
  refine bst_congr (fun z hz => ?_) (fun z b hz hb _ _ => ?_)
  · have h1 := cd_nl_cap iv hz
    unfold ml_tc cd_toC
    rw [rl_dead iv rl hz, rl.1.2.1]
    cases e : hasb X z with
    | true => rw [decide_eq_false (fun q => q.2.1 rfl)]; exact (Bool.and_false _).symm
    | false =>
      rw [show (!false) = true from rfl, Bool.and_true]
      refine decide_eq_decide.mpr ⟨fun q => ⟨q.1, ?_⟩, fun q => ⟨q.1, by decide, ?_⟩⟩
      · have := q.2.2; unfold cd_dead at this ⊢; omega
      · have := q.2; omega
  · rw [rl_score iv rl hz hp, rl_score iv rl hb hp]
/-- the set X holds the t zones that come first -/
def OS (N : Nat → Nat → Int) (Z : Nat) (p : Int) (t : Nat) (X : Int) : Prop := (0 ≤ X ∧ X < 256) ∧ (∀ z, z < Z → hasb X z = true → cd_toC N z = true ∧ ∀ k, k < Z → cd_toC N k = true → hasb X k = false → zah N p k z = true) ∧ cnt (hasb X) Z = t
theorem zah_t {p : Int} {q z : Nat} (e : zah N p q z = true) : cd_toC N z = true ∧ (cd_score N q p < cd_score N z p ∨ (cd_score N z p = cd_score N q p ∧ z < q)) := by
  unfold zah at e
  rw [Bool.and_eq_true] at e
  exact ⟨e.1, of_decide_eq_true e.2⟩
theorem zah_i {p : Int} {q z : Nat} (e : cd_toC N z = true) (h : cd_score N q p < cd_score N z p ∨ (cd_score N z p = cd_score N q p ∧ z < q)) : zah N p q z = true := by
  unfold zah
  rw [e, decide_eq_true h]
  rfl
theorem os_0 (hZ : Z ≤ 8) (p : Int) : OS N Z p 0 0 := ⟨⟨by omega, by omega⟩, fun z hz e => by rw [hasb0 (by omega)] at e; exact absurd e (by decide), cnt_zero (fun z hz => hasb0 (by omega))⟩
theorem os_b (hZ : Z ≤ 8) {p : Int} {t : Nat} {X : Int} (os : OS N Z p t X) {B : Int} (hB : B = bst (fun z => cd_toC N z && !(hasb X z)) (fun z b => decide (cd_score N b p < cd_score N z p)) Z) : (B = -1 ∧ ∀ q, q < Z → cd_toC N q = true → cnt (zah N p q) Z < t) ∨ ∃ a : Nat, a < Z ∧ B = a ∧ cd_toC N a = true ∧ cnt (zah N p a) Z = t ∧ OS N Z p (t + 1) (am_or X (am_shl 1 (a : Int))) := by
  obtain ⟨⟨x0, x1⟩, o1, o2⟩ := os
  rcases bst_spec (fun z => cd_toC N z && !(hasb X z)) (fun z => cd_score N z p) Z with ⟨a1, a2⟩ | ⟨o, p1, p2, p3, p4⟩
  · refine Or.inl ⟨hB.trans a1, fun q hq e => ?_⟩
    have hin : ∀ j, j < Z → cd_toC N j = true → hasb X j = true := fun j hj hj2 => by
      have h1 := a2 j hj
      rw [hj2, Bool.true_and] at h1
      cases e3 : hasb X j with
      | true => rfl
      | false => rw [e3] at h1; exact absurd h1 (by decide)
    rw [← o2]
    refine cnt_lt (q := q) (fun j hj hh => hin j hj (zah_t hh).1) hq ?_ (hin q hq e)
    cases e3 : zah N p q q with
    | false => rfl
    | true => have := (zah_t e3).2; omega
  · rw [Bool.and_eq_true] at p3
    have hX : hasb X o = false := by
      cases e3 : hasb X o with
      | false => rfl
      | true => rw [e3] at p3; exact absurd p3.2 (by decide)
    have hb := bits_at x0 x1 (a := o) (by omega)
    have bo : ∀ k, k < Z → cd_toC N k = true → hasb X k = false → ¬ k = o → zah N p k o = true := fun k hk k1 k2 k3 => zah_i p3.1 (by
      have := p4 k hk (by rw [k1, k2]; rfl)
      omega)
    refine Or.inr ⟨o, p1, hB.trans p2, p3.1, ?_, ⟨hb.2.1, hb.2.2⟩, fun z hz e => ?_, ?_⟩
    · rw [← o2]
      refine cnt_congr (fun j hj => ?_)
      cases e3 : hasb X j with
      | true => exact (o1 j hj e3).2 o p1 p3.1 hX
      | false =>
        cases e4 : zah N p o j with
        | false => rfl
        | true =>
          have h1 := zah_t e4
          have := p4 j hj (by rw [h1.1, e3]; rfl)
          omega
    · rw [hb.1 z (by omega), Bool.or_eq_true] at e
      have hk0 : ∀ k, k < Z → hasb (am_or X (am_shl 1 (o : Int))) k = false → hasb X k = false ∧ ¬ k = o := fun k hk hh => by
        rw [hb.1 k (by omega), Bool.or_eq_false_iff] at hh
        exact ⟨hh.1, of_decide_eq_false hh.2⟩
      rcases e with e | e
      · exact ⟨(o1 z hz e).1, fun k hk k1 k2 => (o1 z hz e).2 k hk k1 (hk0 k hk k2).1⟩
      · rw [of_decide_eq_true e]
        exact ⟨p3.1, fun k hk k1 k2 => bo k hk k1 (hk0 k hk k2).1 (hk0 k hk k2).2⟩
    · rw [← o2]
      refine cnt_add1 (q := o) p1 (fun j hj hne => ?_) ?_ hX
      · rw [hb.1 j (by omega), decide_eq_false hne, Bool.or_false]
      · rw [hb.1 o (by omega), decide_eq_true rfl, Bool.or_true]
end ORDM
