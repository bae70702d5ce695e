/-! ===== BRIDGE (2): the class's drive and the model's row answer alike ===== -/
/-- the logs tell the same -/
def LR (D A : Nat → Nat → Int) : Prop := A 13 0 = D 16 1 ∧ ∀ i x : Nat, (i : Int) < D 16 1 → x < 3 → A 13 (1 + 3 * ((D 16 1).toNat - 1 - i) + x) = D (13 + x) ((D 16 0 - 1 - i + 60) % 60).toNat
/-- class and model: md true: alike in all; false: tallies are off by O, the clock by T, no log; y: a zone whose stamp isn't looked at (8: none) -/
def RL (D A : Nat → Nat → Int) (md : Bool) (O : Nat → Int) (T : Int) (y : Nat) : Prop :=
  (A 0 = D 0 ∧ A 2 = D 2 ∧ A 3 = D 3 ∧ A 4 = D 4 ∧ A 6 = D 6) ∧ (A 1 4 = D 1 4 ∧ A 1 5 = D 1 5 + T) ∧ (∀ z, z < 8 → z ≠ y → D 2 z = 1 → A 5 z = D 5 z + T) ∧ (∀ p, p < 128 → cd_has D p = true → A 7 p = D 7 p ∧ A 8 p = D 8 p ∧ A 9 p = D 9 p) ∧ (∀ j, j < 8 → j ≠ 4 → j ≠ 5 → if md = true then A 1 j = D 1 j else A 1 j = am_w (D 1 j + O j)) ∧ (md = true → T = 0 ∧ LR D A) ∧ LG A
def HV (D : Nat → Nat → Int) (Z x : Nat) : Prop := (∀ s, s < 3 → D 6 s = -1 ∨ (0 ≤ D 6 s ∧ D 6 s < Z ∧ (s = x ∨ 0 < D 3 (D 6 s).toNat) ∧ (s : Int) < D 0 4)) ∧ ∀ s t, s < 3 → t < 3 → D 6 s = D 6 t → D 6 s = -1 ∨ s = t
/-- what is so of every drive of the class -/
def IV (D : Nat → Nat → Int) (Z x : Nat) : Prop := DR D Z ∧ CC D (cd_has D) ∧ ((∀ z, z < Z → (D 2 z = 0 → D 3 z = 0) ∧ (D 2 z = 2 → 0 < D 3 z)) ∧ ∀ z, Z ≤ z → z < 8 → D 3 z = 0) ∧ HV D Z x ∧ (1 ≤ D 0 2 ∧ 1 ≤ D 0 3 ∧ 0 ≤ D 0 5 ∧ 0 ≤ D 0 6 ∧ D 0 6 ≤ 3) ∧ (0 ≤ D 1 4 ∧ ∀ p, p < 128 → cd_has D p = true → 1 ≤ D 9 p ∧ D 9 p ≤ D 1 4)
theorem IV.pw {D : Nat → Nat → Int} {Z x : Nat} (iv : IV D Z x) : PW D Z := ⟨iv.1.1.1.1, iv.1.1.1.2.1, iv.1.1.1.2.2.2.2.1⟩
theorem IV.key {D : Nat → Nat → Int} {Z x : Nat} (iv : IV D Z x) {p : Nat} (hp : p < 128) (h : cd_has D p = true) : 0 ≤ D 7 p ∧ D 7 p < 32 := cd_has_lt iv.1.1.1 hp h
theorem cd_many_of {D E : Nat → Nat → Int} (e : E 2 = D 2) (Z : Nat) (x : Int) : cd_many E Z x = cd_many D Z x := by unfold cd_many; rw [e]
theorem cd_lz_of {D E : Nat → Nat → Int} (e0 : E 0 = D 0) (e2 : E 2 = D 2) (e6 : E 6 = D 6) (s : Nat) : cd_lz E s = cd_lz D s := by unfold cd_lz; rw [e0, e2, e6]
theorem cd_room_of {D E : Nat → Nat → Int} (e0 : E 0 = D 0) (e2 : E 2 = D 2) (e3 : E 3 = D 3) (e6 : E 6 = D 6) (Z : Nat) : cd_room E Z = cd_room D Z := by unfold cd_room; rw [e0, e3, e6, cd_many_of e2, cd_lz_of e0 e2 e6]
theorem cd_ez_of {D E : Nat → Nat → Int} (e2 : E 2 = D 2) (e4 : E 4 = D 4) (Z : Nat) : cd_ez E Z = cd_ez D Z := by unfold cd_ez; rw [e2, e4]
theorem cd_act_of {D E : Nat → Nat → Int} (e2 : E 2 = D 2) (z : Nat) : cd_act E z = cd_act D z := by unfold cd_act; rw [e2]
theorem w_must_of {D E : Nat → Nat → Int} (e0 : E 0 = D 0) (e2 : E 2 = D 2) (e6 : E 6 = D 6) (Z s : Nat) : w_must E Z s = w_must D Z s := by unfold w_must; rw [e0, cd_many_of e2, cd_lz_of e0 e2 e6]
theorem mxs_le (f : Nat → Int) (a : Int) (n : Nat) : a ≤ mxs f a n := by
  induction n with
  | zero => exact Int.le_refl _
  | succ n ih => unfold mxs am_max; split <;> omega
theorem mxs_01 {f : Nat → Int} {n : Nat} (h : ∀ i, i < n + 1 → 1 ≤ f i) : mxs f (-1) (n + 1) = mxs f 0 (n + 1) ∧ 1 ≤ mxs f 0 (n + 1) := by
  induction n with
  | zero =>
    have := h 0 (by omega)
    show am_max (-1) (f 0) = am_max 0 (f 0) ∧ 1 ≤ am_max 0 (f 0)
    unfold am_max
    rw [if_pos (by omega), if_pos (by omega)]
    exact ⟨rfl, this⟩
  | succ n ih =>
    have h1 := ih (fun i hi => h i (by omega))
    show am_max (mxs f (-1) (n + 1)) (f (n + 1)) = am_max (mxs f 0 (n + 1)) (f (n + 1)) ∧ 1 ≤ am_max (mxs f 0 (n + 1)) (f (n + 1))
    rw [h1.1]
    refine ⟨rfl, ?_⟩
    unfold am_max
    split <;> omega
theorem mxs_congr {f g : Nat → Int} {a : Int} {n : Nat} (h : ∀ i, i < n → f i = g i) : mxs f a n = mxs g a n := by
  induction n with
  | zero => rfl
  | succ n ih => unfold mxs; rw [ih (fun i hi => h i (by omega)), h n (by omega)]
theorem hasb0 {z : Nat} (hz : z < 8) : hasb 0 z = false := by
  match z, hz with
  | 0, _ => decide
  | 1, _ => decide
  | 2, _ => decide
  | 3, _ => decide
  | 4, _ => decide
  | 5, _ => decide
  | 6, _ => decide
  | 7, _ => decide
  | n + 8, h => exact absurd h (by omega)
section BRG2
variable {D A : Nat → Nat → Int} {Z x y : Nat} {md : Bool} {O : Nat → Int} {T : Int}
theorem rl_has (rl : RL D A md O T y) (p : Nat) : cd_has A p = cd_has D p := cd_has_of rl.1.1 rl.1.2.2.1 p
theorem rl_pw (iv : IV D Z x) (rl : RL D A md O T y) : PW A Z := by
  have := iv.pw
  unfold PW at this ⊢
  rw [rl.1.1, rl.1.2.2.1]
  exact this
theorem rl_lt (iv : IV D Z x) (rl : RL D A md O T y) {k : Nat} (hk : k < 32) : lt A k Z = D 10 k := by
  have h1 := LTc_set (fun p _ => rl_has rl p) (lt_c (rl_pw iv rl) (k : Int))
  exact LTc_uniq (fun p hp h => ⟨(rl.2.2.2.1 p hp h).1, (rl.2.2.2.1 p hp h).2.2⟩) h1 (iv.2.1 k hk).1
theorem rl_live (iv : IV D Z x) (rl : RL D A md O T y) {p : Nat} (hp : p < 128) (h : cd_has D p = true) : ml_live A Z p = cd_live D p := by
  have hk := iv.key hp h
  have hb := rl.2.2.2.1 p hp h
  obtain ⟨k, ek⟩ : ∃ k : Nat, D 7 p = k := ⟨(D 7 p).toNat, by omega⟩
  have e1 := rl_lt iv rl (k := k) (by omega)
  have hcc := iv.2.1 k (by omega)
  have hel : 0 < el A (k : Int) (D 9 p) Z ↔ D 11 k < D 9 p := by
    rw [el_flat (rl_pw iv rl), cnt_pos]
    have hne : ¬ D 10 k = -1 := by
      rcases hcc.1 with ⟨b1, b2⟩ | ⟨q, q1, q2, q3, q4, q5⟩
      · exact absurd ek (b2 p hp h)
      · omega
    obtain ⟨d1, q, q1, q2, q3, q4⟩ := hcc.2.1 hne
    constructor
    · rintro ⟨r, r1, r2⟩
      rw [Bool.and_eq_true, rl_has rl] at r2
      have h1 := of_decide_eq_true (r2.2 : decide _ = true)
      have h2 := rl.2.2.2.1 r r1 r2.1
      rw [h2.1, h2.2.2] at h1
      have := d1 r r1 r2.1 h1.1
      omega
    · intro hlt
      refine ⟨q, q1, ?_⟩
      have h2 := rl.2.2.2.1 q q1 q2
      rw [Bool.and_eq_true, rl_has rl]
      refine ⟨q2, decide_eq_true ?_⟩
      rw [h2.1, h2.2.2]
      exact ⟨q3, by omega⟩
  unfold ml_live cd_live
  rw [hb.1, hb.2.1, hb.2.2, ek, Int.toNat_natCast, e1]
  exact decide_eq_decide.mpr ⟨fun q => ⟨q.1, q.2.imp_right hel.mp⟩, fun q => ⟨q.1, q.2.imp_right hel.mpr⟩⟩
theorem rl_nl (iv : IV D Z x) (rl : RL D A md O T y) {z : Nat} (hz : z < Z) : ml_nl A Z z = cd_nl D z := by
  have w := iv.pw
  have h3 := w.2.2 z (by have := w.2.1; omega)
  unfold ml_nl cd_nl
  rw [rl.1.2.2.1]
  refine cnt_congr (fun i hi => rl_live iv rl (by have := w.2.1; omega) (has_at w hz (by omega)))
theorem rl_dead (iv : IV D Z x) (rl : RL D A md O T y) {z : Nat} (hz : z < Z) : ml_dead A Z z = cd_dead D z := by
  unfold ml_dead cd_dead
  rw [rl_nl iv rl hz, rl.1.1]
theorem rl_val (iv : IV D Z x) (rl : RL D A md O T y) {k : Nat} (hk : k < 32) : ml_val A Z k = cd_val D k := by
  unfold ml_val cd_val
  rw [rl_lt iv rl hk]
  rcases (iv.2.1 k hk).1 with ⟨b1, b2⟩ | ⟨q, q1, q2, q3, q4, q5⟩
  · rw [if_pos b1, if_pos b1]
  · rw [q4, Int.toNat_natCast, if_neg (by omega), if_neg (by omega), (rl.2.2.2.1 q q1 q2).2.1]
theorem rl_age (iv : IV D Z x) (rl : RL D A md O T y) {z : Nat} (hz : z < Z) : ml_age A z = cd_age D z := by
  have w := iv.pw
  have h3 := w.2.2 z (by have := w.2.1; omega)
  unfold ml_age cd_age
  rw [rl.1.2.2.1, rl.2.1.1]
  have eb : ∀ i, i < (D 3 z).toNat → A 9 (16 * z + i) = D 9 (16 * z + i) := fun i hi => (rl.2.2.2.1 _ (by have := w.2.1; omega) (has_at w hz (by omega))).2.2
  rw [mxs_congr (f := fun i => A 9 (16 * z + i)) (g := fun i => D 9 (16 * z + i)) eb]
  by_cases e : D 3 z = 0
  · rw [if_pos e, e]
    rfl
  · rw [if_neg e]
    obtain ⟨P, hP⟩ : ∃ P : Nat, (D 3 z).toNat = P + 1 := ⟨(D 3 z).toNat - 1, by omega⟩
    rw [hP]
    have := mxs_01 (f := fun i => D 9 (16 * z + i)) (n := P) (fun i hi => (iv.2.2.2.2.2.2 _ (by have := w.2.1; omega) (has_at w hz (by omega))).1)
    rw [this.1, if_neg (by omega)]
theorem cd_nl_cap (iv : IV D Z x) {z : Nat} (hz : z < Z) : (cd_nl D z : Int) ≤ D 3 z ∧ D 3 z ≤ D 0 1 := by
  have w := iv.pw
  have h3 := w.2.2 z (by have := w.2.1; omega)
  have h1 : cd_nl D z ≤ (D 3 z).toNat := cnt_le _ _
  exact ⟨by omega, (iv.1.1.2.1 z hz).1⟩
theorem rl_score (iv : IV D Z x) (rl : RL D A md O T y) {z : Nat} (hz : z < Z) {p : Int} (hp : 0 ≤ p ∧ p ≤ 3) : ml_score A Z z p = cd_score D z p := by
  have hc := iv.1.2.2.2
  unfold ml_score cd_score
  rw [rl_dead iv rl hz, rl_age iv rl hz, rl_nl iv rl hz, rl.1.1, rl.1.2.2.2.1]
  by_cases p1 : p = 1
  · rw [if_pos p1, if_pos p1, if_neg (by omega)]
  · rw [if_neg p1, if_neg p1]
    by_cases p2 : p = 2
    · rw [if_pos p2, if_pos p2]
    · rw [if_neg p2, if_neg p2]
      by_cases p3 : p = 3
      · rw [if_neg (by omega), if_pos p3, Int.mul_comm]
      · rw [if_pos (by omega), if_neg p3]
theorem rl_tk (iv : IV D Z x) (rl : RL D A md O T y) {p : Int} (hp : 0 ≤ p ∧ p ≤ 3) : ml_tk A Z p 0 Z = cd_zc D Z p := by
  have w := iv.pw
  unfold ml_tk cd_zc
  refine bst_congr (fun z hz => ?_) (fun z b hz hb _ _ => ?_)
  · have h1 := cd_nl_cap iv hz
    unfold ml_tc cd_toC
    rw [hasb0 (by have := w.2.1; omega), rl_dead iv rl hz, rl.1.2.1]
    refine decide_eq_decide.mpr ⟨fun q => ⟨q.1, ?_⟩, fun q => ⟨q.1, by decide, ?_⟩⟩
    · have := q.2.2; unfold cd_dead at this ⊢; omega
    · have := q.2; omega
  · rw [rl_score iv rl hz hp, rl_score iv rl hb hp]
theorem rl_bad (iv : IV D Z x) (rl : RL D A md O T y) : ml_bad A Z = if cd_zc D Z (D 0 6) = -1 then 2 else if w_bad D Z = true then 3 else -1 := by
  have hb := cd_zc_le D Z (D 0 6)
  unfold ml_bad w_bad
  rw [rl.1.1, rl_tk iv rl ⟨iv.2.2.2.2.1.2.2.2.1, iv.2.2.2.2.1.2.2.2.2⟩]
  by_cases e : cd_zc D Z (D 0 6) = -1
  · rw [if_pos e, if_pos e]
  · rw [if_neg e, if_neg e, cd_room_of rl.1.1 rl.1.2.1 rl.1.2.2.1 rl.1.2.2.2.2, rl_nl iv rl (by omega)]
    by_cases e2 : cd_room D Z < (cd_nl D (cd_zc D Z (D 0 6)).toNat : Int)
    · rw [if_pos e2, decide_eq_true (Or.inr e2), if_pos rfl]
    · rw [if_neg e2, decide_eq_false (fun q => q.elim e e2), if_neg (by decide)]
theorem rl_sf (iv : IV D Z x) (rl : RL D A md O T y) {k : Nat} (hk : k < 32) : ml_sf A Z k = cd_sf D k := by
  have h4 := iv.1.1.1.2.2.2.1
  have h4' := iv.1.2.2.1
  unfold ml_sf cd_sf
  rw [rl_lt iv rl hk, rl.1.1, rl.2.1.1]
  rcases (iv.2.1 k hk).1 with ⟨b1, b2⟩ | ⟨q, q1, q2, q3, q4, q5⟩
  · rw [if_pos b1, if_pos b1]
  · have hq : ¬ (q : Int) = -1 := by omega
    rw [q4, Int.toNat_natCast, if_neg hq, if_neg hq, (rl.2.2.2.1 q q1 q2).2.2]
    generalize am_w (am_w (D 1 4 + 1) - D 9 q) = X
    rcases (show D 0 4 = 1 ∨ D 0 4 = 2 ∨ D 0 4 = 3 by omega) with e | e | e
    · rw [e]; rfl
    · rw [e]; rfl
    · rw [e, if_neg (show ¬ (3 : Int) = 1 by omega), if_neg (show ¬ (3 : Int) = 2 by omega)]
      by_cases e4 : X ≤ 4
      · rw [if_pos e4, if_pos (show (3 : Int) = 3 ∧ X ≤ 16 from ⟨rfl, by omega⟩), if_pos e4]; rfl
      · rw [if_neg e4]
        by_cases e16 : X ≤ 16
        · rw [if_pos e16, if_pos (show (3 : Int) = 3 ∧ X ≤ 16 from ⟨rfl, e16⟩), if_neg e4]; rfl
        · rw [if_neg e16, if_neg (show ¬ ((3 : Int) = 3 ∧ X ≤ 16) from fun q => e16 q.2)]; rfl
theorem rl_kv (iv : IV D Z x) (rl : RL D A md O T y) : ml_kv A Z 32 = cd_kv D := cnt_congr (fun k hk => by rw [rl_val iv rl hk])
theorem cd_so_is {s : Nat} {z : Int} (h : cd_so D z = s) : D 6 s = z := by
  unfold cd_so at h
  have := fnd_is (P := fun s => decide (D 6 s = z)) (n := (D 0 4).toNat) (by rw [h]; omega)
  rw [h, Int.toNat_natCast] at this
  exact of_decide_eq_true this
theorem rl_zf (rl : RL D A md O T y) {s : Nat} (hl : cd_lz D s = true) (iv : IV D Z x) : ml_zf A Z s = cd_zf D Z := by
  unfold ml_zf cd_zf
  have e1 : (fun z => cd_act A z && decide (cd_so A z = -1)) = (fun z => cd_act D z && decide (cd_so D z = -1)) := by
    funext z
    rw [cd_act_of rl.1.2.1, cd_so_of rl.1.1 rl.1.2.2.2.2]
  rw [e1]
  have e2 : ml_mp A s Z = cd_mp D Z := by
    unfold ml_mp cd_mp
    refine bst_congr (fun z hz => ?_) (fun z b _ _ _ _ => by rw [rl.1.2.2.1])
    rw [cd_act_of rl.1.2.1, cd_so_of rl.1.1 rl.1.2.2.2.2]
    cases e : cd_act D z with
    | false => rfl
    | true =>
      have hne : ¬ cd_so D z = s := by
        intro q
        have h6 := cd_so_is q
        have hl' := of_decide_eq_true (hl : decide _ = true)
        have ha := of_decide_eq_true (e : decide _ = true)
        rw [h6, iv.1.1.1.1, Int.toNat_natCast] at hl'
        omega
      rw [decide_eq_true hne]
      rfl
  rw [e2]
theorem rl_oz (rl : RL D A md O T y) (hZ : Z ≤ 8) (hy : Z ≤ y) : cd_oz A Z = cd_oz D Z := by
  unfold cd_oz
  refine bst_congr (fun z _ => by rw [rl.1.2.1]) (fun z b lz lb hz hb => ?_)
  have h1 := of_decide_eq_true hz
  have h2 := of_decide_eq_true hb
  rw [rl.1.2.1] at h1 h2
  rw [rl.2.2.1 z (by omega) (by omega) h1, rl.2.2.1 b (by omega) (by omega) h2]
  exact decide_eq_decide.mpr (by omega)
theorem rl_AW (iv : IV D Z x) (rl : RL D A md O T y) : AW A Z := by
  have w := iv.1.1.1
  have hv := iv.2.2.2.1.1
  have pw := iv.pw
  refine ⟨by rw [rl.1.1]; exact w.1, w.2.1, by rw [rl.1.1]; exact w.2.2.1, by rw [rl.1.1]; exact w.2.2.2.1, by rw [rl.1.2.2.1]; exact w.2.2.2.2.1, ?_, ?_⟩
  · intro z i hz hi
    rw [rl.1.2.2.1] at hi
    by_cases e : z < Z
    · have hh := has_at pw e hi
      have h3 := pw.2.2 z hz
      rw [(rl.2.2.2.1 _ (by omega) hh).1]
      exact iv.key (by omega) hh
    · have := iv.2.2.1.2 z (by omega) hz
      omega
  · intro s hs
    rw [rl.1.2.2.2.2]
    rcases hv s hs with h | h
    · exact Or.inl h
    · exact Or.inr ⟨h.1, h.2.1⟩
end BRG2
