/-! ===== most: two sets of zones; the key with most blocks, by the model ===== -/
theorem or_as (a b c : Int) : am_or (am_or a b) c = am_or a (am_or b c) := by
  unfold am_or
  rw [Int32.ofInt_toInt, Int32.ofInt_toInt, Int32.or_assoc]
theorem or_co (a b : Int) : am_or a b = am_or b a := by
  unfold am_or
  rw [Int32.or_comm]
theorem bitz_or {P Q : Nat → Bool} (hd : ∀ z, P z = true → Q z = true → False) : ∀ n, am_or (bitz P n) (bitz Q n) = bitz (fun z => P z || Q z) n := by
  intro n
  induction n with
  | zero => exact or_z (X := 0) (by omega) (by omega)
  | succ n ih =>
    have e1 : bitz P (n + 1) = if P n = true then am_or (bitz P n) (am_shl 1 (n : Int)) else bitz P n := rfl
    have e2 : bitz Q (n + 1) = if Q n = true then am_or (bitz Q n) (am_shl 1 (n : Int)) else bitz Q n := rfl
    have e3 : bitz (fun z => P z || Q z) (n + 1) = if (P n || Q n) = true then am_or (bitz (fun z => P z || Q z) n) (am_shl 1 (n : Int)) else bitz (fun z => P z || Q z) n := rfl
    rw [e1, e2, e3, ← ih]
    cases p : P n with
    | true =>
      cases q : Q n with
      | true => exact absurd (hd n p q) (fun f => f)
      | false =>
        rw [if_pos rfl, if_neg (by decide), if_pos (show (true || false) = true from rfl), or_as, or_co (am_shl 1 (n : Int)), ← or_as]
    | false =>
      cases q : Q n with
      | true => rw [if_neg (by decide), if_pos rfl, if_pos (show (false || true) = true from rfl), or_as]
      | false => rw [if_neg (by decide), if_neg (by decide), if_neg (by decide)]
theorem sm_zero {f : Nat → Int} (h : ∀ z, z < 8 → 0 ≤ f z) : ∀ n, n ≤ 8 → 0 ≤ sm f n ∧ (sm f n = 0 → ∀ z, z < n → f z = 0) := by
  intro n
  induction n with
  | zero => intro _; exact ⟨Int.le_refl 0, fun _ z hz => by omega⟩
  | succ n ih =>
    intro hn
    have h1 := ih (by omega)
    have h2 := h n (by omega)
    have es : sm f (n + 1) = sm f n + f n := rfl
    rw [es]
    refine ⟨by omega, fun e z hz => ?_⟩
    by_cases q : z = n
    · rw [q]; omega
    · exact h1.2 (by omega) z (by omega)
theorem sm_all0 {f : Nat → Int} : ∀ n, (∀ z, z < n → f z = 0) → sm f n = 0 := by
  intro n
  induction n with
  | zero => intro _; rfl
  | succ n ih =>
    intro h
    have es : sm f (n + 1) = sm f n + f n := rfl
    rw [es, ih (fun z hz => h z (by omega)), h n (by omega)]
    rfl
section COMM
variable {mo Z : Nat} {N M Ad : Nat → Nat → Int} {g : am_H}
theorem cop_0 (iv : IV N Z 3) {k : Nat} (hk : k < 32) : 0 ≤ N 12 k := by
  have := (iv.2.1 k hk).2.2
  omega
theorem cop_ne (iv : IV N Z 3) (e : ¬ sm (N 3) Z = 0) : ¬ N 12 (wn (N 12) 32) = 0 := by
  have hp := iv.1.1.1.2.2.2.2.1
  have hZ8 := iv.pw.2.1
  rcases first_or (fun z => decide (¬ N 3 z = 0)) Z with h1 | ⟨z, z1, z2, _⟩
  · exact absurd (sm_all0 Z (fun z hz => by
      have := of_decide_eq_false (h1 z hz)
      omega)) e
  · have z2' := of_decide_eq_true z2
    have h3 := hp z (by omega)
    have hh : cd_has N (16 * z + 0) = true := has_at iv.pw z1 (by omega)
    have hk := iv.key (p := 16 * z + 0) (by omega) hh
    obtain ⟨k, hk'⟩ : ∃ k : Nat, N 7 (16 * z + 0) = k := ⟨(N 7 (16 * z + 0)).toNat, by omega⟩
    have hc : 0 < cnt (fun p => cd_has N p && decide (N 7 p = (k : Int))) 128 := cnt_pos.mpr ⟨16 * z + 0, by omega, by
      (try dsimp only)
      rw [hh, hk', decide_eq_true rfl]
      rfl⟩
    have h12 := (iv.2.1 k (by omega)).2.2
    have hm := wn_max (N 12) 32 k (by omega)
    omega
theorem cop_eq (iv : IV N Z 3) (e : sm (N 3) Z = 0) {k : Nat} (hk : k < 32) : N 12 k = 0 := by
  have hp := iv.1.1.1.2.2.2.2.1
  have h0 := (sm_zero (f := N 3) (fun z hz => (hp z hz).1) Z iv.pw.2.1).2 e
  have h12 := (iv.2.1 k hk).2.2
  have hc : ¬ 0 < cnt (fun p => cd_has N p && decide (N 7 p = (k : Int))) 128 := fun q => by
    obtain ⟨p, p1, p2⟩ := cnt_pos.mp q
    rw [Bool.and_eq_true] at p2
    have h1 := has_lt iv.pw p2.1
    have h2 := h0 (p / 16) h1.2.1
    have h3 := h1.2.2
    omega
  omega
theorem m_common (iv : IV N Z 3) (rl : RL N Ad true (fun _ => 0) 0 8) (mr : MR M Ad) (hN : N 1 4 < 2147483647) (pk : ∀ g, mv mo M g = mv mo (drow M 8 (pack Ad)) g) : am_cI 296 [am_R mo] (mv mo M g) = some (kbB (N 12) 32, mv mo M g) := by
  have cp := m_pointers (mo := mo) (g := g) mr (rl_AW iv rl)
  rw [← pk, rl.1.2.2.1] at cp
  have ce : ∀ k : Nat, k < 32 → am_cI 113 [am_R mo, am_R (mo + 8), am_I k, am_I 2147483647] (mv mo M g) = some (N 12 k, mv mo M g) := fun k hk => by
    have r := m_elders (m := mo) (h := g) (c := 8) (by omega) mr (rl_AW iv rl) (k : Int) 2147483647
    rw [← pk, rl_cop iv rl hN hk] at r
    exact r
  by_cases e : sm (N 3) Z = 0
  · have ek : kbB (N 12) 32 = -1 := by
      unfold kbB
      have hw := wn_le (N 12) 31
      have : wn (N 12) 32 < 32 := by
        rw [wn_s]
        split
        · omega
        · omega
      rw [if_neg (by omega), if_pos (cop_eq iv e this)]
    rw [e] at cp
    rw [ek, am_cI]
    simp (disch := omega) only [en_296, bk_296_0, bk_296_9, bk_296_40, bk_296_48, bk_296_54, mv_c0, cp, Option.bind_some, Bool.cond_decide, am_oI_some, am_oV_some, am_oI_ite, am_oV_ite, am_bind_ite, Int.toNat_natCast, Int.toNat_zero, Int.reduceToNat, ite_true, ite_false, not_true_eq_false, not_false_eq_true, decide_true, decide_false, decide_eq_true_eq, Bool.false_eq_true, Nat.add_zero, am_rok1_0, am_rok1_1, cond_true, cond_false, am_w_nat1, true_or, or_true, false_or, or_false, true_and, and_true, false_and, and_false, Int.reduceEq, Int.reduceNeg, Int.reduceLT, Int.reduceLE, or_self, and_self, if_pos, if_neg]
  · have ek : kbB (N 12) 32 = (wn (N 12) 32 : Int) := by
      unfold kbB
      rw [if_neg (by omega), if_neg (cop_ne iv e)]
    have step : ∀ j : Nat, j < 31 → am_run am_ms 296 13 [am_R mo, am_I (wn (N 12) (j + 1)), am_I ((j + 1 : Nat) : Int)] [] (mv mo M g) = am_run am_ms 296 13 [am_R mo, am_I (wn (N 12) (j + 1 + 1)), am_I ((j + 1 + 1 : Nat) : Int)] [] (mv mo M g) := by
      intro j hj
      have hle := wn_le (N 12) (j + 1)
      have es : wn (N 12) (j + 1 + 1) = if N 12 (wn (N 12) (j + 1)) < N 12 (j + 1) then j + 1 else wn (N 12) (j + 1) := rfl
      rw [es]
      clear es
      generalize wn (N 12) (j + 1) = B at hle ⊢
      generalize e1 : j + 1 = z at hle ⊢
      rw [bk_296_13]
      by_cases e : N 12 B < N 12 z
      · rw [if_pos e]
        simp (disch := omega) only [bk_296_40, bk_296_48, mv_c0, mv_f0_15, ce, Option.bind_some, Bool.cond_decide, am_oI_some, am_oV_some, am_oI_ite, am_oV_ite, am_bind_ite, Int.toNat_natCast, Int.toNat_zero, Int.reduceToNat, ite_true, ite_false, not_true_eq_false, not_false_eq_true, decide_true, decide_false, decide_eq_true_eq, Bool.false_eq_true, Nat.add_zero, am_rok1_0, am_rok1_1, cond_true, cond_false, am_w_nat1, true_or, or_true, false_or, or_false, true_and, and_true, false_and, and_false, Int.reduceEq, Int.reduceNeg, Int.reduceLT, Int.reduceLE, or_self, and_self, if_pos, if_neg]
      · rw [if_neg e]
        simp (disch := omega) only [bk_296_40, bk_296_48, mv_c0, mv_f0_15, ce, Option.bind_some, Bool.cond_decide, am_oI_some, am_oV_some, am_oI_ite, am_oV_ite, am_bind_ite, Int.toNat_natCast, Int.toNat_zero, Int.reduceToNat, ite_true, ite_false, not_true_eq_false, not_false_eq_true, decide_true, decide_false, decide_eq_true_eq, Bool.false_eq_true, Nat.add_zero, am_rok1_0, am_rok1_1, cond_true, cond_false, am_w_nat1, true_or, or_true, false_or, or_false, true_and, and_true, false_and, and_false, Int.reduceEq, Int.reduceNeg, Int.reduceLT, Int.reduceLE, or_self, and_self, if_pos, if_neg]
    have key := loop_to (fun j : Nat => am_run am_ms 296 13 [am_R mo, am_I (wn (N 12) (j + 1)), am_I ((j + 1 : Nat) : Int)] [] (mv mo M g)) 31 step
    have key' : am_run am_ms 296 13 [am_R mo, am_I 0, am_I 1] [] (mv mo M g) = am_run am_ms 296 13 [am_R mo, am_I (wn (N 12) 32), am_I 32] [] (mv mo M g) := by
      have k2 := key
      (try dsimp only at k2)
      rw [show 31 + 1 = 32 from rfl, show 0 + 1 = 1 from rfl, wn_1] at k2
      exact k2
    rw [ek, am_cI, en_296, bk_296_0]
    simp (disch := omega) only [bk_296_9, mv_c0, cp, e, key', Option.bind_some, Bool.cond_decide, am_oI_some, am_oV_some, am_oI_ite, am_oV_ite, am_bind_ite, Int.toNat_natCast, Int.toNat_zero, Int.reduceToNat, ite_true, ite_false, not_true_eq_false, not_false_eq_true, decide_true, decide_false, decide_eq_true_eq, Bool.false_eq_true, Nat.add_zero, am_rok1_0, am_rok1_1, cond_true, cond_false, am_w_nat1, true_or, or_true, false_or, or_false, true_and, and_true, false_and, and_false, Int.reduceEq, Int.reduceNeg, Int.reduceLT, Int.reduceLE, or_self, and_self, if_pos, if_neg]
    rw [bk_296_13]
    simp (disch := omega) only [bk_296_54, Option.bind_some, Bool.cond_decide, am_oI_some, am_oV_some, am_oI_ite, am_oV_ite, am_bind_ite, Int.toNat_natCast, Int.toNat_zero, Int.reduceToNat, ite_true, ite_false, not_true_eq_false, not_false_eq_true, decide_true, decide_false, decide_eq_true_eq, Bool.false_eq_true, Nat.add_zero, am_rok1_0, am_rok1_1, cond_true, cond_false, am_w_nat1, true_or, or_true, false_or, or_false, true_and, and_true, false_and, and_false, Int.reduceEq, Int.reduceNeg, Int.reduceLT, Int.reduceLE, or_self, and_self, if_pos, if_neg]
end COMM
