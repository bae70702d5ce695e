/-! ===== reading items ===== -/
theorem cnt_ad (P : Nat → Bool) {l : Nat} : ∀ n, l < n → P l = false → cnt (fun z => P z || decide (z = l)) n = cnt P n + 1 := by
  intro n
  induction n with
  | zero => intro h; omega
  | succ n ih =>
    intro hl hp
    by_cases e : l = n
    · subst e
      have e1 : cnt (fun z => P z || decide (z = l)) l = cnt P l := cnt_congr (fun j hj => by rw [decide_eq_false (by omega), Bool.or_false])
      show cnt (fun z => P z || decide (z = l)) l + (if (P l || decide (l = l)) = true then 1 else 0) = cnt P l + (if P l = true then 1 else 0) + 1
      rw [e1, hp, decide_eq_true rfl]
      rfl
    · have e1 := ih (by omega) hp
      show cnt (fun z => P z || decide (z = l)) n + (if (P n || decide (n = l)) = true then 1 else 0) = cnt P n + (if P n = true then 1 else 0) + 1
      rw [e1, decide_eq_false (show ¬ n = l by omega), Bool.or_false]
      omega
theorem cnt_full {P : Nat → Bool} : ∀ n, cnt P n = n → ∀ j, j < n → P j = true := by
  intro n
  induction n with
  | zero => intro _ j hj; omega
  | succ n ih =>
    intro hc j hj
    have hc' : cnt P n + (if P n = true then 1 else 0) = n + 1 := hc
    have hl := cnt_le P n
    by_cases e : P n = true
    · rw [if_pos e] at hc'
      by_cases ej : j = n
      · rw [ej]; exact e
      · exact ih (by omega) j (by omega)
    · rw [if_neg e] at hc'
      omega
theorem bit_10 : ∀ X : Fin 256, ∀ z : Fin 8, am_and (am_shr ((X.val : Nat) : Int) ((z.val : Nat) : Int)) 1 = if hasb ((X.val : Nat) : Int) z.val = true then 1 else 0 := by decide +kernel
theorem bit_at {X : Int} (h0 : 0 ≤ X) (h1 : X < 256) {z : Nat} (hz : z < 8) : am_and (am_shr X (z : Int)) 1 = if hasb X z = true then 1 else 0 := by
  obtain ⟨n, rfl⟩ : ∃ n : Nat, X = n := ⟨X.toNat, by omega⟩
  exact bit_10 ⟨n, by omega⟩ ⟨z, hz⟩
def rlo (k : Nat) : Int := [3, 2, 1, 1, 1, 1, 0].getD k 0
def rhi (k : Nat) : Int := [8, 16, 8, 8, 3, 2, 3].getD k 0
def wlo (_ : Nat) : Int := 0
def whi (k : Nat) : Int := if k = 0 then 31 else 999
theorem rk_4 (h : am_H) {l : Nat} (hl : l < 7) : am_rk h 4 0 (l : Int) = some (rlo l) := by
  rcases (show l = 0 ∨ l = 1 ∨ l = 2 ∨ l = 3 ∨ l = 4 ∨ l = 5 ∨ l = 6 by omega) with e | e | e | e | e | e | e <;> subst e <;> rfl
theorem rk_5 (h : am_H) {l : Nat} (hl : l < 7) : am_rk h 5 0 (l : Int) = some (rhi l) := by
  rcases (show l = 0 ∨ l = 1 ∨ l = 2 ∨ l = 3 ∨ l = 4 ∨ l = 5 ∨ l = 6 by omega) with e | e | e | e | e | e | e <;> subst e <;> rfl
theorem rk_6 (h : am_H) {l : Nat} (hl : l < 2) : am_rk h 6 0 (l : Int) = some (wlo l) := by
  rcases (show l = 0 ∨ l = 1 by omega) with e | e <;> subst e <;> rfl
theorem rk_7 (h : am_H) {l : Nat} (hl : l < 2) : am_rk h 7 0 (l : Int) = some (whi l) := by
  rcases (show l = 0 ∨ l = 1 by omega) with e | e <;> subst e <;> rfl
theorem m_least (h : am_H) {l : Nat} (hl : l < 7) : am_cI 51 [am_I l] h = some (rlo l, h) := by
  rcases (show l = 0 ∨ l = 1 ∨ l = 2 ∨ l = 3 ∨ l = 4 ∨ l = 5 ∨ l = 6 by omega) with e | e | e | e | e | e | e <;> subst e <;> rw [am_cI, en_51, bk_51_0, bk_51_1]
  · exact congrArg am_oI (bk_51_36 _ h)
  · exact congrArg am_oI (bk_51_38 _ h)
  · exact congrArg am_oI (bk_51_42 _ h)
  · exact congrArg am_oI (bk_51_42 _ h)
  · exact congrArg am_oI (bk_51_42 _ h)
  · exact congrArg am_oI (bk_51_42 _ h)
  · exact congrArg am_oI (bk_51_40 _ h)
theorem m_most (h : am_H) {l : Nat} (hl : l < 7) : am_cI 52 [am_I l] h = some (rhi l, h) := by
  rcases (show l = 0 ∨ l = 1 ∨ l = 2 ∨ l = 3 ∨ l = 4 ∨ l = 5 ∨ l = 6 by omega) with e | e | e | e | e | e | e <;> subst e <;> rw [am_cI, en_52, bk_52_0, bk_52_1]
  · exact congrArg am_oI (bk_52_49 _ h)
  · exact congrArg am_oI (bk_52_40 _ h)
  · exact congrArg am_oI (bk_52_49 _ h)
  · exact congrArg am_oI (bk_52_49 _ h)
  · exact congrArg am_oI (bk_52_43 _ h)
  · exact congrArg am_oI (bk_52_45 _ h)
  · exact congrArg am_oI (bk_52_47 _ h)
/-- what items leave as it was -/
def SR (r : Nat) (S S' : Nat → Nat → Int) : Prop := (∀ j, j ≠ 5 → j ≠ 6 → S' 0 j = S 0 j) ∧ ∀ q, q ≠ 0 → q ≠ r → S' q = S q
def MRd (r : Nat) (M M' : Nat → Nat → Int) : Prop := (∀ j, j ≠ 3 → j ≠ 4 → M' 0 j = M 0 j) ∧ ∀ q, q ≠ 0 → q ≠ r → M' q = M q
theorem SR_refl (r : Nat) (S : Nat → Nat → Int) : SR r S S := ⟨fun _ _ _ => rfl, fun _ _ _ => rfl⟩
theorem MRd_refl (r : Nat) (M : Nat → Nat → Int) : MRd r M M := ⟨fun _ _ _ => rfl, fun _ _ _ => rfl⟩
theorem SR_trans {r : Nat} {S S' S'' : Nat → Nat → Int} (a : SR r S S') (b : SR r S' S'') : SR r S S'' := ⟨fun j h h' => (b.1 j h h').trans (a.1 j h h'), fun q h h' => (b.2 q h h').trans (a.2 q h h')⟩
theorem MRd_trans {r : Nat} {M M' M'' : Nat → Nat → Int} (a : MRd r M M') (b : MRd r M' M'') : MRd r M M'' := ⟨fun j h h' => (b.1 j h h').trans (a.1 j h h'), fun q h h' => (b.2 q h h').trans (a.2 q h h')⟩
theorem SR_f (r : Nat) (S : Nat → Nat → Int) {j : Nat} (hj : j = 5 ∨ j = 6) (v : Int) : SR r S (dup S 0 j v) := ⟨fun i h h' => by rw [dup_t, va_up_ne _ _ (by omega)], fun q h _ => dup_o _ _ _ h⟩
theorem MRd_f (r : Nat) (M : Nat → Nat → Int) {j : Nat} (hj : j = 3 ∨ j = 4) (v : Int) : MRd r M (dup M 0 j v) := ⟨fun i h h' => by rw [dup_t, va_up_ne _ _ (by omega)], fun q h _ => dup_o _ _ _ h⟩
theorem SR_r {r : Nat} (S : Nat → Nat → Int) (hr : r ≠ 0) (j : Nat) (v : Int) : SR r S (dup S r j v) := ⟨fun i _ _ => by rw [dup_o _ _ _ (Ne.symm hr)], fun q _ h => dup_o _ _ _ h⟩
theorem MRd_r {r : Nat} (M : Nat → Nat → Int) (hr : r ≠ 0) (j : Nat) (v : Int) : MRd r M (dup M r j v) := ⟨fun i _ _ => by rw [dup_o _ _ _ (Ne.symm hr)], fun q _ h => dup_o _ _ _ h⟩
/-- class and model read at one place, and nothing is wrong -/
def PS (S M : Nat → Nat → Int) (L : Int) (f : Nat → Int) (a : Nat) : Prop := (CT S L f ∧ MTp M L f) ∧ (S 0 6 = -1 ∧ M 0 4 = -1) ∧ (a : Int) ≤ L ∧ S 0 5 = a ∧ M 0 3 = a
def RUk (S M : Nat → Nat → Int) : Prop := ∀ k, k < 7 → S 2 k = M 2 k ∧ rlo k ≤ S 2 k ∧ S 2 k ≤ rhi k
def WUk (w : Nat) (E : Nat → Int) (S M : Nat → Nat → Int) : Prop := (∀ k, k < 2 → S 8 k = M 4 (2 * w + k) ∧ wlo k ≤ S 8 k ∧ S 8 k ≤ whi k) ∧ ∀ j, j < 2 * w → M 4 j = E j
/-- how reading items ends -/
def IO (r r' : Nat) (R : (Nat → Nat → Int) → (Nat → Nat → Int) → Prop) (L : Int) (f : Nat → Int) (S M S' M' : Nat → Nat → Int) : Prop := (SR r S S' ∧ MRd r' M M') ∧ ((0 ≤ S' 0 6 ∧ M' 0 4 = S' 0 6) ∨ ((∃ a, PS S' M' L f a) ∧ R S' M'))
theorem CT_SR {r : Nat} {S S' : Nat → Nat → Int} {L : Int} {f : Nat → Int} (c : CT S L f) (s : SR r S S') (hr : 2 ≤ r) : CT S' L f := ⟨(s.1 2 (by omega) (by omega)).trans c.1, (s.2 1 (by omega) (by omega)).trans c.2⟩
theorem MTp_MRd {r : Nat} {M M' : Nat → Nat → Int} {L : Int} {f : Nat → Int} (c : MTp M L f) (s : MRd r M M') (hr : 2 ≤ r) : MTp M' L f := ⟨(s.1 2 (by omega) (by omega)).trans c.1, fun i hi => by rw [s.2 1 (by omega) (by omega)]; exact c.2 i hi⟩
section STEPR
variable {x mo m : Nat} {A : Nat → Nat} {N P K T : Nat → Nat → Int} {h g : am_H} {L : Int} {f : Nat → Int} {ro : Int}
theorem it_stepR {k : Nat} (tf : TF L f) (S M : Nat → Nat → Int) (a : Nat) (X : Int) (y7 y6 : am_V) (hX0 : 0 ≤ X) (hX1 : X < 256) (hc : cnt (hasb X) 7 + k = 7) (ct : CT S L f) (mt : MTp M L f) (h6 : S 0 6 = -1) (h4 : M 0 4 = -1) (ha : (a : Int) ≤ L) (h5 : S 0 5 = a) (h3 : M 0 3 = skp L f a) (ru : RUk S M)
    (ih : 0 < k → ∀ (S M : Nat → Nat → Int) (a : Nat) (X : Int) (y7 y6 : am_V), 0 ≤ X → X < 256 → cnt (hasb X) 7 + (k - 1) = 7 → CT S L f → MTp M L f → S 0 6 = -1 → M 0 4 = -1 → (a : Int) ≤ L → S 0 5 = a → M 0 3 = skp L f a → RUk S M → ∃ S' M', am_run am_ms 29 6 [am_R (x + 3), am_K 16, am_K 4, am_K 5, am_R (x + 4), am_I X, am_I ((cnt (hasb X) 7 : Nat) : Int), y7] [] (zv x N P K T S m A h) = some (none, zv x N P K T S' m A h) ∧ am_run am_ms 55 34 [am_R mo, am_I 1, am_K 19, am_I ro, am_I X, am_I (ixf 16 (chr L f (skp L f a))), y6] [] (mv mo M g) = some (none, mv mo M' g) ∧ IO 2 2 RUk L f S M S' M') :
    ∃ S' M', am_run am_ms 29 6 [am_R (x + 3), am_K 16, am_K 4, am_K 5, am_R (x + 4), am_I X, am_I ((cnt (hasb X) 7 : Nat) : Int), y7] [] (zv x N P K T S m A h) = some (none, zv x N P K T S' m A h) ∧ am_run am_ms 55 34 [am_R mo, am_I 1, am_K 19, am_I ro, am_I X, am_I (ixf 16 (chr L f (skp L f a))), y6] [] (mv mo M g) = some (none, mv mo M' g) ∧ IO 2 2 RUk L f S M S' M' := by
  have h240 := tf.1
  have hb1 : Nat.beq 16 1 = false := rfl
  have hx1 : am_istx 16 = true := rfl
  have el : (((lts 16).length : Nat) : Int) = 7 := rfl
  have c1 := s_length (zv x N P K T S m A h) tx_16
  rw [el] at c1
  have u := u_c (x := x) (N := N) (P := P) (K := K) (T := T) (m := m) (A := A) (h := h) tf ct ha h5
  have hb := skp_r (f := f) ha
  have hcr := chr_r tf (skp L f a)
  have ic := i2c_id hcr
  have ix := s_idx (zv x N P K T (dup S 0 5 (skp L f a : Int)) m A h) tx_16 hcr
  have hi : ¬ (7 : Int) < ((cnt (hasb X) 7 : Nat) : Int) := by omega
  have ct1 : CT (dup S 0 5 (skp L f a : Int)) L f := CT_f ct (by omega) _
  rw [bk_29_6, bk_55_34]
  rcases ixf_r tx_16 (chr L f (skp L f a)) with ⟨e, _⟩ | ⟨l, e, hl, el2, _⟩
  · rw [e] at ix ⊢
    refine ⟨dup S 0 5 (skp L f a : Int), M, ?_, ?_, ⟨SR_f _ S (by omega) _, MRd_refl _ M⟩, Or.inr ⟨⟨skp L f a, ⟨ct1, mt⟩, ⟨by rw [dup_t, va_up_ne _ _ (by omega)]; exact h6, h4⟩, hb.2, by rw [dup_t, va_up_self], h3⟩, ?_⟩⟩
    · simp only [hb1, hx1, c1, hi, zv_c3, u, ic, ix, bk_29_39, Option.bind_some, Bool.cond_decide, am_oI_some, am_oV_some, am_oI_ite, am_oV_ite, am_bind_ite, Int.toNat_natCast, Int.toNat_zero, Int.reduceToNat, ite_true, ite_false, not_true_eq_false, not_false_eq_true, decide_true, decide_false, decide_eq_true_eq, Bool.false_eq_true, Nat.add_zero, am_rok1_0, am_rok1_1, cond_true, cond_false, am_w_nat1, true_or, or_true, false_or, or_false, true_and, and_true, false_and, and_false, Int.reduceEq, Int.reduceNeg, Int.reduceLT, Int.reduceLE, or_self, and_self]
    · simp only [bk_55_171, Option.bind_some, Bool.cond_decide, am_oI_some, am_oV_some, am_oI_ite, am_oV_ite, am_bind_ite, Int.toNat_natCast, Int.toNat_zero, Int.reduceToNat, ite_true, ite_false, not_true_eq_false, not_false_eq_true, decide_true, decide_false, decide_eq_true_eq, Bool.false_eq_true, Nat.add_zero, am_rok1_0, am_rok1_1, cond_true, cond_false, am_w_nat1, true_or, or_true, false_or, or_false, true_and, and_true, false_and, and_false, Int.reduceEq, Int.reduceNeg, Int.reduceLT, Int.reduceLE, or_self, and_self]
    · intro j hj; rw [dup_o _ _ _ (by omega)]; exact ru j hj
  · rw [e] at ix ⊢
    have hl7 : l < 7 := hl
    have hcb := tx_16.2.2.2.2 l hl
    have hin := chr_in (L := L) (f := f) (a := skp L f a) (by omega)
    generalize skp L f a = b at *
    have hl0 : ¬ (l : Int) < 0 := by omega
    have hl1 : (l : Int) < 7 := by omega
    have hln : ¬ (l : Int) = -1 := by omega
    have hbit := bit_at hX0 hX1 (z := l) (by omega)
    have hh := m_has X l (mv mo M g)
    have h5b : dup S 0 5 (b : Int) 0 5 = b := by rw [dup_t, va_up_self]
    by_cases eb : hasb X l = true
    · rw [if_pos eb] at hbit hh
      have fl := m_fails (mo := mo) (g := g) h4 h3
      refine ⟨dup (dup S 0 5 (b : Int)) 0 6 (b : Int), dup M 0 4 (b : Int), ?_, ?_, ⟨SR_trans (SR_f _ S (by omega) _) (SR_f _ _ (by omega) _), MRd_f _ M (by omega) _⟩, Or.inl ⟨by rw [dup_t, va_up_self]; omega, by rw [dup_t, va_up_self, dup_t, va_up_self]⟩⟩
      · simp only [hb1, hx1, c1, hi, zv_c3, u, ic, ix, hl0, hl1, bk_29_35, bk_29_40, zv_l2, hbit, zv_f3_8, h5b, zv_p3_9, Int.one_ne_zero, Option.bind_some, Bool.cond_decide, am_oI_some, am_oV_some, am_oI_ite, am_oV_ite, am_bind_ite, Int.toNat_natCast, Int.toNat_zero, Int.reduceToNat, ite_true, ite_false, not_true_eq_false, not_false_eq_true, decide_true, decide_false, decide_eq_true_eq, Bool.false_eq_true, Nat.add_zero, am_rok1_0, am_rok1_1, cond_true, cond_false, am_w_nat1, true_or, or_true, false_or, or_false, true_and, and_true, false_and, and_false, Int.reduceEq, Int.reduceNeg, Int.reduceLT, Int.reduceLE, or_self, and_self]
      · simp only [hln, mv_f0_4, h4, hh, mv_c0, fl, Int.one_ne_zero, Option.bind_some, Bool.cond_decide, am_oI_some, am_oV_some, am_oI_ite, am_oV_ite, am_bind_ite, Int.toNat_natCast, Int.toNat_zero, Int.reduceToNat, ite_true, ite_false, not_true_eq_false, not_false_eq_true, decide_true, decide_false, decide_eq_true_eq, Bool.false_eq_true, Nat.add_zero, am_rok1_0, am_rok1_1, cond_true, cond_false, am_w_nat1, true_or, or_true, false_or, or_false, true_and, and_true, false_and, and_false, Int.reduceEq, Int.reduceNeg, Int.reduceLT, Int.reduceLE, or_self, and_self]
    · rw [if_neg eb] at hbit hh
      have hbf : hasb X l = false := Bool.eq_false_iff.mpr eb
      have hk : 0 < k := by
        rcases Nat.eq_zero_or_pos k with q | q
        · exact absurd (cnt_full 7 (by omega) l hl7) eb
        · exact q
      have hor := bits_at hX0 hX1 (a := l) (by omega)
      have hcn : cnt (hasb (am_or X (am_shl 1 (l : Int)))) 7 = cnt (hasb X) 7 + 1 := by
        rw [← cnt_ad (hasb X) 7 hl7 hbf]
        exact cnt_congr (fun j hj => hor.1 j (by omega))
      have hb1L : ((b + 1 : Nat) : Int) ≤ L := by omega
      have h5c : dup S 0 5 ((b + 1 : Nat) : Int) 0 5 = ((b + 1 : Nat) : Int) := by rw [dup_t, va_up_self]
      have h6c : dup S 0 5 ((b + 1 : Nat) : Int) 0 6 = -1 := by rw [dup_t, va_up_ne _ _ (by omega)]; exact h6
      have h3c : dup M 0 3 ((b + 1 : Nat) : Int) 0 3 = ((b + 1 : Nat) : Int) := by rw [dup_t, va_up_self]
      have h4c : dup M 0 3 ((b + 1 : Nat) : Int) 0 4 = -1 := by rw [dup_t, va_up_ne _ _ (by omega)]; exact h4
      have n1 := n_c (x := x) (N := N) (P := P) (K := K) (T := T) (m := m) (A := A) (h := h) tf (CT_f ct (j := 5) (by omega) ((b + 1 : Nat) : Int)) hb1L h5c h6c (rlo l) (rhi l)
      have n2 := n_m (mo := mo) (g := g) tf (MTp_f mt (j := 3) (by omega) ((b + 1 : Nat) : Int)) hb1L h3c h4c (rlo l) (rhi l)
      have hs := (skp_r (f := f) hb1L).2
      have wo := rnw_ok (L := L) (f := f) (lo := rlo l) (hi := rhi l) hs
      have wn := rnw_no (L := L) (f := f) (lo := rlo l) (hi := rhi l) hs
      have pr := (rnp_r (L := L) (f := f) 3 _ hs).2.1
      rw [dup_dup] at n1 n2
      generalize rnw L f (rlo l) (rhi l) (skp L f (b + 1)) = w at n1 n2 wo wn
      generalize rnv L f 3 (skp L f (b + 1)) 0 = v at n1 n2 wo
      generalize rnp L f 3 (skp L f (b + 1)) = p at n1 wo pr
      generalize rnq L f (rlo l) (rhi l) (skp L f (b + 1)) = q at n2 wo
      have hbw : am_w ((b : Int) + 1) = ((b + 1 : Nat) : Int) := am_w_nat1 (by omega)
      have hl00 : (0 : Int) ≤ (l : Int) := by omega
      have w2 := zv_w2 (x := x) (N := N) (P := P) (K := K) (T := T) (S := dup (dup S 0 5 (p : Int)) 0 6 w) (m := m) (A := A) (h := h) v hl00 hl1
      rw [Int.toNat_natCast] at w2
      have m2 := mv_w2 (m := mo) (M := dup (dup M 0 3 (q : Int)) 0 4 w) (h := g) v hl00 hl1
      rw [Int.toNat_natCast] at m2
      have g6 : dup (dup (dup S 0 5 (p : Int)) 0 6 w) 2 l v 0 6 = w := by rw [dup_o _ _ _ (by omega), dup_t, va_up_self]
      have g5 : dup (dup (dup S 0 5 (p : Int)) 0 6 w) 2 l v 0 5 = p := by rw [dup_o _ _ _ (by omega), dup_t, va_up_ne _ _ (by omega), dup_t, va_up_self]
      have g4 : dup (dup (dup M 0 3 (q : Int)) 0 4 w) 2 l v 0 4 = w := by rw [dup_o _ _ _ (by omega), dup_t, va_up_self]
      have g3 : dup (dup (dup M 0 3 (q : Int)) 0 4 w) 2 l v 0 3 = q := by rw [dup_o _ _ _ (by omega), dup_t, va_up_ne _ _ (by omega), dup_t, va_up_self]
      have sr : SR 2 S (dup (dup (dup S 0 5 (p : Int)) 0 6 w) 2 l v) := SR_trans (SR_trans (SR_f _ S (by omega) _) (SR_f _ _ (by omega) _)) (SR_r _ (by omega) _ _)
      have mr : MRd 2 M (dup (dup (dup M 0 3 (q : Int)) 0 4 w) 2 l v) := MRd_trans (MRd_trans (MRd_f _ M (by omega) _) (MRd_f _ _ (by omega) _)) (MRd_r _ (by omega) _ _)
      have ct2 := CT_SR ct sr (by omega)
      have mt2 := MTp_MRd mt mr (by omega)
      have rl := rk_4 (zv x N P K T (dup S 0 5 ((b + 1 : Nat) : Int)) m A h) hl7
      have rh := rk_5 (zv x N P K T (dup S 0 5 ((b + 1 : Nat) : Int)) m A h) hl7
      have k4 : Nat.beq 4 1 = false := rfl
      have k5 : Nat.beq 5 1 = false := rfl
      have ml := m_least (mv mo (dup M 0 3 ((b + 1 : Nat) : Int)) g) hl7
      have mh := m_most (mv mo (dup M 0 3 ((b + 1 : Nat) : Int)) g) hl7
      by_cases ew : w = -1
      · obtain ⟨hv, hq⟩ := wo ew
        have lk := l_m (mo := mo) (g := g) tf mt2 (a := q) (by rw [hq]; exact pr) g3
        have sp := m_spot (mv mo (dup (dup (dup (dup M 0 3 (q : Int)) 0 4 w) 2 l v) 0 3 (skp L f q : Int)) g) tx_19 (chm L f (skp L f q))
        rw [ix_m tx_19 tf] at sp
        have e1 : ixf 19 (chr L f (skp L f q)) = ixf 16 (chr L f (skp L f q)) := rfl
        rw [e1] at sp
        have kq : Nat.beq 19 1 = false := rfl
        obtain ⟨S', M', r1, r2, io⟩ := ih hk (dup (dup (dup S 0 5 (p : Int)) 0 6 w) 2 l v) (dup (dup (dup (dup M 0 3 (q : Int)) 0 4 w) 2 l v) 0 3 (skp L f q : Int)) p (am_or X (am_shl 1 (l : Int))) (am_I l) (am_I v) hor.2.1 hor.2.2 (by rw [hcn]; omega) ct2 (MTp_f mt2 (by omega) _) (by rw [g6]; exact ew) (by rw [dup_t, va_up_ne _ _ (by omega), g4]; exact ew) pr g5 (by rw [dup_t, va_up_self, hq]) (by
          have eS : dup (dup (dup S 0 5 (p : Int)) 0 6 w) 2 l v 2 = va_up (S 2) l v := by rw [dup_t, dup_o _ _ _ (by omega), dup_o _ _ _ (by omega)]
          have eM : dup (dup (dup (dup M 0 3 (q : Int)) 0 4 w) 2 l v) 0 3 (skp L f q : Int) 2 = va_up (M 2) l v := by rw [dup_o _ _ _ (by omega), dup_t, dup_o _ _ _ (by omega), dup_o _ _ _ (by omega)]
          have main : ∀ j, j < 7 → va_up (S 2) l v j = va_up (M 2) l v j ∧ rlo j ≤ va_up (S 2) l v j ∧ va_up (S 2) l v j ≤ rhi j := by
            intro j hj
            obtain ⟨a1, a2⟩ := ru j hj
            by_cases ej : j = l
            · rw [ej, va_up_self, va_up_self]
              exact ⟨rfl, hv⟩
            · rw [va_up_ne _ _ ej, va_up_ne _ _ (by omega)]
              exact ⟨a1, a2⟩
          unfold RUk
          rw [eS, eM]
          exact main)
        rw [hcn] at r1
        rw [← hq] at r2
        refine ⟨S', M', ?_, ?_, ⟨SR_trans sr io.1.1, MRd_trans (MRd_trans mr (MRd_f _ _ (by omega) _)) io.1.2⟩, io.2⟩
        · have hiw : am_w (((cnt (hasb X) 7 : Nat) : Int) + 1) = ((cnt (hasb X) 7 + 1 : Nat) : Int) := am_w_nat1 (by omega)
          have g6' : dup (dup (dup S 0 5 (p : Int)) 0 6 w) 2 l v 0 6 = -1 := by rw [g6]; exact ew
          simp only [hb1, hx1, c1, hi, zv_c3, u, ic, ix, hl0, hl1, bk_29_35, bk_29_40, bk_29_59, bk_29_82, bk_29_104, zv_l2, hbit, zv_f3_8, h5b, hbw, zv_p3_8, dup_dup, k4, k5, rl, rh, n1, w2, zv_f3_9, g6', hiw, r1, Option.bind_some, Bool.cond_decide, am_oI_some, am_oV_some, am_oI_ite, am_oV_ite, am_bind_ite, Int.toNat_natCast, Int.toNat_zero, Int.reduceToNat, ite_true, ite_false, not_true_eq_false, not_false_eq_true, decide_true, decide_false, decide_eq_true_eq, Bool.false_eq_true, Nat.add_zero, am_rok1_0, am_rok1_1, cond_true, cond_false, am_w_nat1, true_or, or_true, false_or, or_false, true_and, and_true, false_and, and_false, Int.reduceEq, Int.reduceNeg, Int.reduceLT, Int.reduceLE, or_self, and_self]
        · have g4' : dup (dup (dup M 0 3 (q : Int)) 0 4 w) 2 l v 0 4 = -1 := by rw [g4]; exact ew
          simp only [hln, mv_f0_4, h4, hh, mv_c0, bk_55_63, bk_55_86, bk_55_121, bk_55_150, bk_55_168, mv_f0_3, h3, hbw, mv_p0_3, ml, mh, n2, mv_f0_5, m2, g4', kq, lk, sp, r2, Int.one_ne_zero, Option.bind_some, Bool.cond_decide, am_oI_some, am_oV_some, am_oI_ite, am_oV_ite, am_bind_ite, Int.toNat_natCast, Int.toNat_zero, Int.reduceToNat, ite_true, ite_false, not_true_eq_false, not_false_eq_true, decide_true, decide_false, decide_eq_true_eq, Bool.false_eq_true, Nat.add_zero, am_rok1_0, am_rok1_1, cond_true, cond_false, am_w_nat1, true_or, or_true, false_or, or_false, true_and, and_true, false_and, and_false, Int.reduceEq, Int.reduceNeg, Int.reduceLT, Int.reduceLE, or_self, and_self]
      · refine ⟨dup (dup (dup S 0 5 (p : Int)) 0 6 w) 2 l v, dup (dup (dup M 0 3 (q : Int)) 0 4 w) 2 l v, ?_, ?_, ⟨sr, mr⟩, Or.inl ⟨by rw [g6]; exact wn ew, by rw [g4, g6]⟩⟩
        · have g6' : ¬ dup (dup (dup S 0 5 (p : Int)) 0 6 w) 2 l v 0 6 = -1 := by rw [g6]; exact ew
          simp only [hb1, hx1, c1, hi, zv_c3, u, ic, ix, hl0, hl1, bk_29_35, bk_29_40, bk_29_59, bk_29_82, zv_l2, hbit, zv_f3_8, h5b, hbw, zv_p3_8, dup_dup, k4, k5, rl, rh, n1, w2, zv_f3_9, g6', Option.bind_some, Bool.cond_decide, am_oI_some, am_oV_some, am_oI_ite, am_oV_ite, am_bind_ite, Int.toNat_natCast, Int.toNat_zero, Int.reduceToNat, ite_true, ite_false, not_true_eq_false, not_false_eq_true, decide_true, decide_false, decide_eq_true_eq, Bool.false_eq_true, Nat.add_zero, am_rok1_0, am_rok1_1, cond_true, cond_false, am_w_nat1, true_or, or_true, false_or, or_false, true_and, and_true, false_and, and_false, Int.reduceEq, Int.reduceNeg, Int.reduceLT, Int.reduceLE, or_self, and_self]
        · have g4' : ¬ dup (dup (dup M 0 3 (q : Int)) 0 4 w) 2 l v 0 4 = -1 := by rw [g4]; exact ew
          have r34 : am_run am_ms 55 34 [am_R mo, am_I 1, am_K 19, am_I ro, am_I (am_or X (am_shl 1 (l : Int))), am_I (l : Int), am_I v] [] (mv mo (dup (dup (dup M 0 3 (q : Int)) 0 4 w) 2 l v) g) = some (none, mv mo (dup (dup (dup M 0 3 (q : Int)) 0 4 w) 2 l v) g) := by
            rw [bk_55_34]
            simp only [hln, mv_f0_4, g4', bk_55_171, Option.bind_some, Bool.cond_decide, am_oI_some, am_oV_some, am_oI_ite, am_oV_ite, am_bind_ite, Int.toNat_natCast, Int.toNat_zero, Int.reduceToNat, ite_true, ite_false, not_true_eq_false, not_false_eq_true, decide_true, decide_false, decide_eq_true_eq, Bool.false_eq_true, Nat.add_zero, am_rok1_0, am_rok1_1, cond_true, cond_false, am_w_nat1, true_or, or_true, false_or, or_false, true_and, and_true, false_and, and_false, Int.reduceEq, Int.reduceNeg, Int.reduceLT, Int.reduceLE, or_self, and_self]
          simp only [hln, mv_f0_4, h4, hh, mv_c0, bk_55_63, bk_55_86, bk_55_121, bk_55_150, bk_55_168, mv_f0_3, h3, hbw, mv_p0_3, ml, mh, n2, mv_f0_5, m2, g4', r34, Int.one_ne_zero, Option.bind_some, Bool.cond_decide, am_oI_some, am_oV_some, am_oI_ite, am_oV_ite, am_bind_ite, Int.toNat_natCast, Int.toNat_zero, Int.reduceToNat, ite_true, ite_false, not_true_eq_false, not_false_eq_true, decide_true, decide_false, decide_eq_true_eq, Bool.false_eq_true, Nat.add_zero, am_rok1_0, am_rok1_1, cond_true, cond_false, am_w_nat1, true_or, or_true, false_or, or_false, true_and, and_true, false_and, and_false, Int.reduceEq, Int.reduceNeg, Int.reduceLT, Int.reduceLE, or_self, and_self]
end STEPR
section ITEMSR
variable {x mo m : Nat} {A : Nat → Nat} {N P K T : Nat → Nat → Int} {h g : am_H} {L : Int} {f : Nat → Int} {ro : Int}
theorem it_loopR (tf : TF L f) : ∀ (k : Nat) (S M : Nat → Nat → Int) (a : Nat) (X : Int) (y7 y6 : am_V), 0 ≤ X → X < 256 → cnt (hasb X) 7 + k = 7 → CT S L f → MTp M L f → S 0 6 = -1 → M 0 4 = -1 → (a : Int) ≤ L → S 0 5 = a → M 0 3 = skp L f a → RUk S M → ∃ S' M', am_run am_ms 29 6 [am_R (x + 3), am_K 16, am_K 4, am_K 5, am_R (x + 4), am_I X, am_I ((cnt (hasb X) 7 : Nat) : Int), y7] [] (zv x N P K T S m A h) = some (none, zv x N P K T S' m A h) ∧ am_run am_ms 55 34 [am_R mo, am_I 1, am_K 19, am_I ro, am_I X, am_I (ixf 16 (chr L f (skp L f a))), y6] [] (mv mo M g) = some (none, mv mo M' g) ∧ IO 2 2 RUk L f S M S' M' := by
  have h240 := tf.1
  intro k
  induction k with
  | zero =>
    intro S M a X y7 y6 hX0 hX1 hc ct mt h6 h4 ha h5 h3 ru
    exact it_stepR (k := 0) tf S M a X y7 y6 hX0 hX1 hc ct mt h6 h4 ha h5 h3 ru (fun e => absurd e (by omega))
  | succ k ih =>
    intro S M a X y7 y6 hX0 hX1 hc ct mt h6 h4 ha h5 h3 ru
    exact it_stepR (k := k + 1) tf S M a X y7 y6 hX0 hX1 hc ct mt h6 h4 ha h5 h3 ru (fun _ S M a X y7 y6 h1 h2 h3 => ih S M a X y7 y6 h1 h2 (by omega))
/-- the reading of items -/
theorem itemsR (tf : TF L f) {S M : Nat → Nat → Int} {a : Nat} (ps : PS S M L f a) (ru : RUk S M) : ∃ S' M', am_cV 29 [am_R (x + 3), am_K 16, am_K 4, am_K 5, am_R (x + 4)] (zv x N P K T S m A h) = some (zv x N P K T S' m A h) ∧ am_cV 55 [am_R mo, am_I 1] (mv mo M g) = some (mv mo M' g) ∧ IO 2 2 RUk L f S M S' M' := by
  obtain ⟨⟨ct, mt⟩, ⟨h6, h4⟩, ha, h5, h3⟩ := ps
  have hc0 : cnt (hasb 0) 7 = 0 := by decide +kernel
  have l := l_m (mo := mo) (g := g) tf mt ha h3
  have sp := m_spot (mv mo (dup M 0 3 (skp L f a : Int)) g) tx_19 (chm L f (skp L f a))
  rw [ix_m tx_19 tf] at sp
  obtain ⟨S', M', r1, r2, io⟩ := it_loopR (x := x) (mo := mo) (m := m) (A := A) (N := N) (P := P) (K := K) (T := T) (h := h) (g := g) tf (ro := am_w (2 * am_w (M 0 11 - 1))) 7 S (dup M 0 3 (skp L f a : Int)) a 0 (am_K 1) (am_K 1) (by omega) (by omega) (by omega) ct (MTp_f mt (by omega) _) h6 (by rw [dup_t, va_up_ne _ _ (by omega)]; exact h4) ha h5 (by rw [dup_t, va_up_self]) (by intro j hj; rw [dup_o _ _ _ (by omega)]; exact ru j hj)
  rw [hc0] at r1
  refine ⟨S', M', ?_, ?_, ⟨⟨io.1.1, MRd_trans (MRd_f _ M (by omega) _) io.1.2⟩, io.2⟩⟩
  · rw [am_cV, en_29, bk_29_0]
    have r1' : am_run am_ms 29 6 [am_R (x + 3), am_K 16, am_K 4, am_K 5, am_R (x + 4), am_I 0, am_I 0, am_K 1] [] (zv x N P K T S m A h) = some (none, zv x N P K T S' m A h) := r1
    rw [r1', am_oV_some]
  · have e1 : ixf 19 (chr L f (skp L f a)) = ixf 16 (chr L f (skp L f a)) := rfl
    rw [e1] at sp
    have eb : Nat.beq 19 0 = false := rfl
    have eb2 : Nat.beq 19 1 = false := rfl
    have e11 : dup M 0 3 (skp L f a : Int) 0 11 = M 0 11 := by rw [dup_t, va_up_ne _ _ (by omega)]
    rw [am_cV]
    simp only [en_55, bk_55_0, bk_55_9, bk_55_11, bk_55_32, mv_f0_11, mv_c0, l, sp, eb, eb2, Bool.not_false, Bool.and_self, r2, Int.one_ne_zero, Option.bind_some, Bool.cond_decide, am_oI_some, am_oV_some, am_oI_ite, am_oV_ite, am_bind_ite, Int.toNat_natCast, Int.toNat_zero, Int.reduceToNat, ite_true, ite_false, not_true_eq_false, not_false_eq_true, decide_true, decide_false, decide_eq_true_eq, Bool.false_eq_true, Nat.add_zero, am_rok1_0, am_rok1_1, cond_true, cond_false, am_w_nat1, true_or, or_true, false_or, or_false, true_and, and_true, false_and, and_false, Int.reduceEq, Int.reduceNeg, Int.reduceLT, Int.reduceLE, or_self, and_self]
end ITEMSR
