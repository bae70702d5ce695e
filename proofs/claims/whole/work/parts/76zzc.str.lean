/-! ===== texts: their letters ===== -/
def lts (q : Nat) : List Int := (am_kar (q + 16)).2
/-- a text that can be asked -/
def TX (q : Nat) : Prop := (Nat.beq q 1 = false ∧ am_istx q = true ∧ Nat.beq (q + 16) 1 = false) ∧ (am_kar (q + 16)).1 = 1 ∧ ¬ q + 16 = 2 ∧ (1 ≤ (lts q).length ∧ (lts q).length ≤ 9) ∧ ∀ j, j < (lts q).length → 97 ≤ (lts q).getD j 0 ∧ (lts q).getD j 0 ≤ 122
theorem tx_16 : TX 16 := ⟨⟨rfl, rfl, rfl⟩, rfl, by decide, by decide, by decide⟩
theorem tx_17 : TX 17 := ⟨⟨rfl, rfl, rfl⟩, rfl, by decide, by decide, by decide⟩
theorem tx_18 : TX 18 := ⟨⟨rfl, rfl, rfl⟩, rfl, by decide, by decide, by decide⟩
theorem tx_19 : TX 19 := ⟨⟨rfl, rfl, rfl⟩, rfl, by decide, by decide, by decide⟩
theorem tx_20 : TX 20 := ⟨⟨rfl, rfl, rfl⟩, rfl, by decide, by decide, by decide⟩
theorem tx_21 : TX 21 := ⟨⟨rfl, rfl, rfl⟩, rfl, by decide, by decide, by decide⟩
theorem shr_0 : ∀ n : Fin 16, am_shr ((n.val : Nat) : Int) 0 = ((n.val : Nat) : Int) := by decide +kernel
theorem i2b_v : ∀ b : Fin 256, am_i2b ((b.val : Nat) : Int) = (if b.val < 128 then ((b.val : Nat) : Int) else ((b.val : Nat) : Int) - 256) ∧ am_i2c ((b.val : Nat) : Int) = ((b.val : Nat) : Int) ∧ am_i2c (am_and ((b.val : Nat) : Int) 255) = ((b.val : Nat) : Int) := by decide +kernel
theorem i2b_eq {v c : Int} (hv : 0 ≤ v ∧ v ≤ 127) (hc : 0 ≤ c ∧ c ≤ 255) : (v = am_i2b c) ↔ (v = c) := by
  obtain ⟨k, rfl⟩ : ∃ k : Nat, c = k := ⟨c.toNat, by omega⟩
  have h := (i2b_v ⟨k, by omega⟩).1
  have h' : am_i2b (k : Int) = (if k < 128 then (k : Int) else (k : Int) - 256) := h
  rw [h']
  split <;> omega
theorem i2c_id {c : Int} (hc : 0 ≤ c ∧ c ≤ 255) : am_i2c c = c := by
  obtain ⟨k, rfl⟩ : ∃ k : Nat, c = k := ⟨c.toNat, by omega⟩
  exact (i2b_v ⟨k, by omega⟩).2.1
theorem i2c_and {c : Int} (hc : 0 ≤ c ∧ c ≤ 255) : am_i2c (am_and c 255) = c := by
  obtain ⟨k, rfl⟩ : ∃ k : Nat, c = k := ⟨c.toNat, by omega⟩
  exact (i2b_v ⟨k, by omega⟩).2.2
theorem rok2 {c : Int} (hc : 0 ≤ c ∧ c ≤ 255) : am_rok 2 c = true := by
  show (decide (0 ≤ c) && decide (c < 65536)) = true
  rw [decide_eq_true (show 0 ≤ c by omega), decide_eq_true (show c < 65536 by omega)]
  rfl
theorem rok3_0 : am_rok 3 0 = true := rfl
section STR
variable {q : Nat}
theorem tx_len (h : am_H) (tx : TX q) : am_lenk h (q + 16) = some ((lts q).length : Int) := by
  unfold am_lenk
  rw [if_neg tx.2.2.1, if_neg (by rw [tx.2.1]; omega)]
  rfl
theorem tx_rk (h : am_H) (tx : TX q) {j : Nat} (hj : j < (lts q).length) : am_rk h (q + 16) 1 (j : Int) = some ((lts q).getD j 0) := by
  unfold am_rk
  rw [if_neg tx.2.2.1, if_pos ⟨tx.2.1, by omega⟩, Int.toNat_natCast]
  show (lts q)[j]? = some ((lts q).getD j 0)
  rw [List.getD_eq_getElem?_getD, List.getElem?_eq_getElem hj]
  rfl
theorem s_coder (h : am_H) (tx : TX q) : am_cI 19 [am_K q] h = some (0, h) := by
  have h1 := tx.1.1
  have h2 := tx.1.2.1
  rw [am_cI]; simp only [en_19, bk_19_0, bk_19_13, bk_19_14, h1, h2, rok3_0, Option.bind_some, Bool.cond_decide, am_oI_some, am_oV_some, am_oI_ite, am_oV_ite, am_bind_ite, Int.toNat_natCast, Int.toNat_zero, Int.reduceToNat, ite_true, ite_false, not_true_eq_false, not_false_eq_true, decide_true, decide_false, decide_eq_true_eq, Bool.false_eq_true, Nat.add_zero, am_rok1_0, am_rok1_1, cond_true, cond_false, am_w_nat1, true_or, or_true, false_or, or_false, true_and, and_true, false_and, and_false, Int.reduceEq, Int.reduceNeg, Int.reduceLT, Int.reduceLE, or_self, and_self, Nat.reduceEqDiff, eq_self]
theorem s_latin (h : am_H) (tx : TX q) : am_cI 21 [am_K q] h = some (1, h) := by
  have h1 := tx.1.1
  have h2 := tx.1.2.1
  rw [am_cI]; simp only [en_21, bk_21_0, bk_21_17, bk_21_18, h1, h2, Option.bind_some, Bool.cond_decide, am_oI_some, am_oV_some, am_oI_ite, am_oV_ite, am_bind_ite, Int.toNat_natCast, Int.toNat_zero, Int.reduceToNat, ite_true, ite_false, not_true_eq_false, not_false_eq_true, decide_true, decide_false, decide_eq_true_eq, Bool.false_eq_true, Nat.add_zero, am_rok1_0, am_rok1_1, cond_true, cond_false, am_w_nat1, true_or, or_true, false_or, or_false, true_and, and_true, false_and, and_false, Int.reduceEq, Int.reduceNeg, Int.reduceLT, Int.reduceLE, or_self, and_self, Nat.reduceEqDiff, eq_self]
theorem s_length (h : am_H) (tx : TX q) : am_cI 20 [am_K q] h = some (((lts q).length : Int), h) := by
  have h1 := tx.1.1
  have h2 := tx.1.2.1
  have h3 := tx_len h tx
  have h4 := s_coder h tx
  have h5 : am_shr ((lts q).length : Int) 0 = ((lts q).length : Int) := shr_0 ⟨(lts q).length, by have := tx.2.2.2.1.2; omega⟩
  rw [am_cI]; simp only [en_20, bk_20_0, h1, h2, h3, h4, h5, Option.bind_some, Bool.cond_decide, am_oI_some, am_oV_some, am_oI_ite, am_oV_ite, am_bind_ite, Int.toNat_natCast, Int.toNat_zero, Int.reduceToNat, ite_true, ite_false, not_true_eq_false, not_false_eq_true, decide_true, decide_false, decide_eq_true_eq, Bool.false_eq_true, Nat.add_zero, am_rok1_0, am_rok1_1, cond_true, cond_false, am_w_nat1, true_or, or_true, false_or, or_false, true_and, and_true, false_and, and_false, Int.reduceEq, Int.reduceNeg, Int.reduceLT, Int.reduceLE, or_self, and_self]
/-- where a letter stands in a text (nowhere: -1) -/
def ixf (q : Nat) (c : Int) : Int := fnd (fun j => decide ((lts q).getD j 0 = c)) (lts q).length
theorem ixf_r (tx : TX q) (c : Int) : (ixf q c = -1 ∧ ∀ j, j < (lts q).length → (lts q).getD j 0 ≠ c) ∨ ∃ k : Nat, ixf q c = k ∧ k < (lts q).length ∧ (lts q).getD k 0 = c ∧ ∀ j, j < k → (lts q).getD j 0 ≠ c := by
  rcases first_or (fun j => decide ((lts q).getD j 0 = c)) (lts q).length with e | ⟨k, e1, e2, e3⟩
  · exact Or.inl ⟨fnd_none e, fun j hj => of_decide_eq_false (e j hj)⟩
  · exact Or.inr ⟨k, fnd_at e2 e3 _ e1, e1, of_decide_eq_true e2, fun j hj => of_decide_eq_false (e3 j hj)⟩
theorem ixf_no (tx : TX q) {c : Int} (hc : c < 97) : ixf q c = -1 := by
  rcases ixf_r tx c with e | ⟨k, _, e1, e2, _⟩
  · exact e.1
  · have := tx.2.2.2.2 k e1
    omega
theorem s_ioc (h : am_H) (tx : TX q) {c : Int} (hc : 0 ≤ c ∧ c ≤ 255) : am_cI 23 [am_K (q + 16), am_I c, am_I 0, am_I (lts q).length] h = some (ixf q c, h) := by
  have h3 := tx.1.2.2
  have hl := tx.2.2.2.1
  have step : ∀ j : Nat, j < (lts q).length → (lts q).getD j 0 ≠ c → am_run am_ms 23 7 [am_K (q + 16), am_I c, am_I 0, am_I (lts q).length, am_I (am_i2b c), am_I j] [] h = am_run am_ms 23 7 [am_K (q + 16), am_I c, am_I 0, am_I (lts q).length, am_I (am_i2b c), am_I ((j + 1 : Nat) : Int)] [] h := by
    intro j hj hne
    have hr := tx_rk h tx hj
    have hb := tx.2.2.2.2 j hj
    have hne' : ¬ (lts q).getD j 0 = am_i2b c := fun e => hne ((i2b_eq ⟨by omega, by omega⟩ hc).mp e)
    rw [bk_23_7]
    simp (disch := omega) only [bk_23_25, h3, hr, hne', Option.bind_some, Bool.cond_decide, am_oI_some, am_oV_some, am_oI_ite, am_oV_ite, am_bind_ite, Int.toNat_natCast, Int.toNat_zero, Int.reduceToNat, ite_true, ite_false, not_true_eq_false, not_false_eq_true, decide_true, decide_false, decide_eq_true_eq, Bool.false_eq_true, Nat.add_zero, am_rok1_0, am_rok1_1, cond_true, cond_false, am_w_nat1, true_or, or_true, false_or, or_false, true_and, and_true, false_and, and_false, Int.reduceEq, Int.reduceNeg, Int.reduceLT, Int.reduceLE, or_self, and_self, if_pos, if_neg]
  rcases ixf_r tx c with ⟨e, en⟩ | ⟨k, e, hk, ek, en⟩
  · have key := loop_to (fun j : Nat => am_run am_ms 23 7 [am_K (q + 16), am_I c, am_I 0, am_I (lts q).length, am_I (am_i2b c), am_I j] [] h) (lts q).length (fun j hj => step j hj (en j hj))
    have key' : am_run am_ms 23 7 [am_K (q + 16), am_I c, am_I 0, am_I (lts q).length, am_I (am_i2b c), am_I 0] [] h = am_run am_ms 23 7 [am_K (q + 16), am_I c, am_I 0, am_I (lts q).length, am_I (am_i2b c), am_I (lts q).length] [] h := key
    rw [e, am_cI, en_23, bk_23_0, key', bk_23_7]
    simp (disch := omega) only [bk_23_31, Option.bind_some, Bool.cond_decide, am_oI_some, am_oV_some, am_oI_ite, am_oV_ite, am_bind_ite, Int.toNat_natCast, Int.toNat_zero, Int.reduceToNat, ite_true, ite_false, not_true_eq_false, not_false_eq_true, decide_true, decide_false, decide_eq_true_eq, Bool.false_eq_true, Nat.add_zero, am_rok1_0, am_rok1_1, cond_true, cond_false, am_w_nat1, true_or, or_true, false_or, or_false, true_and, and_true, false_and, and_false, Int.reduceEq, Int.reduceNeg, Int.reduceLT, Int.reduceLE, or_self, and_self, if_pos, if_neg, Int.le_refl]
  · have key := loop_to (fun j : Nat => am_run am_ms 23 7 [am_K (q + 16), am_I c, am_I 0, am_I (lts q).length, am_I (am_i2b c), am_I j] [] h) k (fun j hj => step j (by omega) (en j hj))
    have key' : am_run am_ms 23 7 [am_K (q + 16), am_I c, am_I 0, am_I (lts q).length, am_I (am_i2b c), am_I 0] [] h = am_run am_ms 23 7 [am_K (q + 16), am_I c, am_I 0, am_I (lts q).length, am_I (am_i2b c), am_I k] [] h := key
    have hr := tx_rk h tx hk
    have hb := tx.2.2.2.2 k hk
    have he : (lts q).getD k 0 = am_i2b c := (i2b_eq ⟨by omega, by omega⟩ hc).mpr ek
    rw [e, am_cI, en_23, bk_23_0, key', bk_23_7]
    simp (disch := omega) only [h3, hr, he, Option.bind_some, Bool.cond_decide, am_oI_some, am_oV_some, am_oI_ite, am_oV_ite, am_bind_ite, Int.toNat_natCast, Int.toNat_zero, Int.reduceToNat, ite_true, ite_false, not_true_eq_false, not_false_eq_true, decide_true, decide_false, decide_eq_true_eq, Bool.false_eq_true, Nat.add_zero, am_rok1_0, am_rok1_1, cond_true, cond_false, am_w_nat1, true_or, or_true, false_or, or_false, true_and, and_true, false_and, and_false, Int.reduceEq, Int.reduceNeg, Int.reduceLT, Int.reduceLE, or_self, and_self, if_pos, if_neg]
theorem s_can (h : am_H) {c : Int} (hc : 0 ≤ c ∧ c ≤ 255) : am_cI 22 [am_I c] h = some (1, h) := by
  rw [am_cI]; simp (disch := omega) only [en_22, bk_22_0, bk_22_15, bk_22_16, Option.bind_some, Bool.cond_decide, am_oI_some, am_oV_some, am_oI_ite, am_oV_ite, am_bind_ite, Int.toNat_natCast, Int.toNat_zero, Int.reduceToNat, ite_true, ite_false, not_true_eq_false, not_false_eq_true, decide_true, decide_false, decide_eq_true_eq, Bool.false_eq_true, Nat.add_zero, am_rok1_0, am_rok1_1, cond_true, cond_false, am_w_nat1, true_or, or_true, false_or, or_false, true_and, and_true, false_and, and_false, Int.reduceEq, Int.reduceNeg, Int.reduceLT, Int.reduceLE, or_self, and_self, if_pos, if_neg]
theorem s_io (h : am_H) (tx : TX q) {c : Int} (hc : 0 ≤ c ∧ c ≤ 255) : am_cI 24 [am_K (q + 16), am_I c, am_I 0, am_I (lts q).length] h = some (ixf q c, h) := by
  have h3 := tx.1.2.2
  have hl := tx.2.2.2.1
  have c1 := s_can h hc
  have c2 := s_ioc h tx hc
  have c3 := tx_len h tx
  have e1 : am_max 0 0 = 0 := rfl
  have e2 : am_min ((lts q).length : Int) ((lts q).length : Int) = ((lts q).length : Int) := by unfold am_min; rw [if_neg (by omega)]
  have e3 : (0 : Int) < ((lts q).length : Int) := by omega
  rw [am_cI]; simp only [en_24, bk_24_0, bk_24_9, bk_24_29, h3, c1, c2, c3, e1, e2, e3, Option.bind_some, Bool.cond_decide, am_oI_some, am_oV_some, am_oI_ite, am_oV_ite, am_bind_ite, Int.toNat_natCast, Int.toNat_zero, Int.reduceToNat, ite_true, ite_false, not_true_eq_false, not_false_eq_true, decide_true, decide_false, decide_eq_true_eq, Bool.false_eq_true, Nat.add_zero, am_rok1_0, am_rok1_1, cond_true, cond_false, am_w_nat1, true_or, or_true, false_or, or_false, true_and, and_true, false_and, and_false, Int.reduceEq, Int.reduceNeg, Int.reduceLT, Int.reduceLE, or_self, and_self]
theorem s_idx2 (h : am_H) (tx : TX q) {c : Int} (hc : 0 ≤ c ∧ c ≤ 255) : am_cI 25 [am_K q, am_I c, am_I 0] h = some (ixf q c, h) := by
  have h1 := tx.1.1
  have h2 := tx.1.2.1
  have c1 := s_latin h tx
  have c2 := s_length h tx
  have c3 := s_io h tx hc
  rw [am_cI]; simp only [en_25, bk_25_0, bk_25_23, bk_25_36, h1, h2, c1, c2, c3, Option.bind_some, Bool.cond_decide, am_oI_some, am_oV_some, am_oI_ite, am_oV_ite, am_bind_ite, Int.toNat_natCast, Int.toNat_zero, Int.reduceToNat, ite_true, ite_false, not_true_eq_false, not_false_eq_true, decide_true, decide_false, decide_eq_true_eq, Bool.false_eq_true, Nat.add_zero, am_rok1_0, am_rok1_1, cond_true, cond_false, am_w_nat1, true_or, or_true, false_or, or_false, true_and, and_true, false_and, and_false, Int.reduceEq, Int.reduceNeg, Int.reduceLT, Int.reduceLE, or_self, and_self]
theorem s_idx (h : am_H) (tx : TX q) {c : Int} (hc : 0 ≤ c ∧ c ≤ 255) : am_cI 26 [am_K q, am_I c] h = some (ixf q c, h) := by
  have h1 := tx.1.1
  have h2 := tx.1.2.1
  have c1 := s_idx2 h tx hc
  rw [am_cI]; simp only [en_26, bk_26_0, h1, h2, c1, Option.bind_some, Bool.cond_decide, am_oI_some, am_oV_some, am_oI_ite, am_oV_ite, am_bind_ite, Int.toNat_natCast, Int.toNat_zero, Int.reduceToNat, ite_true, ite_false, not_true_eq_false, not_false_eq_true, decide_true, decide_false, decide_eq_true_eq, Bool.false_eq_true, Nat.add_zero, am_rok1_0, am_rok1_1, cond_true, cond_false, am_w_nat1, true_or, or_true, false_or, or_false, true_and, and_true, false_and, and_false, Int.reduceEq, Int.reduceNeg, Int.reduceLT, Int.reduceLE, or_self, and_self]
theorem s_pre (h : am_H) {j n : Nat} (hj : j < n) (k : Nat) : am_cI 44 [am_I j, am_I n, am_K k] h = some ((j : Int), h) := by
  rw [am_cI]; simp (disch := omega) only [en_44, bk_44_0, bk_44_16, Option.bind_some, Bool.cond_decide, am_oI_some, am_oV_some, am_oI_ite, am_oV_ite, am_bind_ite, Int.toNat_natCast, Int.toNat_zero, Int.reduceToNat, ite_true, ite_false, not_true_eq_false, not_false_eq_true, decide_true, decide_false, decide_eq_true_eq, Bool.false_eq_true, Nat.add_zero, am_rok1_0, am_rok1_1, cond_true, cond_false, am_w_nat1, true_or, or_true, false_or, or_false, true_and, and_true, false_and, and_false, Int.reduceEq, Int.reduceNeg, Int.reduceLT, Int.reduceLE, or_self, and_self, if_pos, if_neg]
theorem s_chk (h : am_H) {j n : Nat} (hj : j < n) : am_cV 45 [am_I j, am_I n] h = some h := by
  have c1 := s_pre h hj 40
  rw [am_cV]; simp only [en_45, bk_45_0, c1, Option.bind_some, Bool.cond_decide, am_oI_some, am_oV_some, am_oI_ite, am_oV_ite, am_bind_ite, Int.toNat_natCast, Int.toNat_zero, Int.reduceToNat, ite_true, ite_false, not_true_eq_false, not_false_eq_true, decide_true, decide_false, decide_eq_true_eq, Bool.false_eq_true, Nat.add_zero, am_rok1_0, am_rok1_1, cond_true, cond_false, am_w_nat1, true_or, or_true, false_or, or_false, true_and, and_true, false_and, and_false, Int.reduceEq, Int.reduceNeg, Int.reduceLT, Int.reduceLE, or_self, and_self]
theorem s_ch1 (h : am_H) (tx : TX q) {j : Nat} (hj : j < (lts q).length) : am_cI 46 [am_K (q + 16), am_I j] h = some ((lts q).getD j 0, h) := by
  have h3 := tx.1.2.2
  have c1 := s_chk h hj
  have c2 := tx_len h tx
  have c3 := tx_rk h tx hj
  have hb := tx.2.2.2.2 j hj
  have c4 := i2c_and (c := (lts q).getD j 0) ⟨by omega, by omega⟩
  have c5 := rok2 (c := (lts q).getD j 0) ⟨by omega, by omega⟩
  rw [am_cI]; simp only [en_46, bk_46_0, h3, c1, c2, c3, c4, c5, Option.bind_some, Bool.cond_decide, am_oI_some, am_oV_some, am_oI_ite, am_oV_ite, am_bind_ite, Int.toNat_natCast, Int.toNat_zero, Int.reduceToNat, ite_true, ite_false, not_true_eq_false, not_false_eq_true, decide_true, decide_false, decide_eq_true_eq, Bool.false_eq_true, Nat.add_zero, am_rok1_0, am_rok1_1, cond_true, cond_false, am_w_nat1, true_or, or_true, false_or, or_false, true_and, and_true, false_and, and_false, Int.reduceEq, Int.reduceNeg, Int.reduceLT, Int.reduceLE, or_self, and_self]
theorem s_char (h : am_H) (tx : TX q) {j : Nat} (hj : j < (lts q).length) : am_cI 47 [am_K q, am_I j] h = some ((lts q).getD j 0, h) := by
  have h1 := tx.1.1
  have h2 := tx.1.2.1
  have c1 := s_latin h tx
  have c2 := s_ch1 h tx hj
  have hb := tx.2.2.2.2 j hj
  have c5 := rok2 (c := (lts q).getD j 0) ⟨by omega, by omega⟩
  rw [am_cI]; simp only [en_47, bk_47_0, h1, h2, c1, c2, c5, Option.bind_some, Bool.cond_decide, am_oI_some, am_oV_some, am_oI_ite, am_oV_ite, am_bind_ite, Int.toNat_natCast, Int.toNat_zero, Int.reduceToNat, ite_true, ite_false, not_true_eq_false, not_false_eq_true, decide_true, decide_false, decide_eq_true_eq, Bool.false_eq_true, Nat.add_zero, am_rok1_0, am_rok1_1, cond_true, cond_false, am_w_nat1, true_or, or_true, false_or, or_false, true_and, and_true, false_and, and_false, Int.reduceEq, Int.reduceNeg, Int.reduceLT, Int.reduceLE, or_self, and_self]
theorem m_spot (h : am_H) (tx : TX q) (c : Int) : am_cI 48 [am_K q, am_I c] h = some (ixf q c, h) := by
  have h1 := tx.1.1
  have h2 := tx.1.2.1
  have hl := tx.2.2.2.1
  have c1 := s_length h tx
  have step : ∀ j : Nat, j < (lts q).length → (lts q).getD j 0 ≠ c → am_run am_ms 48 2 [am_K q, am_I c, am_I j] [] h = am_run am_ms 48 2 [am_K q, am_I c, am_I ((j + 1 : Nat) : Int)] [] h := by
    intro j hj hne
    have c2 := s_char h tx hj
    rw [bk_48_2]
    simp (disch := omega) only [bk_48_21, h1, h2, c1, c2, hne, Option.bind_some, Bool.cond_decide, am_oI_some, am_oV_some, am_oI_ite, am_oV_ite, am_bind_ite, Int.toNat_natCast, Int.toNat_zero, Int.reduceToNat, ite_true, ite_false, not_true_eq_false, not_false_eq_true, decide_true, decide_false, decide_eq_true_eq, Bool.false_eq_true, Nat.add_zero, am_rok1_0, am_rok1_1, cond_true, cond_false, am_w_nat1, true_or, or_true, false_or, or_false, true_and, and_true, false_and, and_false, Int.reduceEq, Int.reduceNeg, Int.reduceLT, Int.reduceLE, or_self, and_self, if_pos, if_neg]
  rcases ixf_r tx c with ⟨e, en⟩ | ⟨k, e, hk, ek, en⟩
  · have key := loop_to (fun j : Nat => am_run am_ms 48 2 [am_K q, am_I c, am_I j] [] h) (lts q).length (fun j hj => step j hj (en j hj))
    have key' : am_run am_ms 48 2 [am_K q, am_I c, am_I 0] [] h = am_run am_ms 48 2 [am_K q, am_I c, am_I (lts q).length] [] h := key
    rw [e, am_cI, en_48, bk_48_0, key', bk_48_2]
    simp (disch := omega) only [bk_48_27, h1, h2, c1, Option.bind_some, Bool.cond_decide, am_oI_some, am_oV_some, am_oI_ite, am_oV_ite, am_bind_ite, Int.toNat_natCast, Int.toNat_zero, Int.reduceToNat, ite_true, ite_false, not_true_eq_false, not_false_eq_true, decide_true, decide_false, decide_eq_true_eq, Bool.false_eq_true, Nat.add_zero, am_rok1_0, am_rok1_1, cond_true, cond_false, am_w_nat1, true_or, or_true, false_or, or_false, true_and, and_true, false_and, and_false, Int.reduceEq, Int.reduceNeg, Int.reduceLT, Int.reduceLE, or_self, and_self, if_pos, if_neg, Int.le_refl]
  · have key := loop_to (fun j : Nat => am_run am_ms 48 2 [am_K q, am_I c, am_I j] [] h) k (fun j hj => step j (by omega) (en j hj))
    have key' : am_run am_ms 48 2 [am_K q, am_I c, am_I 0] [] h = am_run am_ms 48 2 [am_K q, am_I c, am_I k] [] h := key
    have c2 := s_char h tx hk
    rw [e, am_cI, en_48, bk_48_0, key', bk_48_2]
    simp (disch := omega) only [h1, h2, c1, c2, ek, Option.bind_some, Bool.cond_decide, am_oI_some, am_oV_some, am_oI_ite, am_oV_ite, am_bind_ite, Int.toNat_natCast, Int.toNat_zero, Int.reduceToNat, ite_true, ite_false, not_true_eq_false, not_false_eq_true, decide_true, decide_false, decide_eq_true_eq, Bool.false_eq_true, Nat.add_zero, am_rok1_0, am_rok1_1, cond_true, cond_false, am_w_nat1, true_or, or_true, false_or, or_false, true_and, and_true, false_and, and_false, Int.reduceEq, Int.reduceNeg, Int.reduceLT, Int.reduceLE, or_self, and_self, if_pos, if_neg]
end STR
