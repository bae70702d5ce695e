/-! ===== BRIDGE (7): what an appended block changes ===== -/
theorem o_at1_o (D : Nat → Nat → Int) (Z s : Nat) {r : Nat} (h1 : r ≠ 1) (h2 : r ≠ 2) (h6 : r ≠ 6) (hr : r < 13 ∨ 16 < r) : o_at1 D Z s r = D r := by
  unfold o_at1 o_tk
  split
  · rw [dup_o _ _ _ h6, o_tk0_o _ _ h1 h2 hr]
  · rfl
theorem tk0_full {D : Nat → Nat → Int} {Z t : Nat} (h : D 2 t = 3) : o_tk0 D Z 2 t = 3 := by
  unfold o_tk0
  split
  · rw [dup_o _ _ _ (by omega)]
    unfold o_fi
    rw [lga_o _ _ _ _ (by omega), dup_t]
    by_cases e : t = (cd_zf D Z).toNat
    · rw [e, va_up_self]
    · rw [va_up_ne _ _ e, h]
  · exact h
theorem at1_full {D : Nat → Nat → Int} {Z s t : Nat} (h : D 2 t = 3) : o_at1 D Z s 2 t = 3 := by
  unfold o_at1 o_tk
  split
  · rw [dup_o _ _ _ (by omega)]; exact tk0_full h
  · exact h
section BRG7
variable {D A : Nat → Nat → Int} {Z : Nat} {md : Bool} {O : Nat → Int} {T : Int}
/-- appending, in short: to a zone of a drive that is like the one before -/
theorem at_form (iv : IV D Z 3) {s : Nat} (hl : cd_lz (o_at1 D Z s) s = false) : ∃ (z : Nat) (F : Nat → Nat → Int), z < Z ∧ (∀ key val num sort, o_at D Z s key val num sort = o_ap F z key val num sort) ∧ v_at D Z s = ((16 * z + (D 3 z).toNat : Nat) : Int) ∧ D 3 z < D 0 1 ∧ (∀ r, r ≠ 1 → r ≠ 2 → r ≠ 6 → r < 13 → F r = D r) ∧ (∀ j, j ≠ 6 → j ≠ 7 → F 1 j = D 1 j) ∧ F 2 z = 1 ∧ ∀ t, D 2 t = 3 → F 2 t = 3 ∧ t ≠ z := by
  have di := iv.1.1
  have w1 := o_at1_DI di s
  have h1 := cd_lz_no hl
  rw [o_at1_0, di.1.1] at h1
  obtain ⟨z, hz⟩ : ∃ z : Nat, o_at1 D Z s 6 s = z := ⟨(o_at1 D Z s 6 s).toNat, by omega⟩
  rw [hz, Int.toNat_natCast] at h1
  have h3 := (w1.2.1 z (by omega)).2 h1.2
  rw [o_at1_3, o_at1_0] at h3
  have e22 : o_at2 (o_at1 D Z s) Z s 2 z = 1 := by have := o_at2_2 (o_at1 D Z s) Z s; rw [hz, Int.toNat_natCast] at this; exact this
  refine ⟨z, o_at2 (o_at1 D Z s) Z s, by omega, ?_, ?_, h3, ?_, ?_, e22, ?_⟩
  · intro key val num sort
    unfold o_at
    rw [hl, if_neg (by decide), hz, Int.toNat_natCast]
  · unfold v_at
    rw [hl, if_neg (by decide), hz, Int.toNat_natCast, o_at1_3]
  · intro r r1 r2 r6 r13
    rw [o_at2_o _ _ _ r1 r2 (Or.inl r13), o_at1_o _ _ _ r1 r2 r6 (Or.inl r13)]
  · intro j j6 j7
    rw [o_at2_14 _ _ _ j6, o_at1_14 _ _ _ j7]
  · intro t ht
    have hE := at1_full (Z := Z) (s := s) ht
    have hne : t ≠ z := fun q => h1.2 (by rw [← q]; exact hE)
    refine ⟨?_, hne⟩
    unfold o_at2
    split
    · exact hE
    · unfold o_op
      rw [hz, Int.toNat_natCast, dup_t, va_up_ne _ _ hne, op0_at (by omega)]
      exact hE
/-- the rows behind it -/
theorem at_rows (iv : IV D Z 3) {s : Nat} (hl : cd_lz (o_at1 D Z s) s = false) (key val num : Int) {sort : Nat} (hso : sort < 2) : ∃ q : Nat, q < 128 ∧ v_at D Z s = q ∧ cd_has D q = false ∧ (∀ p, cd_has (o_at D Z s key val num sort) p = (cd_has D p || decide (p = q))) ∧ (∀ p, p ≠ q → o_at D Z s key val num sort 7 p = D 7 p ∧ o_at D Z s key val num sort 8 p = D 8 p ∧ o_at D Z s key val num sort 9 p = D 9 p) ∧ (o_at D Z s key val num sort 7 q = key ∧ o_at D Z s key val num sort 8 q = val ∧ o_at D Z s key val num sort 9 q = num) ∧ (∀ t, D 2 t = 3 → o_at D Z s key val num sort 2 t = 3 ∧ o_at D Z s key val num sort 3 t = D 3 t) ∧ o_at D Z s key val num sort 1 5 = am_w (D 1 5 + 1) ∧ o_at D Z s key val num sort 1 4 = D 1 4 ∧ o_at D Z s key val num sort 4 = D 4 ∧ (∀ k : Nat, k ≠ key.toNat → o_at D Z s key val num sort 10 k = D 10 k ∧ o_at D Z s key val num sort 11 k = D 11 k) ∧ (o_at D Z s key val num sort 10 key.toNat = D 10 key.toNat ∨ o_at D Z s key val num sort 10 key.toNat = q) := by
  obtain ⟨z, F, hz, ho, hv, h3, hF, hF1, _, hfull⟩ := at_form iv hl
  have pw := iv.pw
  have hcap := iv.1.1.1.2.2.1
  have h3' := pw.2.2 z (by have := pw.2.1; omega)
  have f0 := hF 0 (by omega) (by omega) (by omega) (by omega)
  have f3 := hF 3 (by omega) (by omega) (by omega) (by omega)
  have f7 := hF 7 (by omega) (by omega) (by omega) (by omega)
  have f8 := hF 8 (by omega) (by omega) (by omega) (by omega)
  have f9 := hF 9 (by omega) (by omega) (by omega) (by omega)
  have f10 := hF 10 (by omega) (by omega) (by omega) (by omega)
  have f11 := hF 11 (by omega) (by omega) (by omega) (by omega)
  have pwF : PW F Z := by unfold PW; rw [f0, f3]; exact pw
  rw [ho]
  have e7 : o_ap F z key val num sort 7 = va_up (D 7) (16 * z + (D 3 z).toNat) key := by rw [o_ap_lo _ _ _ _ _ _ (by omega) (by omega), ap3_7, f7, f3]
  have e8 : o_ap F z key val num sort 8 = va_up (D 8) (16 * z + (D 3 z).toNat) val := by rw [o_ap_lo _ _ _ _ _ _ (by omega) (by omega), ap3_8, f8, f3]
  have e9 : o_ap F z key val num sort 9 = va_up (D 9) (16 * z + (D 3 z).toNat) num := by rw [o_ap_lo _ _ _ _ _ _ (by omega) (by omega), ap3_9, f9, f3]
  have eh : ∀ p, cd_has (o_ap F z key val num sort) p = (cd_has D p || decide (p = 16 * z + (D 3 z).toNat)) := by
    intro p
    have h := has_ap pwF hz (by rw [f3]; omega) key val num p
    rw [cd_has_of f0 f3, f3] at h
    rw [← h]
    exact cd_has_of (o_ap_lo _ _ _ _ _ _ (by omega) (by omega)) (o_ap_lo _ _ _ _ _ _ (by omega) (by omega)) p
  have hk : o_ap3 F z key val num 7 (16 * z + (F 3 z).toNat) = key := by rw [ap3_7, va_up_self]
  refine ⟨16 * z + (D 3 z).toNat, by have := pw.2.1; omega, hv, has_not pw hz (by omega), eh, ?_, ?_, ?_, ?_, ?_, ?_, ?_, ?_⟩
  · intro p hp
    rw [e7, e8, e9, va_up_ne _ _ hp, va_up_ne _ _ hp, va_up_ne _ _ hp]
    exact ⟨rfl, rfl, rfl⟩
  · rw [e7, e8, e9, va_up_self, va_up_self, va_up_self]
    exact ⟨rfl, rfl, rfl⟩
  · intro t ht
    have hft := hfull t ht
    rw [o_ap_lo _ _ _ _ _ _ (by omega) (by omega), ap3_2, o_ap_lo _ _ _ _ _ _ (by omega) (by omega), ap3_3, va_up_ne _ _ hft.2, f3]
    refine ⟨?_, rfl⟩
    split
    · exact hft.1
    · rw [va_up_ne _ _ hft.2]; exact hft.1
  · rw [o_ap_1, va_up_ne _ _ (by omega), va_up_self, hF1 5 (by omega) (by omega)]
  · rw [o_ap_1, va_up_ne _ _ (by omega), va_up_ne _ _ (by omega), hF1 4 (by omega) (by omega)]
  · rw [o_ap_lo _ _ _ _ _ _ (by omega) (by omega), ap3_o _ _ _ _ _ (by omega), hF 4 (by omega) (by omega) (by omega) (by omega)]
  · intro k hkne
    rw [o_ap_hi _ _ _ _ _ _ (by omega), o_ap_hi _ _ _ _ _ _ (by omega), ln_10e, ln_11e, hk, if_neg hkne, if_neg hkne, ap3_o _ _ _ _ _ (by omega), ap3_o _ _ _ _ _ (by omega), f10, f11]
    exact ⟨rfl, rfl⟩
  · rw [o_ap_hi _ _ _ _ _ _ (by omega), ln_10e, hk, if_pos rfl]
    split
    · right; rw [f3]
    · left; rw [ap3_o _ _ _ _ _ (by omega), f10]
theorem cd_zf_is {D : Nat → Nat → Int} {Z : Nat} (h : 1 ≤ cd_many D Z 1 + cd_many D Z 2) : ¬ cd_zf D Z = -1 := by
  intro e
  have hm : cd_mp D Z = -1 := by
    unfold cd_zf at e
    split at e
    · exact e
    · rename_i q; exact absurd e q
  have hno := bst_none hm
  have h1 : cd_many D Z 1 = 0 := cnt_zero (fun j hj => decide_eq_false (fun q => of_decide_eq_false (hno j hj) (Or.inl q)))
  have h2 : cd_many D Z 2 = 0 := cnt_zero (fun j hj => decide_eq_false (fun q => of_decide_eq_false (hno j hj) (Or.inr q)))
  omega
/-- what the model needs to append -/
theorem rl_AP (iv : IV D Z 3) (rl : RL D A md O T 8) {s : Nat} (hs : s < 3) (hl : cd_lz (o_at1 D Z s) s = false) : AP A Z s := by
  have di := iv.1.1
  have r1 := rl_at1 di.2.2 rl iv s
  have hru := iv.2.2.2.2.1
  refine ⟨rl_AW iv rl, rl.2.2.2.2.2.2, by rw [rl.1.1]; exact hru.1, ?_, ?_, ?_, hs⟩
  · rw [cd_many_of rl.1.2.1, cd_many_of rl.1.2.1, rl.1.1, cd_lz_of rl.1.1 rl.1.2.1 rl.1.2.2.2.2]
    intro h1 h2
    rw [rl_zf rl h2 iv]
    exact cd_zf_is (by omega)
  · rw [cd_lz_of r1.1.1 r1.1.2.1 r1.1.2.2.2.2]; exact hl
  · rw [rl.1.1, rl.1.2.1, rl.1.2.2.1]
    exact fun z hz => (di.2.1 z hz).2
end BRG7
