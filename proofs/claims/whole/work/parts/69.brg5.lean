/-! ===== BRIDGE (5): what is so of every drive stays so ===== -/
section BRG5
variable {D E A : Nat → Nat → Int} {Z x y : Nat}
theorem IV.weak (iv : IV D Z 3) (x : Nat) : IV D Z x := by
  obtain ⟨a, b, c, ⟨d1, d2⟩, e, f⟩ := iv
  refine ⟨a, b, c, ⟨fun s hs => ?_, d2⟩, e, f⟩
  rcases d1 s hs with h | h
  · exact Or.inl h
  · refine Or.inr ⟨h.1, h.2.1, Or.inr ?_, h.2.2.2⟩
    rcases h.2.2.1 with q | q
    · omega
    · exact q
theorem iv_rows (iv : IV D Z x) (di : DI E Z) (e0 : E 0 = D 0) (e3 : E 3 = D 3) (e6 : E 6 = D 6) (e7 : E 7 = D 7) (e9 : E 9 = D 9) (e10 : E 10 = D 10) (e11 : E 11 = D 11) (e12 : E 12 = D 12) (e14 : E 1 4 = D 1 4) (hz : ∀ z, z < Z → (E 2 z = 0 → D 3 z = 0) ∧ (E 2 z = 2 → 0 < D 3 z)) : IV E Z x := by
  obtain ⟨a, b, c, d, e, f⟩ := iv
  have hh : ∀ p, cd_has E p = cd_has D p := fun p => cd_has_of e0 e3 p
  refine ⟨⟨di, a.2.1, by rw [e0]; exact a.2.2.1, by rw [e0]; exact a.2.2.2⟩, ?_, ?_, ?_, ?_, ?_⟩
  · exact CC_of b (fun p _ => (hh p).symm) (fun p _ _ => by rw [e7, e9]; exact ⟨rfl, rfl⟩) e10 e11 e12
  · rw [e3]; exact ⟨hz, c.2⟩
  · unfold HV; rw [e0, e3, e6]; exact d
  · rw [e0]; exact e
  · rw [e14, e9]; exact ⟨f.1, fun p hp h => f.2 p hp (by rw [← hh p]; exact h)⟩
theorem iv_log (iv : IV D Z x) (s z a : Int) : IV (lga D s z a) Z x := by
  have h : ∀ r, r < 13 → lga D s z a r = D r := fun r hr => lga_o _ _ _ _ (Or.inl hr)
  exact iv_rows iv (lga_DI iv.1.1 s z a) (h 0 (by omega)) (h 3 (by omega)) (h 6 (by omega)) (h 7 (by omega)) (h 9 (by omega)) (h 10 (by omega)) (h 11 (by omega)) (h 12 (by omega)) (by rw [h 1 (by omega)]) (by rw [h 2 (by omega)]; exact iv.2.2.1.1)
theorem iv_st (iv : IV D Z x) {z : Nat} {v : Int} (hx : v = 3 ∨ (z < Z → D 3 z < D 0 1)) (h0 : v = 0 → D 3 z = 0) (h2 : v = 2 → 0 < D 3 z) : IV (dup D 2 z v) Z x := by
  refine iv_rows iv (st_DI iv.1.1 hx) (dup_o _ _ _ (by omega)) (dup_o _ _ _ (by omega)) (dup_o _ _ _ (by omega)) (dup_o _ _ _ (by omega)) (dup_o _ _ _ (by omega)) (dup_o _ _ _ (by omega)) (dup_o _ _ _ (by omega)) (dup_o _ _ _ (by omega)) (by rw [dup_o _ _ _ (by omega)]) ?_
  intro t ht
  rw [dup_t]
  by_cases e : t = z
  · rw [e, va_up_self]; exact ⟨h0, h2⟩
  · rw [va_up_ne _ _ e]; exact iv.2.2.1.1 t ht
theorem iv_1 (iv : IV D Z x) {j : Nat} (hj : j ≠ 4) (v : Int) : IV (dup D 1 j v) Z x := by
  refine iv_rows iv (dup_DI iv.1.1 1 j v (by omega)) (dup_o _ _ _ (by omega)) (dup_o _ _ _ (by omega)) (dup_o _ _ _ (by omega)) (dup_o _ _ _ (by omega)) (dup_o _ _ _ (by omega)) (dup_o _ _ _ (by omega)) (dup_o _ _ _ (by omega)) (dup_o _ _ _ (by omega)) (by rw [dup_t, va_up_ne _ _ (Ne.symm hj)]) ?_
  rw [dup_o _ _ _ (by omega)]
  exact iv.2.2.1.1
theorem iv_5 (iv : IV D Z x) (j : Nat) (v : Int) : IV (dup D 5 j v) Z x := by
  refine iv_rows iv (dup_DI iv.1.1 5 j v (by omega)) (dup_o _ _ _ (by omega)) (dup_o _ _ _ (by omega)) (dup_o _ _ _ (by omega)) (dup_o _ _ _ (by omega)) (dup_o _ _ _ (by omega)) (dup_o _ _ _ (by omega)) (dup_o _ _ _ (by omega)) (dup_o _ _ _ (by omega)) (by rw [dup_o _ _ _ (by omega)]) ?_
  rw [dup_o _ _ _ (by omega)]
  exact iv.2.2.1.1
theorem iv_14 (iv : IV D Z x) {v : Int} (hv : D 1 4 ≤ v) : IV (dup D 1 4 v) Z x := by
  have di := dup_DI iv.1.1 1 4 v (by omega)
  obtain ⟨a, b, c, d, e, f⟩ := iv
  have o : ∀ r, r ≠ 1 → dup D 1 4 v r = D r := fun r hr => dup_o _ _ _ hr
  have hh : ∀ p, cd_has (dup D 1 4 v) p = cd_has D p := fun p => cd_has_of (o 0 (by omega)) (o 3 (by omega)) p
  refine ⟨⟨di, a.2.1, by rw [o 0 (by omega)]; exact a.2.2.1, by rw [o 0 (by omega)]; exact a.2.2.2⟩, ?_, ?_, ?_, ?_, ?_⟩
  · exact CC_of b (fun p _ => (hh p).symm) (fun p _ _ => by rw [o 7 (by omega), o 9 (by omega)]; exact ⟨rfl, rfl⟩) (o 10 (by omega)) (o 11 (by omega)) (o 12 (by omega))
  · rw [o 2 (by omega), o 3 (by omega)]; exact c
  · unfold HV; rw [o 0 (by omega), o 3 (by omega), o 6 (by omega)]; exact d
  · rw [o 0 (by omega)]; exact e
  · rw [dup_t, va_up_self, o 9 (by omega)]
    refine ⟨by omega, fun p hp h => ?_⟩
    have := f.2 p hp (by rw [← hh p]; exact h)
    omega
theorem iv_cl (iv : IV D Z x) {z : Nat} (hz : z < Z) (h : D 2 z = 1) : IV (o_cl D z) Z x := by
  have h3 := iv.pw.2.2 z (by have := iv.pw.2.1; omega)
  unfold o_cl
  refine iv_log (iv_st iv (Or.inr (fun _ => (iv.1.1.2.1 z hz).2 (by omega))) ?_ ?_) _ _ _
  · intro q
    split at q
    · rename_i q2; exact q2
    · omega
  · intro q
    split at q
    · omega
    · omega
theorem iv_fi (iv : IV D Z x) (z : Nat) : IV (o_fi D z) Z x := by
  unfold o_fi
  exact iv_log (iv_st iv (Or.inl rfl) (fun q => by omega) (fun q => by omega)) _ _ _
theorem iv_tk0 (iv : IV D Z x) : IV (o_tk0 D Z) Z x := by
  unfold o_tk0
  split
  · exact iv_1 (iv_fi iv _) (by omega) _
  · exact iv
theorem oz_at {D : Nat → Nat → Int} {Z : Nat} (h : ¬ cd_oz D Z = -1) : (cd_oz D Z).toNat < Z ∧ D 2 (cd_oz D Z).toNat = 1 := by
  have hb : -1 ≤ cd_oz D Z ∧ cd_oz D Z < Z := bst_le _ _ _
  exact ⟨by omega, of_decide_eq_true (bst_at (P := fun z => decide (D 2 z = 1)) h)⟩
theorem ez_at {D : Nat → Nat → Int} {Z : Nat} (h : ¬ cd_ez D Z = -1) : (cd_ez D Z).toNat < Z ∧ D 2 (cd_ez D Z).toNat = 0 := by
  have hb : -1 ≤ cd_ez D Z ∧ cd_ez D Z < Z := bst_le _ _ _
  exact ⟨by omega, of_decide_eq_true (bst_at (P := fun z => decide (D 2 z = 0)) h)⟩
theorem iv_op0 (iv : IV D Z x) : IV (o_op0 D Z) Z x := by
  unfold o_op0
  split
  · rename_i h
    exact iv_1 (iv_cl iv (oz_at h.2).1 (oz_at h.2).2) (by omega) _
  · exact iv
theorem iv_op (iv : IV D Z x) {z : Nat} (h : z < Z → D 3 z < D 0 1) : IV (o_op D Z z) Z x := by
  unfold o_op
  refine iv_st (iv_op0 iv) (Or.inr ?_) (fun q => by omega) (fun q => by omega)
  rw [o_op0_o _ _ (by omega) (by omega) (by omega), o_op0_o _ _ (by omega) (by omega) (by omega)]
  exact h
theorem iv_at1 (iv : IV D Z 3) {s : Nat} (hs : (s : Int) < D 0 4) (hl : cd_lz (o_at1 D Z s) s = false) : IV (o_at1 D Z s) Z s := by
  have h4 := iv.1.1.1.2.2.2.1
  unfold o_at1 at hl ⊢
  cases e : cd_lz D s with
  | false =>
    rw [if_neg (by decide)]
    exact iv.weak s
  | true =>
    rw [e, if_pos rfl] at hl
    rw [if_pos rfl]
    have i1 := iv_tk0 (x := 3) iv
    have di := o_tk_DI iv.1.1 s
    unfold o_tk at hl di ⊢
    have hl' := cd_lz_no hl
    rw [dup_t, va_up_self, dup_o _ _ _ (by omega), dup_o _ _ _ (by omega), i1.1.1.1.1] at hl'
    have hz := ez_at (D := o_tk0 D Z) (Z := Z) (by omega)
    have hb : -1 ≤ cd_ez (o_tk0 D Z) Z ∧ cd_ez (o_tk0 D Z) Z < Z := bst_le _ _ _
    have h04 : o_tk0 D Z 0 = D 0 := o_tk0_o _ _ (by omega) (by omega) (by omega)
    generalize cd_ez (o_tk0 D Z) Z = ez at hl' hz hb di ⊢
    rw [← h04] at hs
    clear hl e iv h4 h04
    generalize o_tk0 D Z = F at i1 hl' hz di hs ⊢
    obtain ⟨a, b, c, ⟨d1, d2⟩, e, f⟩ := i1
    have o : ∀ r, r ≠ 6 → dup F 6 s ez r = F r := fun r hr => dup_o _ _ _ hr
    have hh : ∀ p, cd_has (dup F 6 s ez) p = cd_has F p := fun p => cd_has_of (o 0 (by omega)) (o 3 (by omega)) p
    have h3 := (c.1 ez.toNat hz.1).1 hz.2
    have hne : ∀ t, t < 3 → ¬ F 6 t = ez := by
      intro t ht q
      rcases d1 t ht with h | h
      · omega
      · rw [q] at h
        rcases h.2.2.1 with q2 | q2
        · omega
        · omega
    refine ⟨⟨di, a.2.1, by rw [o 0 (by omega)]; exact a.2.2.1, by rw [o 0 (by omega)]; exact a.2.2.2⟩, ?_, ?_, ⟨?_, ?_⟩, ?_, ?_⟩
    · exact CC_of b (fun p _ => (hh p).symm) (fun p _ _ => by rw [o 7 (by omega), o 9 (by omega)]; exact ⟨rfl, rfl⟩) (o 10 (by omega)) (o 11 (by omega)) (o 12 (by omega))
    · rw [o 2 (by omega), o 3 (by omega)]; exact c
    · intro t ht
      rw [o 0 (by omega), o 3 (by omega), dup_t]
      by_cases et : t = s
      · rw [et, va_up_self]
        exact Or.inr ⟨by omega, by omega, Or.inl rfl, hs⟩
      · rw [va_up_ne _ _ et]
        rcases d1 t ht with h | h
        · exact Or.inl h
        · refine Or.inr ⟨h.1, h.2.1, Or.inr ?_, h.2.2.2⟩
          rcases h.2.2.1 with q | q
          · omega
          · exact q
    · intro t u ht hu
      rw [dup_t]
      by_cases et : t = s
      · by_cases eu : u = s
        · intro _; right; omega
        · rw [et, va_up_self, va_up_ne _ _ eu]
          intro q
          exact absurd q.symm (hne u hu)
      · by_cases eu : u = s
        · rw [eu, va_up_self, va_up_ne _ _ et]
          intro q
          exact absurd q (hne t ht)
        · rw [va_up_ne _ _ et, va_up_ne _ _ eu]
          exact d2 t u ht hu
    · rw [o 0 (by omega)]; exact e
    · rw [o 1 (by omega), o 9 (by omega)]
      exact ⟨f.1, fun p hp h => f.2 p hp (by rw [← hh p]; exact h)⟩
theorem iv_ap (iv : IV D Z x) {z : Nat} (hz : z < Z) (hx : x = 3 ∨ D 6 x = z) (h3 : D 3 z < D 0 1) (h1 : D 2 z = 1) {key num : Int} (val : Int) (hk : 0 ≤ key ∧ key < 32) (hn : 1 ≤ num ∧ num ≤ D 1 4) {sort : Nat} (hs : sort < 2) : IV (o_ap D z key val num sort) Z 3 := by
  have di := o_ap_DI (val := val) (num := num) sort iv.1.1 hz h3 hk
  have pw := iv.pw
  have hcap := iv.1.1.1.2.2.1
  have hp3 := pw.2.2 z (by have := pw.2.1; omega)
  have h16 : D 3 z < 16 := by omega
  have e0 : o_ap D z key val num sort 0 = D 0 := by rw [o_ap_lo _ _ _ _ _ _ (by omega) (by omega), ap3_o _ _ _ _ _ (by omega)]
  have e3 : o_ap D z key val num sort 3 = va_up (D 3) z (D 3 z + 1) := by rw [o_ap_lo _ _ _ _ _ _ (by omega) (by omega), ap3_3]
  have e6 : o_ap D z key val num sort 6 = D 6 := by rw [o_ap_lo _ _ _ _ _ _ (by omega) (by omega), ap3_o _ _ _ _ _ (by omega)]
  have e9 : o_ap D z key val num sort 9 = va_up (D 9) (16 * z + (D 3 z).toNat) num := by rw [o_ap_lo _ _ _ _ _ _ (by omega) (by omega), ap3_9]
  have e14 : o_ap D z key val num sort 1 4 = D 1 4 := by rw [o_ap_1, va_up_ne _ _ (by omega), va_up_ne _ _ (by omega)]
  have hh : ∀ q, cd_has (o_ap D z key val num sort) q = (cd_has D q || decide (q = 16 * z + (D 3 z).toNat)) := by
    intro q
    rw [← has_ap pw hz h16 key val num q]
    exact cd_has_of (o_ap_lo _ _ _ _ _ _ (by omega) (by omega)) (o_ap_lo _ _ _ _ _ _ (by omega) (by omega)) q
  have hnot := has_not pw hz h16
  obtain ⟨a, b, c, ⟨d1, d2⟩, e, f⟩ := iv
  have hp128 : 16 * z + (D 3 z).toNat < 128 := by have := pw.2.1; omega
  refine ⟨⟨di, a.2.1, by rw [e0]; exact a.2.2.1, by rw [e0]; exact a.2.2.2⟩, ?_, ⟨?_, ?_⟩, ⟨?_, ?_⟩, ?_, ?_⟩
  · have c1 : CC (o_ap3 D z key val num) (cd_has D) := by
      refine CC_of b (fun _ _ => rfl) (fun p _ hp => ?_) (ap3_o _ _ _ _ _ (by omega)) (ap3_o _ _ _ _ _ (by omega)) (ap3_o _ _ _ _ _ (by omega))
      have hne : p ≠ 16 * z + (D 3 z).toNat := by
        intro q
        rw [q, hnot] at hp
        exact absurd hp (by decide)
      rw [ap3_7, ap3_9, va_up_ne _ _ hne, va_up_ne _ _ hne]
      exact ⟨rfl, rfl⟩
    have c2 := CC_ln c1 (q := 16 * z + (D 3 z).toNat) hp128 hnot (by rw [ap3_7, va_up_self]; exact hk)
    refine CC_of c2 (fun p _ => (hh p).symm) (fun p _ _ => ?_) (o_ap_hi _ _ _ _ _ _ (by omega)) (o_ap_hi _ _ _ _ _ _ (by omega)) (o_ap_hi _ _ _ _ _ _ (by omega))
    rw [o_ap_lo _ _ _ _ _ _ (by omega) (by omega), o_ap_lo _ _ _ _ _ _ (by omega) (by omega), ln_o _ _ (by omega), ln_o _ _ (by omega)]
    exact ⟨rfl, rfl⟩
  · intro t ht
    rw [e3, o_ap_lo _ _ _ _ _ _ (by omega) (by omega), ap3_2]
    by_cases et : t = z
    · subst et
      rw [va_up_self]
      split
      · rw [h1]; exact ⟨fun q => by omega, fun q => by omega⟩
      · rw [va_up_self]; exact ⟨fun q => by omega, fun q => by omega⟩
    · rw [va_up_ne _ _ et]
      split
      · exact c.1 t ht
      · rw [va_up_ne _ _ et]; exact c.1 t ht
  · intro t ht1 ht2
    rw [e3, va_up_ne _ _ (by omega)]
    exact c.2 t ht1 ht2
  · intro t ht
    rw [e0, e3, e6]
    rcases d1 t ht with h | h
    · exact Or.inl h
    · refine Or.inr ⟨h.1, h.2.1, Or.inr ?_, h.2.2.2⟩
      by_cases et : (D 6 t).toNat = z
      · rw [et, va_up_self]; omega
      · rw [va_up_ne _ _ et]
        rcases h.2.2.1 with q | q
        · exfalso
          rcases hx with hx | hx
          · omega
          · rw [q, hx, Int.toNat_natCast] at et
            exact et rfl
        · exact q
  · rw [e6]; exact d2
  · rw [e0]; exact e
  · rw [e14, e9]
    refine ⟨f.1, fun p hp h => ?_⟩
    rw [hh] at h
    by_cases ep : p = 16 * z + (D 3 z).toNat
    · rw [ep, va_up_self]; exact hn
    · rw [decide_eq_false ep, Bool.or_false] at h
      rw [va_up_ne _ _ ep]
      exact f.2 p hp h
theorem o_at2_2 (E : Nat → Nat → Int) (Z s : Nat) : o_at2 E Z s 2 (E 6 s).toNat = 1 := by
  unfold o_at2
  split
  · rename_i h; exact h
  · unfold o_op; rw [dup_t, va_up_self]
theorem o_at2_14 (E : Nat → Nat → Int) (Z s : Nat) {j : Nat} (hj : j ≠ 6) : o_at2 E Z s 1 j = E 1 j := by
  unfold o_at2
  split
  · rfl
  · exact o_op_14 _ _ _ hj
theorem iv_at (iv : IV D Z 3) {s : Nat} (hs : (s : Int) < D 0 4) (hl : cd_lz (o_at1 D Z s) s = false) {key num : Int} (val : Int) (hk : 0 ≤ key ∧ key < 32) (hn : 1 ≤ num ∧ num ≤ D 1 4) {sort : Nat} (hso : sort < 2) : IV (o_at D Z s key val num sort) Z 3 := by
  have i1 := iv_at1 iv hs hl
  have h1 := cd_lz_no hl
  have e0 := o_at1_0 D Z s
  rw [i1.1.1.1.1] at h1
  have h3 := (i1.1.1.2.1 (o_at1 D Z s 6 s).toNat (by omega)).2 h1.2
  have i2 : IV (o_at2 (o_at1 D Z s) Z s) Z s := by
    unfold o_at2
    split
    · exact i1
    · exact iv_op i1 (fun _ => h3)
  unfold o_at
  rw [hl, if_neg (by decide)]
  refine iv_ap i2 (by omega) (Or.inr ?_) ?_ (o_at2_2 _ _ _) val hk ?_ hso
  · rw [o_at2_o _ _ _ (by omega) (by omega) (by omega)]; omega
  · rw [o_at2_o _ _ _ (by omega) (by omega) (by omega), o_at2_o _ _ _ (by omega) (by omega) (by omega)]; exact h3
  · rw [o_at2_14 _ _ _ (by omega), o_at1_14 _ _ _ (by omega)]; exact hn
end BRG5
