/-! ===== BRIDGE (12): bounds ===== -/
/-- numbers, clock and resets are small -/
def TL (D : Nat → Nat → Int) : Prop := ∀ j, j < 8 → j ≠ 4 → j ≠ 5 → -2147483648 ≤ D 1 j ∧ D 1 j < 2147483648
def BD (D : Nat → Nat → Int) (n : Nat) : Prop := (0 ≤ D 1 4 ∧ D 1 4 ≤ n) ∧ (0 ≤ D 1 5 ∧ D 1 5 ≤ n) ∧ (∀ z, z < 8 → 0 ≤ D 4 z ∧ D 4 z ≤ n) ∧ TL D
theorem TL_of {D E : Nat → Nat → Int} (h : TL D) (e : E 1 = D 1) : TL E := by unfold TL at h ⊢; rw [e]; exact h
theorem TL_dup {D : Nat → Nat → Int} (h : TL D) (j : Nat) (v : Int) : TL (dup D 1 j (am_w v)) := by
  intro i hi h4 h5
  rw [dup_t]
  by_cases e : i = j
  · rw [e, va_up_self]; exact am_w_i v
  · rw [va_up_ne _ _ e]; exact h i hi h4 h5
theorem TL_45 {D : Nat → Nat → Int} (h : TL D) {j : Nat} (hj : j = 4 ∨ j = 5) (v : Int) : TL (dup D 1 j v) := by
  intro i hi h4 h5
  rw [dup_t, va_up_ne _ _ (by omega)]
  exact h i hi h4 h5
theorem TL_tk0 {D : Nat → Nat → Int} (h : TL D) (Z : Nat) : TL (o_tk0 D Z) := by
  unfold o_tk0
  split
  · exact TL_dup (TL_of h (o_fi_o _ _ (by omega) (by omega))) _ _
  · exact h
theorem TL_op0 {D : Nat → Nat → Int} (h : TL D) (Z : Nat) : TL (o_op0 D Z) := by
  unfold o_op0
  split
  · exact TL_dup (TL_of h (o_cl_o _ _ (by omega) (by omega))) _ _
  · exact h
theorem TL_at1 {D : Nat → Nat → Int} (h : TL D) (Z s : Nat) : TL (o_at1 D Z s) := by
  unfold o_at1 o_tk
  split
  · exact TL_of (TL_tk0 h Z) (dup_o _ _ _ (by omega))
  · exact h
theorem TL_at2 {D : Nat → Nat → Int} (h : TL D) (Z s : Nat) : TL (o_at2 D Z s) := by
  unfold o_at2 o_op
  split
  · exact h
  · exact TL_of (TL_op0 h Z) (dup_o _ _ _ (by omega))
theorem TL_ap {D : Nat → Nat → Int} (h : TL D) (z : Nat) (key val num : Int) (sort : Nat) : TL (o_ap D z key val num sort) := by
  intro i hi h4 h5
  rw [o_ap_1]
  by_cases e : i = sort
  · rw [e, va_up_self]; exact am_w_i _
  · rw [va_up_ne _ _ e, va_up_ne _ _ h5]; exact h i hi h4 h5
theorem TL_at {D : Nat → Nat → Int} (h : TL D) (Z s : Nat) (key val num : Int) (sort : Nat) : TL (o_at D Z s key val num sort) := by
  unfold o_at
  split
  · exact TL_at1 h Z s
  · exact TL_ap (TL_at2 (TL_at1 h Z s) Z s) _ _ _ _ _
theorem TL_mvs {D : Nat → Nat → Int} (h : TL D) (Z z : Nat) (most : Int) : ∀ i, TL (mvs D Z z most i).1 := by
  intro i
  induction i with
  | zero => exact h
  | succ i ih =>
    unfold mvs
    split
    · exact TL_at ih _ _ _ _ _ _
    · exact ih
theorem TL_em {D : Nat → Nat → Int} (h : TL D) (z : Nat) : TL (o_em D z) := TL_of h (by rw [o_em_lo _ _ (by omega), em2_o _ _ (by omega)])
theorem TL_wcl {D : Nat → Nat → Int} (h : TL D) (Z : Nat) : TL (w_cl D Z) := by
  unfold w_cl o_ec
  exact TL_em (TL_dup (TL_mvs h _ _ _ _) _ _) _
theorem TL_cr {D : Nat → Nat → Int} (h : TL D) (Z : Nat) : TL (o_cr D Z) := by
  have e1 : o_cr D Z 1 = o_c0 D Z 1 := by unfold o_cr; rw [lga_o _ _ _ _ (by omega)]; rfl
  intro i hi h4 h5
  rw [e1]
  by_cases e : i = 3
  · rw [e, c0_13]; exact am_w_i _
  · rw [c0_1 D Z e h4]; exact h i hi h4 h5
theorem BD.mono {D : Nat → Nat → Int} {n m : Nat} (h : BD D n) (hm : n ≤ m) : BD D m := ⟨⟨h.1.1, by have := h.1.2; omega⟩, ⟨h.2.1.1, by have := h.2.1.2; omega⟩, fun z hz => ⟨(h.2.2.1 z hz).1, by have := (h.2.2.1 z hz).2; omega⟩, h.2.2.2⟩
section BRGC
variable {D A : Nat → Nat → Int} {Z : Nat} {md : Bool} {O : Nat → Int} {T : Int}
theorem RL_ex1 (D : Nat → Nat → Int) : ∃ A, RL D A false (fun _ => 0) 1 8 := by
  refine ⟨drow (drow (drow D 13 (fun _ => 0)) 1 (fun j => if j = 4 then D 1 j else if j = 5 then D 1 j + 1 else am_w (D 1 j))) 5 (fun z => D 5 z + 1), ⟨?_, ?_, ?_, ?_, ?_⟩, ⟨?_, ?_⟩, ?_, ?_, ?_, ?_, ?_⟩
  · rw [drow_o _ _ (by omega), drow_o _ _ (by omega), drow_o _ _ (by omega)]
  · rw [drow_o _ _ (by omega), drow_o _ _ (by omega), drow_o _ _ (by omega)]
  · rw [drow_o _ _ (by omega), drow_o _ _ (by omega), drow_o _ _ (by omega)]
  · rw [drow_o _ _ (by omega), drow_o _ _ (by omega), drow_o _ _ (by omega)]
  · rw [drow_o _ _ (by omega), drow_o _ _ (by omega), drow_o _ _ (by omega)]
  · rw [drow_o _ _ (by omega), drow_t]; exact if_pos rfl
  · rw [drow_o _ _ (by omega), drow_t]; exact (if_neg (by omega)).trans (if_pos rfl)
  · intro z _ _ _; rw [drow_t]
  · intro p _ _
    rw [drow_o _ _ (by omega), drow_o _ _ (by omega), drow_o _ _ (by omega), drow_o _ _ (by omega), drow_o _ _ (by omega), drow_o _ _ (by omega), drow_o _ _ (by omega), drow_o _ _ (by omega), drow_o _ _ (by omega)]
    exact ⟨rfl, rfl, rfl⟩
  · intro j _ h4 h5
    rw [if_neg (by decide), drow_o _ _ (by omega), drow_t, Int.add_zero]
    exact (if_neg h4).trans (if_neg h5)
  · intro q; exact absurd q (by decide)
  · unfold LG
    rw [drow_o _ _ (by omega), drow_o _ _ (by omega), drow_t]
    omega
theorem cl_4 (iv : IV D Z 3) (hb : w_bad D Z = false) : w_cl D Z 4 = va_up (D 4) (cd_zc D Z (D 0 6)).toNat (am_w (D 4 (cd_zc D Z (D 0 6)).toNat + 1)) := by
  obtain ⟨A, rl⟩ := RL_ex iv
  have hno := bad_no hb
  have hz := zc_at hno.1
  obtain ⟨mi, _⟩ := mv_all iv rl hz.1 hz.2.1 hno.2 (mm := 17) (mc := 16) (fun k hk => by omega) (Or.inl rfl)
  have e4 := mi.2.2.1.2.2.2.2
  unfold w_cl o_ec
  rw [o_em_lo _ _ (by omega), em2_4, dup_o _ _ _ (by omega), e4]
theorem va_up_bd {f : Nat → Int} {n m : Nat} (h : ∀ z, z < 8 → 0 ≤ f z ∧ f z ≤ n) (hn : n + 1 ≤ m) (hm : m < 2147483648) (t : Nat) : ∀ z, z < 8 → 0 ≤ va_up f t (am_w (f t + 1)) z ∧ va_up f t (am_w (f t + 1)) z ≤ m := by
  intro z hz
  have h1 := h z hz
  by_cases e : z = t
  · subst e
    rw [va_up_self, am_w_id (by omega) (by omega)]
    omega
  · rw [va_up_ne _ _ e]
    omega
theorem cl_bd (iv : IV D Z 3) (hb : w_bad D Z = false) {n : Nat} (bd : BD D n) (hn : n + 100 < 2147483648) : BD (w_cl D Z) (n + 16) := by
  obtain ⟨A, rl⟩ := RL_ex1 D
  obtain ⟨_, _, _, e14, _, hclk, _, _⟩ := cl_step iv rl hb (Or.inr ⟨bd.2.1.1, by omega, by have := bd.2.1.2; omega⟩)
  refine ⟨by rw [e14]; exact ⟨bd.1.1, by have := bd.1.2; omega⟩, ?_, ?_⟩
  · rcases hclk with q | q
    · omega
    · exact ⟨q.1, by have := bd.2.1.2; omega⟩
  · rw [cl_4 iv hb]
    exact ⟨va_up_bd bd.2.2.1 (by omega) (by omega) _, TL_wcl bd.2.2.2 Z⟩
theorem it_bd (iv : IV D Z 3) {k : Nat} (hk : ∀ j, j < k → w_bad (w_it D Z j) Z = false) {n : Nat} (bd : BD D n) (hn : n + 3000 < 2147483648) : ∀ j, j ≤ k → IV (w_it D Z j) Z 3 ∧ BD (w_it D Z j) (n + 16 * j) ∧ j ≤ 144 := by
  obtain ⟨A, rl⟩ := RL_ex iv
  intro j
  induction j with
  | zero => intro _; exact ⟨iv, bd, by omega⟩
  | succ j ih =>
    intro hj
    obtain ⟨i1, b1, l1⟩ := ih (by omega)
    have h := it_all iv rl hk (Or.inl rfl) (j + 1) hj
    have b2 := cl_bd i1 (hk j (by omega)) b1 (by omega)
    exact ⟨h.2.1, b2.mono (by omega), h.1⟩
theorem at_bd (iv : IV D Z 3) {s : Nat} (hl : cd_lz (o_at1 D Z s) s = false) {n : Nat} (bd : BD D n) (hn : n + 1 < 2147483648) (key val num : Int) {sort : Nat} (hso : sort < 2) : BD (o_at D Z s key val num sort) (n + 1) := by
  obtain ⟨q, _, _, _, _, _, _, _, q8, q9, q10, _⟩ := at_rows iv hl key val num hso
  refine ⟨by rw [q9]; exact ⟨bd.1.1, by have := bd.1.2; omega⟩, ?_, ?_⟩
  · rw [q8, am_w_id (by have := bd.2.1; omega) (by have := bd.2.1; omega)]
    have := bd.2.1
    omega
  · rw [q10]; exact ⟨fun z hz => ⟨(bd.2.2.1 z hz).1, by have := (bd.2.2.1 z hz).2; omega⟩, TL_at bd.2.2.2 Z s key val num sort⟩
theorem pt_bd (iv : IV D Z 3) {key : Nat} (hkey : key < 32) (val : Int) {n : Nat} (bd : BD D n) (hn : n + 3000 < 2147483647) : BD (w_res D Z (w_s D key) (w_k D Z (w_s D key)) key val) (n + 3000) := by
  have hend := w_end_k (w_ok_all iv (w_s D key))
  generalize w_s D key = s at hend ⊢
  generalize w_k D Z s = k at hend ⊢
  obtain ⟨hk, hgo, hstop⟩ := hend
  obtain ⟨ivk, bdk, k144⟩ := it_bd iv (k := k) (fun j hj => (hgo j hj).2) bd (by omega) k (Nat.le_refl k)
  unfold w_res
  cases em : w_must (w_it D Z k) Z s with
  | true => rw [if_pos rfl]; exact bd.mono (by omega)
  | false =>
    rw [if_neg (by decide)]
    have h14 := bdk.1
    have ewn : am_w (w_it D Z k 1 4 + 1) = w_it D Z k 1 4 + 1 := am_w_id (by omega) (by omega)
    have ivn : IV (dup (w_it D Z k) 1 4 (am_w (w_it D Z k 1 4 + 1))) Z 3 := iv_14 ivk (by omega)
    have hno := of_decide_eq_false (em : decide _ = false)
    have hlz : cd_lz (o_at1 (dup (w_it D Z k) 1 4 (am_w (w_it D Z k 1 4 + 1))) Z s) s = false := by
      refine lz_many ivn ?_
      rw [cd_many_of (D := w_it D Z k) (dup_o _ _ _ (by omega)), cd_lz_of (D := w_it D Z k) (dup_o _ _ _ (by omega)) (dup_o _ _ _ (by omega)) (dup_o _ _ _ (by omega))]
      cases el : cd_lz (w_it D Z k) s with
      | false => exact Or.inr rfl
      | true =>
        left
        have h5 := ivk.2.2.2.2.1.2.2.1
        by_cases q : (cd_many (w_it D Z k) Z 0 : Int) ≤ w_it D Z k 0 5
        · exact absurd ⟨el, q⟩ hno
        · omega
    have bdn : BD (dup (w_it D Z k) 1 4 (am_w (w_it D Z k 1 4 + 1))) (n + 16 * k + 1) := by
      refine ⟨?_, ?_, ?_⟩
      · rw [dup_t, va_up_self, ewn]; omega
      · rw [dup_t, va_up_ne _ _ (by omega)]; exact ⟨bdk.2.1.1, by have := bdk.2.1.2; omega⟩
      · rw [dup_o _ _ _ (by omega)]; exact ⟨fun z hz => ⟨(bdk.2.2.1 z hz).1, by have := (bdk.2.2.1 z hz).2; omega⟩, TL_45 bdk.2.2.2 (by omega) _⟩
    exact (at_bd ivn hlz bdn (by omega) key val _ (sort := 0) (by omega)).mono (by omega)
theorem em_bd (iv : IV D Z 3) {n : Nat} (bd : BD D n) (hn : n + 1 < 2147483648) (z : Nat) : BD (o_em D z) (n + 1) := by
  have e1 : o_em D z 1 = D 1 := by rw [o_em_lo _ _ (by omega), em2_o _ _ (by omega)]
  have e4 : o_em D z 4 = va_up (D 4) z (am_w (D 4 z + 1)) := by rw [o_em_lo _ _ (by omega), em2_4]
  unfold BD
  rw [e1, e4]
  exact ⟨⟨bd.1.1, by have := bd.1.2; omega⟩, ⟨bd.2.1.1, by have := bd.2.1.2; omega⟩, va_up_bd bd.2.2.1 (by omega) (by omega) _, TL_em bd.2.2.2 z⟩
theorem cr_bd (iv : IV D Z 3) {n : Nat} (bd : BD D n) : BD (o_cr D Z) n := by
  have gn := ln_gn iv
  have e1 : o_cr D Z 1 = o_c0 D Z 1 := by unfold o_cr; rw [lga_o _ _ _ _ (by omega)]; rfl
  have e4 : o_cr D Z 4 = D 4 := by unfold o_cr; rw [lga_o _ _ _ _ (by omega)]; exact c0_o D Z (by omega)
  unfold BD
  rw [e1, e4, c0_14, c0_1 D Z (by omega) (by omega)]
  refine ⟨⟨gn.1, ?_⟩, bd.2.1, bd.2.2.1, TL_cr bd.2.2.2 Z⟩
  rcases gn.2.2 with q | ⟨p, p1, p2, p3⟩
  · omega
  · have := (iv.2.2.2.2.2.2 p p1 p2).2
    have := bd.1.2
    omega
theorem BD_of {E : Nat → Nat → Int} {n : Nat} (bd : BD D n) (e1 : E 1 = D 1) (_ : E 1 = D 1) (er : E 4 = D 4) : BD E n := by
  unfold BD
  rw [e1, er]
  exact ⟨bd.1, bd.2.1, bd.2.2.1, TL_of bd.2.2.2 e1⟩
end BRGC
