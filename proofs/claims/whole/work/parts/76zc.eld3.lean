/-! ===== elder ===== -/
theorem cnt_mono {P Q : Nat → Bool} {n : Nat} (h : ∀ p, p < n → P p = true → Q p = true) : cnt P n ≤ cnt Q n := by
  induction n with
  | zero => exact Nat.le_refl _
  | succ n ih =>
    have i1 := ih (fun p hp => h p (by omega))
    cases e : P n with
    | false =>
      rw [cnt_f e]
      cases e2 : Q n with
      | false => rw [cnt_f e2]; exact i1
      | true => rw [cnt_t e2]; omega
    | true =>
      rw [cnt_t e, cnt_t (h n (by omega) e)]
      omega
theorem cnt_lt {P Q : Nat → Bool} {n q : Nat} (h : ∀ p, p < n → P p = true → Q p = true) (hq : q < n) (hP : P q = false) (hQ : Q q = true) : cnt P n < cnt Q n := by
  have e2 : cnt Q n = cnt (fun p => Q p && decide (¬ p = q)) n + 1 := cnt_add1 (q := q) hq (fun p _ hne => by rw [decide_eq_true hne, Bool.and_true]) hQ (by rw [decide_eq_false (fun t => t rfl), Bool.and_false])
  have e3 : cnt P n ≤ cnt (fun p => Q p && decide (¬ p = q)) n := cnt_mono (fun p hp hh => by
    rw [h p hp hh, Bool.true_and]
    refine decide_eq_true (fun t => ?_)
    rw [t, hP] at hh
    exact absurd hh (by decide))
  omega
/-- the block of a rank, or none -/
def ES (N : Nat → Nat → Int) (t : Nat) (B : Int) : Prop := (B = -1 ∧ ∀ q, q < 128 → lvb N q = true → cnt (eld N q) 128 < t) ∨ ∃ a : Nat, a < 128 ∧ B = a ∧ lvb N a = true ∧ cnt (eld N a) 128 = t
theorem lvb_has {N : Nat → Nat → Int} {p : Nat} (e : lvb N p = true) : cd_has N p = true := by
  unfold lvb at e
  rw [Bool.and_eq_true] at e
  exact e.1
theorem eld_t {N : Nat → Nat → Int} {q p : Nat} (e : eld N q p = true) : lvb N p = true ∧ N 9 p < N 9 q := by
  unfold eld at e
  rw [Bool.and_eq_true] at e
  exact ⟨e.1, of_decide_eq_true e.2⟩
theorem eld_i {N : Nat → Nat → Int} {q p : Nat} (e : lvb N p = true) (h : N 9 p < N 9 q) : eld N q p = true := by
  unfold eld
  rw [e, decide_eq_true h]
  rfl
theorem eld_n {N : Nat → Nat → Int} {q p : Nat} (h : lvb N p = true → ¬ N 9 p < N 9 q) : eld N q p = false := by
  cases e : eld N q p with
  | false => rfl
  | true => exact absurd (eld_t e).2 (h (eld_t e).1)
theorem es_uniq {N : Nat → Nat → Int} (nd : ND N) {a b : Nat} (ha : a < 128) (hb : b < 128) (la : lvb N a = true) (lb : lvb N b = true) (e : cnt (eld N a) 128 = cnt (eld N b) 128) : a = b := by
  have key : ∀ a b, a < 128 → lvb N a = true → N 9 a < N 9 b → cnt (eld N a) 128 < cnt (eld N b) 128 := fun a b h1 h2 h3 => cnt_lt (fun p _ hh => eld_i (eld_t hh).1 (by have := (eld_t hh).2; omega)) h1 (eld_n (fun _ => by omega)) (eld_i h2 h3)
  by_cases q1 : N 9 a < N 9 b
  · have := key a b ha la q1; omega
  · by_cases q2 : N 9 b < N 9 a
    · have := key b a hb lb q2; omega
    · exact nd a b ha hb (lvb_has la) (lvb_has lb) (by omega)
section ELDL
variable {x mo n m Z : Nat} {A : Nat → Nat} {N P K T S : Nat → Nat → Int} {HD : Nat → Nat → Nat → Int} {M Ad : Nat → Nat → Int} {h g : am_H}
theorem es_0 (hn : ∀ p, p < 128 → cd_has N p = true → 1 ≤ N 9 p) {L : Nat → Int} (hL : ∀ j, j < 128 → L j = if lvb N j = true then N 9 j else 0) : ES N 0 (od_b L 0 128) := by
  have pos : ∀ j, j < 128 → lvb N j = true → 0 < L j ∧ L j = N 9 j := fun j hj e => by
    have e1 := hL j hj
    rw [if_pos e] at e1
    have := hn j hj (lvb_has e)
    omega
  rcases od_spec L 0 128 with ⟨a1, a2⟩ | ⟨o, o1, o2, o3, o4⟩
  · exact Or.inl ⟨a1, fun q hq e => absurd (pos q hq e).1 (a2 q hq)⟩
  · have lo : lvb N o = true := by
      cases e : lvb N o with
      | true => rfl
      | false =>
        have e1 := hL o o1
        rw [e, if_neg (by decide)] at e1
        omega
    refine Or.inr ⟨o, o1, o2, lo, cnt_zero (fun j hj => eld_n (fun e => ?_))⟩
    have p1 := pos j hj e
    have p2 := pos o o1 lo
    have := o4 j hj p1.1
    omega
theorem es_s (nd : ND N) (hn : ∀ p, p < 128 → cd_has N p = true → 1 ≤ N 9 p) {L : Nat → Int} (hL : ∀ j, j < 128 → L j = if lvb N j = true then N 9 j else 0) {a : Nat} (ha : a < 128) (la : lvb N a = true) : ES N (cnt (eld N a) 128 + 1) (od_b L (N 9 a) 128) := by
  have pos : ∀ j, j < 128 → lvb N j = true → 0 < L j ∧ L j = N 9 j := fun j hj e => by
    have e1 := hL j hj
    rw [if_pos e] at e1
    have := hn j hj (lvb_has e)
    omega
  have pa := pos a ha la
  rcases od_spec L (N 9 a) 128 with ⟨a1, a2⟩ | ⟨o, o1, o2, o3, o4⟩
  · refine Or.inl ⟨a1, fun q hq e => ?_⟩
    have p1 := pos q hq e
    have p2 := a2 q hq
    have : cnt (eld N q) 128 ≤ cnt (eld N a) 128 := cnt_mono (fun p _ hh => eld_i (eld_t hh).1 (by have := (eld_t hh).2; omega))
    omega
  · have lo : lvb N o = true := by
      cases e : lvb N o with
      | true => rfl
      | false =>
        have e1 := hL o o1
        rw [e, if_neg (by decide)] at e1
        omega
    have po := pos o o1 lo
    refine Or.inr ⟨o, o1, o2, lo, cnt_add1 (q := a) ha (fun p hp hne => ?_) (eld_i la (by omega)) (eld_n (fun _ => by omega))⟩
    cases e : lvb N p with
    | false =>
      unfold eld
      rw [e]
      rfl
    | true =>
      have pp := pos p hp e
      by_cases q1 : N 9 p < N 9 a
      · rw [eld_i e q1, eld_i e (show N 9 p < N 9 o by omega)]
      · have hne2 : ¬ N 9 p = N 9 a := fun t => hne (nd p a hp ha (lvb_has e) (lvb_has la) t)
        have := o4 p hp (by omega)
        rw [eld_n (fun _ => q1), eld_n (fun _ => show ¬ N 9 p < N 9 o by omega)]
theorem er_loop (nd : ND N) (hn : ∀ p, p < 128 → cd_has N p = true → 1 ≤ N 9 p) (hL : ∀ j, j < 128 → M 14 j = if lvb N j = true then N 9 j else 0) {k : Nat} : ∀ (r t : Nat) (B : Int), t + r = k → ES N t B → ∃ B' : Int, am_run am_ms 274 30 [am_R mo, am_I k, am_I B, am_I t] [] (mv mo M g) = some (some (am_I B'), mv mo M g) ∧ ES N k B' := by
  intro r
  induction r with
  | zero =>
    intro t B ht es
    have e : t = k := by omega
    rw [e] at es
    refine ⟨B, ?_, es⟩
    rw [bk_274_30]
    simp (disch := omega) only [bk_274_57, Option.bind_some, Bool.cond_decide, am_oI_some, am_oV_some, am_oI_ite, am_oV_ite, am_bind_ite, Int.toNat_natCast, Int.toNat_zero, Int.reduceToNat, ite_true, ite_false, not_true_eq_false, not_false_eq_true, decide_true, decide_false, decide_eq_true_eq, Bool.false_eq_true, Nat.add_zero, am_rok1_0, am_rok1_1, cond_true, cond_false, am_w_nat1, true_or, or_true, false_or, or_false, true_and, and_true, false_and, and_false, Int.reduceEq, Int.reduceNeg, Int.reduceLT, Int.reduceLE, or_self, and_self, if_pos, if_neg]
  | succ r ih =>
    intro t B ht es
    have htk : ¬ (k : Int) ≤ (t : Int) := by omega
    rcases es with ⟨b1, b2⟩ | ⟨a, a1, a2, a3, a4⟩
    · refine ⟨-1, ?_, Or.inl ⟨rfl, fun q hq e => by have := b2 q hq e; omega⟩⟩
      rw [b1, bk_274_30]
      simp only [bk_274_57, htk, Option.bind_some, Bool.cond_decide, am_oI_some, am_oV_some, am_oI_ite, am_oV_ite, am_bind_ite, Int.toNat_natCast, Int.toNat_zero, Int.reduceToNat, ite_true, ite_false, not_true_eq_false, not_false_eq_true, decide_true, decide_false, decide_eq_true_eq, Bool.false_eq_true, Nat.add_zero, am_rok1_0, am_rok1_1, cond_true, cond_false, am_w_nat1, true_or, or_true, false_or, or_false, true_and, and_true, false_and, and_false, Int.reduceEq, Int.reduceNeg, Int.reduceLT, Int.reduceLE, or_self, and_self]
    · have hle := cnt_le (eld N a) 128
      have c1 := m_oldest (mo := mo) (M := M) (g := g) (N 9 a)
      have r1 := mv_r14 (m := mo) (M := M) (h := g) (j := (a : Int)) (by omega) (by omega)
      have e1 := hL a a1
      rw [if_pos a3] at e1
      rw [Int.toNat_natCast, e1] at r1
      have es' := es_s nd hn hL a1 a3
      rw [a4] at es'
      obtain ⟨B', k1, k2⟩ := ih (t + 1) (od_b (M 14) (N 9 a) 128) (by omega) es'
      refine ⟨B', ?_, k2⟩
      have ha1 : ¬ (a : Int) = -1 := by omega
      rw [a2, bk_274_30]
      simp (disch := omega) only [bk_274_54, htk, ha1, mv_f0_30, mv_c0, r1, c1, Option.bind_some, Bool.cond_decide, am_oI_some, am_oV_some, am_oI_ite, am_oV_ite, am_bind_ite, Int.toNat_natCast, Int.toNat_zero, Int.reduceToNat, ite_true, ite_false, not_true_eq_false, not_false_eq_true, decide_true, decide_false, decide_eq_true_eq, Bool.false_eq_true, Nat.add_zero, am_rok1_0, am_rok1_1, cond_true, cond_false, am_w_nat1, true_or, or_true, false_or, or_false, true_and, and_true, false_and, and_false, Int.reduceEq, Int.reduceNeg, Int.reduceLT, Int.reduceLE, or_self, and_self]
      exact k1
theorem lk_elder (w : WR n m N K S HD M) (i : Int) : LK 271 274 [am_I i] x mo n m A N P K T S HD M := by
  intro h g
  have hmk := MK_f M (j := 0) (by omega) 0
  rcases w.2.2.2.2 with w0 | ⟨Z, wd⟩
  · have f14 : dup M 0 0 0 0 14 = 0 := by rw [dup_t, va_up_ne _ _ (by omega)]; exact w0.1
    have h0 := w0.2.1.1
    have hno : ∀ p, cd_has N p = false := fun p => by
      unfold cd_has
      exact decide_eq_false (fun q => by have := q.1; omega)
    have c2 := s_ebr_no (d := x + 13) (h := (zv x N P K T S m A h)) (D := N) (Z := 0) (x := 3) (i := i) (Or.inl hno) (fun p _ => by unfold edf lvb; rw [hno p]; rfl)
    rw [zv_dN] at c2
    refine ⟨-1, dup M 0 0 0, ?_, ?_, hmk⟩
    · rw [am_cI]; simp (disch := omega) only [en_271, bk_271_0, c2, zv_c0, zv_f0_0, zv_f0_1, zv_f0_2, zv_f0_3, zv_f0_4, zv_f0_5, zv_f0_6, zv_f0_7, zv_f0_8, zv_f0_9, zv_f0_10, zv_f0_11, zv_c1, zv_f1_0, zv_f1_1, zv_c3, zv_f3_0, zv_f3_1, zv_f3_2, zv_f3_3, zv_f3_4, zv_f3_5, zv_f3_6, zv_f3_7, zv_f3_8, zv_f3_9, zv_c7, zv_f7_0, zv_f7_1, zv_f7_2, zv_f7_3, zv_c67, zv_f67_0, zv_f67_1, zv_f67_2, zv_f67_3, zv_f67_4, zv_f67_5, zv_f67_6, zv_f67_7, zv_c86, zv_f86_0, zv_c87, zv_f87_0, zv_f87_1, zv_f87_2, zv_c89, zv_f89_0, zv_c91, zv_f91_0, zv_f91_1, zv_f91_2, zv_f91_3, zv_c95, zv_f95_0, zv_f95_1, zv_f95_2, zv_f95_3, zv_c99, zv_f99_0, zv_f99_1, zv_f99_2, zv_f99_3, zv_c103, zv_f103_0, zv_f103_1, zv_f103_2, zv_f103_3, zv_r1, zv_r2, zv_r3, zv_r4, zv_r5, zv_r6, zv_r7, zv_r8, zv_r9, zv_r10, zv_r11, zv_r12, zv_r13, zv_r14, zv_r15, zv_r16, zv_r17, zv_r18, zv_r19, zv_r20, zv_r21, zv_l1, zv_l2, zv_l3, zv_l4, zv_l5, zv_l6, zv_l7, zv_l8, zv_l9, zv_l10, zv_l11, zv_l12, zv_l13, zv_l14, zv_l15, zv_l16, zv_l17, zv_l18, zv_l19, zv_l20, zv_l21, zv_p0_3, zv_p0_7, zv_p1_1, zv_w1, zv_p3_3, zv_p3_7, zv_p3_8, zv_p3_9, zv_w2, zv_w3, zv_w4, zv_p7_3, zv_w5, zv_w6, zv_w7, zv_w8, zv_p67_3, zv_p67_4, zv_p67_5, zv_p67_6, zv_p67_7, zv_p86_0, zv_p87_1, zv_p87_2, zv_p89_0, zv_w9, zv_p91_3, zv_w10, zv_w11, zv_w12, zv_p95_3, zv_w13, zv_w14, zv_w15, zv_p99_3, zv_w16, zv_w17, zv_w18, zv_p103_3, zv_w19, zv_w20, zv_w21, zN_c, zN_cL, zN_f0, zN_f1, zN_f2, zN_f3, zN_f4, zN_f5, zN_f6, zN_f7, zN_f8, zN_f9, zN_f10, zN_f11, zN_f12, zN_f13, zN_i1, zN_r0, zN_r1, zN_r2, zN_r3, zN_r4, zN_r5, zN_r6, zN_r7, zN_r8, zN_r9, zN_r10, zN_r11, zN_r12, zN_w0, zP_c, zK_c, zT_c, zT_cL, zT_f0, zT_f1, zT_f2, zT_f3, zT_f4, zT_f5, zT_f6, zT_f7, zT_f8, zT_f9, zT_f10, zT_f11, zT_f12, zT_f13, zT_i1, zT_r0, zT_r1, zT_r2, zT_r3, zT_r4, zT_r5, zT_r6, zT_r7, zT_r8, zT_r9, zT_r10, zT_r11, zT_r12, zT_w0, dup_t, dup_o, va_up_self, va_up_ne, drow_t, drow_o, Option.bind_some, Bool.cond_decide, am_oI_some, am_oV_some, am_oI_ite, am_oV_ite, am_bind_ite, Int.toNat_natCast, Int.toNat_zero, Int.reduceToNat, ite_true, ite_false, not_true_eq_false, not_false_eq_true, decide_true, decide_false, decide_eq_true_eq, Bool.false_eq_true, Nat.add_zero, am_rok1_0, am_rok1_1, cond_true, cond_false, am_w_nat1, true_or, or_true, false_or, or_false, true_and, and_true, false_and, and_false, Int.reduceEq, Int.reduceNeg, Int.reduceLT, Int.reduceLE, or_self, and_self, if_pos, if_neg]
    · rw [am_cI, en_274, bk_274_0]
      simp (disch := omega) only [bk_274_16, mv_p0_0, mv_f0_14, f14, Option.bind_some, Bool.cond_decide, am_oI_some, am_oV_some, am_oI_ite, am_oV_ite, am_bind_ite, Int.toNat_natCast, Int.toNat_zero, Int.reduceToNat, ite_true, ite_false, not_true_eq_false, not_false_eq_true, decide_true, decide_false, decide_eq_true_eq, Bool.false_eq_true, Nat.add_zero, am_rok1_0, am_rok1_1, cond_true, cond_false, am_w_nat1, true_or, or_true, false_or, or_false, true_and, and_true, false_and, and_false, Int.reduceEq, Int.reduceNeg, Int.reduceLT, Int.reduceLE, or_self, and_self, if_pos, if_neg]
  · obtain ⟨Ad, iv, rl, mr, pk, f14, f30, bd, nd, ru, p8⟩ := ctx2 mo wd
    by_cases hi : 0 ≤ i
    · obtain ⟨k, rfl⟩ : ∃ k : Nat, i = k := ⟨i.toNat, by omega⟩
      have hn : ∀ p, p < 128 → cd_has N p = true → 1 ≤ N 9 p := fun p hp e => (iv.2.2.2.2.2.2 p hp e).1
      have c3 := m_lays (mo := mo) (g := g) iv rl mr p8
      have hL : ∀ j, j < 128 → drow (dup M 0 0 0) 14 (lvr N (dup M 0 0 0 14) 128) 14 j = if lvb N j = true then N 9 j else 0 := fun j hj => by
        rw [drow_t]
        unfold lvr
        rw [if_pos hj]
      have mk2 := MK_trans hmk (MK_row (dup M 0 0 0) (r := 14) (by omega) (lvr N (dup M 0 0 0 14) 128))
      generalize drow (dup M 0 0 0) 14 (lvr N (dup M 0 0 0 14) 128) = M1 at c3 hL mk2
      have c4 := m_oldest (mo := mo) (M := M1) (g := g) 0
      obtain ⟨B, key, es⟩ := er_loop (mo := mo) (g := g) nd hn hL (k := k) k 0 _ (by omega) (es_0 hn hL)
      have key' : am_run am_ms 274 30 [am_R mo, am_I k, am_I (od_b (M1 14) 0 128), am_I 0] [] (mv mo M1 g) = some (some (am_I B), mv mo M1 g) := key
      have c2 : am_cI 270 [am_R (x + 13), am_I k] (zv x N P K T S m A h) = some (B, (zv x N P K T S m A h)) := by
        rcases es with ⟨b1, b2⟩ | ⟨a, a1, a2, a3, a4⟩
        · have c2 := s_ebr_no (d := x + 13) (h := (zv x N P K T S m A h)) (i := (k : Int)) (Or.inr iv) (fun p hp => by
            unfold edf
            cases e : lvb N p with
            | false => rfl
            | true =>
              have := b2 p hp e
              exact decide_eq_false (by omega))
          rw [zv_dN] at c2
          rw [b1]
          exact c2
        · rcases first_or (edf N (k : Int)) 128 with hno | ⟨j, j1, j2, j3⟩
          · have h1 := hno a a1
            unfold edf at h1
            rw [a3, a4, Bool.true_and] at h1
            exact absurd rfl (of_decide_eq_false h1)
          · have c2 := s_ebr_at (d := x + 13) (h := (zv x N P K T S m A h)) iv j1 j2 j3
            rw [zv_dN] at c2
            unfold edf at j2
            rw [Bool.and_eq_true] at j2
            have h2 := of_decide_eq_true j2.2
            have e := es_uniq nd j1 a1 j2.1 a3 (by omega)
            rw [a2, ← e]
            exact c2
      refine ⟨B, M1, ?_, ?_, mk2⟩
      · rw [am_cI]; simp (disch := omega) only [en_271, bk_271_0, c2, zv_c0, zv_f0_0, zv_f0_1, zv_f0_2, zv_f0_3, zv_f0_4, zv_f0_5, zv_f0_6, zv_f0_7, zv_f0_8, zv_f0_9, zv_f0_10, zv_f0_11, zv_c1, zv_f1_0, zv_f1_1, zv_c3, zv_f3_0, zv_f3_1, zv_f3_2, zv_f3_3, zv_f3_4, zv_f3_5, zv_f3_6, zv_f3_7, zv_f3_8, zv_f3_9, zv_c7, zv_f7_0, zv_f7_1, zv_f7_2, zv_f7_3, zv_c67, zv_f67_0, zv_f67_1, zv_f67_2, zv_f67_3, zv_f67_4, zv_f67_5, zv_f67_6, zv_f67_7, zv_c86, zv_f86_0, zv_c87, zv_f87_0, zv_f87_1, zv_f87_2, zv_c89, zv_f89_0, zv_c91, zv_f91_0, zv_f91_1, zv_f91_2, zv_f91_3, zv_c95, zv_f95_0, zv_f95_1, zv_f95_2, zv_f95_3, zv_c99, zv_f99_0, zv_f99_1, zv_f99_2, zv_f99_3, zv_c103, zv_f103_0, zv_f103_1, zv_f103_2, zv_f103_3, zv_r1, zv_r2, zv_r3, zv_r4, zv_r5, zv_r6, zv_r7, zv_r8, zv_r9, zv_r10, zv_r11, zv_r12, zv_r13, zv_r14, zv_r15, zv_r16, zv_r17, zv_r18, zv_r19, zv_r20, zv_r21, zv_l1, zv_l2, zv_l3, zv_l4, zv_l5, zv_l6, zv_l7, zv_l8, zv_l9, zv_l10, zv_l11, zv_l12, zv_l13, zv_l14, zv_l15, zv_l16, zv_l17, zv_l18, zv_l19, zv_l20, zv_l21, zv_p0_3, zv_p0_7, zv_p1_1, zv_w1, zv_p3_3, zv_p3_7, zv_p3_8, zv_p3_9, zv_w2, zv_w3, zv_w4, zv_p7_3, zv_w5, zv_w6, zv_w7, zv_w8, zv_p67_3, zv_p67_4, zv_p67_5, zv_p67_6, zv_p67_7, zv_p86_0, zv_p87_1, zv_p87_2, zv_p89_0, zv_w9, zv_p91_3, zv_w10, zv_w11, zv_w12, zv_p95_3, zv_w13, zv_w14, zv_w15, zv_p99_3, zv_w16, zv_w17, zv_w18, zv_p103_3, zv_w19, zv_w20, zv_w21, zN_c, zN_cL, zN_f0, zN_f1, zN_f2, zN_f3, zN_f4, zN_f5, zN_f6, zN_f7, zN_f8, zN_f9, zN_f10, zN_f11, zN_f12, zN_f13, zN_i1, zN_r0, zN_r1, zN_r2, zN_r3, zN_r4, zN_r5, zN_r6, zN_r7, zN_r8, zN_r9, zN_r10, zN_r11, zN_r12, zN_w0, zP_c, zK_c, zT_c, zT_cL, zT_f0, zT_f1, zT_f2, zT_f3, zT_f4, zT_f5, zT_f6, zT_f7, zT_f8, zT_f9, zT_f10, zT_f11, zT_f12, zT_f13, zT_i1, zT_r0, zT_r1, zT_r2, zT_r3, zT_r4, zT_r5, zT_r6, zT_r7, zT_r8, zT_r9, zT_r10, zT_r11, zT_r12, zT_w0, dup_t, dup_o, va_up_self, va_up_ne, drow_t, drow_o, Option.bind_some, Bool.cond_decide, am_oI_some, am_oV_some, am_oI_ite, am_oV_ite, am_bind_ite, Int.toNat_natCast, Int.toNat_zero, Int.reduceToNat, ite_true, ite_false, not_true_eq_false, not_false_eq_true, decide_true, decide_false, decide_eq_true_eq, Bool.false_eq_true, Nat.add_zero, am_rok1_0, am_rok1_1, cond_true, cond_false, am_w_nat1, true_or, or_true, false_or, or_false, true_and, and_true, false_and, and_false, Int.reduceEq, Int.reduceNeg, Int.reduceLT, Int.reduceLE, or_self, and_self, if_pos, if_neg]
      · rw [am_cI, en_274, bk_274_0]
        simp (disch := omega) only [bk_274_18, mv_p0_0, mv_f0_14, mv_c0, f14, c3, c4, Option.bind_some, Bool.cond_decide, am_oI_some, am_oV_some, am_oI_ite, am_oV_ite, am_bind_ite, Int.toNat_natCast, Int.toNat_zero, Int.reduceToNat, ite_true, ite_false, not_true_eq_false, not_false_eq_true, decide_true, decide_false, decide_eq_true_eq, Bool.false_eq_true, Nat.add_zero, am_rok1_0, am_rok1_1, cond_true, cond_false, am_w_nat1, true_or, or_true, false_or, or_false, true_and, and_true, false_and, and_false, Int.reduceEq, Int.reduceNeg, Int.reduceLT, Int.reduceLE, or_self, and_self, if_pos, if_neg]
        rw [key']
        simp only [Option.bind_some, Bool.cond_decide, am_oI_some, am_oV_some, am_oI_ite, am_oV_ite, am_bind_ite, Int.toNat_natCast, Int.toNat_zero, Int.reduceToNat, ite_true, ite_false, not_true_eq_false, not_false_eq_true, decide_true, decide_false, decide_eq_true_eq, Bool.false_eq_true, Nat.add_zero, am_rok1_0, am_rok1_1, cond_true, cond_false, am_w_nat1, true_or, or_true, false_or, or_false, true_and, and_true, false_and, and_false, Int.reduceEq, Int.reduceNeg, Int.reduceLT, Int.reduceLE, or_self, and_self]
    · have c2 := s_ebr_no (d := x + 13) (h := (zv x N P K T S m A h)) (i := i) (Or.inr iv) (fun p _ => by
        unfold edf
        rw [decide_eq_false (fun t => by omega), Bool.and_false])
      rw [zv_dN] at c2
      refine ⟨-1, dup M 0 0 0, ?_, ?_, hmk⟩
      · rw [am_cI]; simp (disch := omega) only [en_271, bk_271_0, c2, zv_c0, zv_f0_0, zv_f0_1, zv_f0_2, zv_f0_3, zv_f0_4, zv_f0_5, zv_f0_6, zv_f0_7, zv_f0_8, zv_f0_9, zv_f0_10, zv_f0_11, zv_c1, zv_f1_0, zv_f1_1, zv_c3, zv_f3_0, zv_f3_1, zv_f3_2, zv_f3_3, zv_f3_4, zv_f3_5, zv_f3_6, zv_f3_7, zv_f3_8, zv_f3_9, zv_c7, zv_f7_0, zv_f7_1, zv_f7_2, zv_f7_3, zv_c67, zv_f67_0, zv_f67_1, zv_f67_2, zv_f67_3, zv_f67_4, zv_f67_5, zv_f67_6, zv_f67_7, zv_c86, zv_f86_0, zv_c87, zv_f87_0, zv_f87_1, zv_f87_2, zv_c89, zv_f89_0, zv_c91, zv_f91_0, zv_f91_1, zv_f91_2, zv_f91_3, zv_c95, zv_f95_0, zv_f95_1, zv_f95_2, zv_f95_3, zv_c99, zv_f99_0, zv_f99_1, zv_f99_2, zv_f99_3, zv_c103, zv_f103_0, zv_f103_1, zv_f103_2, zv_f103_3, zv_r1, zv_r2, zv_r3, zv_r4, zv_r5, zv_r6, zv_r7, zv_r8, zv_r9, zv_r10, zv_r11, zv_r12, zv_r13, zv_r14, zv_r15, zv_r16, zv_r17, zv_r18, zv_r19, zv_r20, zv_r21, zv_l1, zv_l2, zv_l3, zv_l4, zv_l5, zv_l6, zv_l7, zv_l8, zv_l9, zv_l10, zv_l11, zv_l12, zv_l13, zv_l14, zv_l15, zv_l16, zv_l17, zv_l18, zv_l19, zv_l20, zv_l21, zv_p0_3, zv_p0_7, zv_p1_1, zv_w1, zv_p3_3, zv_p3_7, zv_p3_8, zv_p3_9, zv_w2, zv_w3, zv_w4, zv_p7_3, zv_w5, zv_w6, zv_w7, zv_w8, zv_p67_3, zv_p67_4, zv_p67_5, zv_p67_6, zv_p67_7, zv_p86_0, zv_p87_1, zv_p87_2, zv_p89_0, zv_w9, zv_p91_3, zv_w10, zv_w11, zv_w12, zv_p95_3, zv_w13, zv_w14, zv_w15, zv_p99_3, zv_w16, zv_w17, zv_w18, zv_p103_3, zv_w19, zv_w20, zv_w21, zN_c, zN_cL, zN_f0, zN_f1, zN_f2, zN_f3, zN_f4, zN_f5, zN_f6, zN_f7, zN_f8, zN_f9, zN_f10, zN_f11, zN_f12, zN_f13, zN_i1, zN_r0, zN_r1, zN_r2, zN_r3, zN_r4, zN_r5, zN_r6, zN_r7, zN_r8, zN_r9, zN_r10, zN_r11, zN_r12, zN_w0, zP_c, zK_c, zT_c, zT_cL, zT_f0, zT_f1, zT_f2, zT_f3, zT_f4, zT_f5, zT_f6, zT_f7, zT_f8, zT_f9, zT_f10, zT_f11, zT_f12, zT_f13, zT_i1, zT_r0, zT_r1, zT_r2, zT_r3, zT_r4, zT_r5, zT_r6, zT_r7, zT_r8, zT_r9, zT_r10, zT_r11, zT_r12, zT_w0, dup_t, dup_o, va_up_self, va_up_ne, drow_t, drow_o, Option.bind_some, Bool.cond_decide, am_oI_some, am_oV_some, am_oI_ite, am_oV_ite, am_bind_ite, Int.toNat_natCast, Int.toNat_zero, Int.reduceToNat, ite_true, ite_false, not_true_eq_false, not_false_eq_true, decide_true, decide_false, decide_eq_true_eq, Bool.false_eq_true, Nat.add_zero, am_rok1_0, am_rok1_1, cond_true, cond_false, am_w_nat1, true_or, or_true, false_or, or_false, true_and, and_true, false_and, and_false, Int.reduceEq, Int.reduceNeg, Int.reduceLT, Int.reduceLE, or_self, and_self, if_pos, if_neg]
      · rw [am_cI, en_274, bk_274_0]
        simp (disch := omega) only [bk_274_16, mv_p0_0, mv_f0_14, f14, Option.bind_some, Bool.cond_decide, am_oI_some, am_oV_some, am_oI_ite, am_oV_ite, am_bind_ite, Int.toNat_natCast, Int.toNat_zero, Int.reduceToNat, ite_true, ite_false, not_true_eq_false, not_false_eq_true, decide_true, decide_false, decide_eq_true_eq, Bool.false_eq_true, Nat.add_zero, am_rok1_0, am_rok1_1, cond_true, cond_false, am_w_nat1, true_or, or_true, false_or, or_false, true_and, and_true, false_and, and_false, Int.reduceEq, Int.reduceNeg, Int.reduceLT, Int.reduceLE, or_self, and_self, if_pos, if_neg]
end ELDL
