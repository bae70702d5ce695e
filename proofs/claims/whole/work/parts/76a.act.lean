/-! ===== BRIDGE (13): an act, by class and model ===== -/
def ch_v (D : Nat → Nat → Int) (a : Int) : Int := if ¬ (0 ≤ a ∧ a ≤ 3) then -2 else if D 0 6 = a then -3 else D 0 6
def ch_D (D : Nat → Nat → Int) (a : Int) : Nat → Nat → Int := if (0 ≤ a ∧ a ≤ 3) ∧ ¬ D 0 6 = a then dup D 0 6 a else D
def ac_v (D : Nat → Nat → Int) (Z : Nat) (what a b : Int) : Int := if what = 0 ∨ what = 1 then wr_v D Z a b else if what = 2 then cl_v D Z else if what = 3 then (cd_kv D : Int) else if what = 4 then (if op_ok D Z a = 0 then (cd_many (o_hd D a.toNat) Z 1 : Int) else op_ok D Z a) else if what = 5 then (if ¬ (0 ≤ a ∧ a < Z) then -1 else if ¬ D 2 a.toNat = 1 then -3 else (cd_many (o_cl D a.toNat) Z 1 : Int)) else if what = 6 then (if ¬ (0 ≤ a ∧ a < Z) then -1 else if ¬ (D 2 a.toNat = 1 ∨ D 2 a.toNat = 2) then -3 else D 3 a.toNat) else if what = 7 then (if rs_ok D Z a = 0 then am_w (D 4 a.toNat + 1) else rs_ok D Z a) else ch_v D a
def ac_D (D : Nat → Nat → Int) (Z : Nat) (what a b : Int) : Nat → Nat → Int := if what = 0 ∨ what = 1 then wr_D D Z a b else if what = 2 then cl_D D Z else if what = 3 then o_cr D Z else if what = 4 then (if op_ok D Z a = 0 then o_hd D a.toNat else D) else if what = 5 then (if (0 ≤ a ∧ a < Z) ∧ D 2 a.toNat = 1 then o_cl D a.toNat else D) else if what = 6 then (if (0 ≤ a ∧ a < Z) ∧ (D 2 a.toNat = 1 ∨ D 2 a.toNat = 2) then o_fi D a.toNat else D) else if what = 7 then (if rs_ok D Z a = 0 then o_em D a.toNat else D) else ch_D D a
/-- what an act of the class has to do with one of the model -/
def AR (D A : Nat → Nat → Int) (Z : Nat) (v : Int) (E : Nat → Nat → Int) (why : Int) (DPp : Prop) (ok : Bool) (w : Int) (B : Nat → Nat → Int) (O : Nat → Int) (n : Nat) : Prop :=
  (¬ why = -1 → v = -1 - why ∧ E = D ∧ 0 ≤ why ∧ why ≤ 3) ∧ (why = -1 → DPp ∧ (ok = false → v = -4 ∧ E = D) ∧ (ok = true → v = w ∧ 0 ≤ w ∧ RL E B true O 0 8 ∧ IV E Z 3 ∧ BD E n))
section ACT
variable {D A : Nat → Nat → Int} {Z : Nat} {O : Nat → Int}
theorem AR_no {v why w : Int} {E B : Nat → Nat → Int} {p : Prop} {ok : Bool} {n : Nat} (h : ¬ why = -1) (hv : v = -1 - why) (hE : E = D) (h0 : 0 ≤ why ∧ why ≤ 3) : AR D A Z v E why p ok w B O n := ⟨fun _ => ⟨hv, hE, h0⟩, fun q => absurd q h⟩
theorem AR_yes {v why w : Int} {E B : Nat → Nat → Int} {p : Prop} {ok : Bool} {n : Nat} (h : why = -1) (hp : p) (hok : ok = true) (hv : v = w) (hw : 0 ≤ w) (hr : RL E B true O 0 8) (hi : IV E Z 3) (hb : BD E n) : AR D A Z v E why p ok w B O n := ⟨fun q => absurd h q, fun _ => ⟨hp, fun q => by rw [hok] at q; exact absurd q (by decide), fun _ => ⟨hv, hw, hr, hi, hb⟩⟩⟩
theorem act_put (iv : IV D Z 3) (rl : RL D A true O 0 8) {n : Nat} (bd : BD D n) (hn : n + 3000 < 2147483647) (a val : Int) (hno : wr_no D a val = 0) : DP A Z 0 a ∧ (pt_b A Z a = false → wr_v D Z a val = -4 ∧ wr_D D Z a val = D) ∧ (pt_b A Z a = true → wr_v D Z a val = pt_v A Z a ∧ 0 ≤ pt_v A Z a ∧ RL (wr_D D Z a val) (pt_A A Z a val) true O 0 8 ∧ IV (wr_D D Z a val) Z 3 ∧ BD (wr_D D Z a val) (n + 3000)) := by
  have hk : 0 ≤ a ∧ a < 32 := by
    unfold wr_no at hno
    by_cases q : 0 < D 0 0 ∧ 0 ≤ a ∧ a < 32
    · exact q.2
    · rw [if_pos q] at hno; omega
  obtain ⟨k, rfl⟩ : ∃ k : Nat, a = k := ⟨a.toNat, by omega⟩
  obtain ⟨h1, h2, h3, h4, h5, _⟩ := pt_all iv rl (key := k) (by omega) val (Or.inl rfl) (by have := bd.1.2; omega)
  have hb := pt_bd iv (key := k) (by omega) val bd hn
  have ev : wr_v D Z k val = w_val D Z (w_s D k) (w_k D Z (w_s D k)) := by unfold wr_v; rw [if_pos hno]
  have eD : wr_D D Z k val = w_res D Z (w_s D k) (w_k D Z (w_s D k)) k val := by unfold wr_D; rw [if_pos hno]
  rw [ev, eD]
  refine ⟨?_, ?_, ?_⟩
  · unfold DP; rw [if_pos (Or.inl rfl)]; exact h1
  · intro q; exact ⟨(h5 q).1, (h5 q).2.2⟩
  · intro q; exact ⟨(h4 q).1, (h4 q).2, h2, h3, hb⟩
theorem iv_hd (iv : IV D Z 3) {z : Nat} (hz : z < Z) (h : ¬ D 2 z = 3) : IV (o_hd D z) Z 3 := by
  unfold o_hd
  exact iv_log (iv_5 (iv_st iv (Or.inr (fun _ => (iv.1.1.2.1 z hz).2 h)) (fun q => by omega) (fun q => by omega)) _ _) _ _ _
theorem rl_5 {z : Nat} (rl : RL D A true O 0 z) : RL (dup D 5 z 0) (dup A 5 z 0) true O 0 8 := by
  obtain ⟨⟨a0, a2, a3, a4, a6⟩, ⟨b4, b5⟩, c, d, e, f, g⟩ := rl
  refine ⟨⟨?_, ?_, ?_, ?_, ?_⟩, ⟨?_, ?_⟩, ?_, ?_, ?_, ?_, LG_of g (dup_o _ _ _ (by omega))⟩
  · rw [dup_o _ _ _ (by omega), dup_o _ _ _ (by omega), a0]
  · rw [dup_o _ _ _ (by omega), dup_o _ _ _ (by omega), a2]
  · rw [dup_o _ _ _ (by omega), dup_o _ _ _ (by omega), a3]
  · rw [dup_o _ _ _ (by omega), dup_o _ _ _ (by omega), a4]
  · rw [dup_o _ _ _ (by omega), dup_o _ _ _ (by omega), a6]
  · rw [dup_o _ _ _ (by omega), dup_o _ _ _ (by omega), b4]
  · rw [dup_o _ _ _ (by omega), dup_o _ _ _ (by omega), b5]
  · intro t ht8 _ hs
    rw [dup_o _ _ _ (by omega)] at hs
    rw [dup_t, dup_t]
    by_cases et : t = z
    · rw [et, va_up_self, va_up_self, Int.add_zero]
    · rw [va_up_ne _ _ et, va_up_ne _ _ et]; exact c t ht8 et hs
  · intro p hp hh
    rw [cd_has_of (dup_o _ _ _ (by omega)) (dup_o _ _ _ (by omega))] at hh
    rw [dup_o _ _ _ (by omega), dup_o _ _ _ (by omega), dup_o _ _ _ (by omega), dup_o _ _ _ (by omega), dup_o _ _ _ (by omega), dup_o _ _ _ (by omega)]
    exact d p hp hh
  · rw [dup_o _ _ _ (by omega), dup_o _ _ _ (by omega)]; exact e
  · intro m
    exact ⟨(f m).1, LR_of (f m).2 (dup_o _ _ _ (by omega)) (dup_o _ _ _ (by omega)) (dup_o _ _ _ (by omega)) (dup_o _ _ _ (by omega)) (dup_o _ _ _ (by omega))⟩
theorem rl_hd (iv : IV D Z 3) (rl : RL D A true O 0 8) (z : Nat) : RL (o_hd D z) (m_hd A z) true O 0 8 := by
  unfold o_hd m_hd
  refine rl_log (LW_of iv.1.1.2.2 ?_) (rl_5 (rl_st rl z 1 (fun t h _ _ => by omega) (Or.inr rfl))) _ _ _
  rw [dup_o _ _ _ (by omega), dup_o _ _ _ (by omega)]
theorem rl_pol (rl : RL D A true O 0 8) (a : Int) : RL (dup D 0 6 a) (dup A 0 6 a) true O 0 8 := by
  have hh : ∀ p, cd_has (dup D 0 6 a) p = cd_has D p := by
    intro p
    unfold cd_has
    rw [dup_t, va_up_ne _ _ (by omega), dup_o _ _ _ (by omega)]
  obtain ⟨⟨a0, a2, a3, a4, a6⟩, ⟨b4, b5⟩, c, d, e, f, g⟩ := rl
  refine ⟨⟨?_, ?_, ?_, ?_, ?_⟩, ⟨?_, ?_⟩, ?_, ?_, ?_, ?_, LG_of g (dup_o _ _ _ (by omega))⟩
  · rw [dup_t, dup_t, a0]
  · rw [dup_o _ _ _ (by omega), dup_o _ _ _ (by omega), a2]
  · rw [dup_o _ _ _ (by omega), dup_o _ _ _ (by omega), a3]
  · rw [dup_o _ _ _ (by omega), dup_o _ _ _ (by omega), a4]
  · rw [dup_o _ _ _ (by omega), dup_o _ _ _ (by omega), a6]
  · rw [dup_o _ _ _ (by omega), dup_o _ _ _ (by omega), b4]
  · rw [dup_o _ _ _ (by omega), dup_o _ _ _ (by omega), b5]
  · rw [dup_o _ _ _ (by omega), dup_o _ _ _ (by omega), dup_o _ _ _ (by omega)]; exact c
  · intro p hp h
    rw [hh] at h
    rw [dup_o _ _ _ (by omega), dup_o _ _ _ (by omega), dup_o _ _ _ (by omega), dup_o _ _ _ (by omega), dup_o _ _ _ (by omega), dup_o _ _ _ (by omega)]
    exact d p hp h
  · rw [dup_o _ _ _ (by omega), dup_o _ _ _ (by omega)]; exact e
  · intro m
    exact ⟨(f m).1, LR_of (f m).2 (dup_o _ _ _ (by omega)) (dup_o _ _ _ (by omega)) (dup_o _ _ _ (by omega)) (dup_o _ _ _ (by omega)) (dup_o _ _ _ (by omega))⟩
theorem iv_pol {x : Nat} (iv : IV D Z x) {a : Int} (ha : 0 ≤ a ∧ a ≤ 3) : IV (dup D 0 6 a) Z x := by
  have o : ∀ r, r ≠ 0 → dup D 0 6 a r = D r := fun r hr => dup_o _ _ _ hr
  have o0 : ∀ j, j ≠ 6 → dup D 0 6 a 0 j = D 0 j := fun j hj => by rw [dup_t, va_up_ne _ _ hj]
  have hh : ∀ p, cd_has (dup D 0 6 a) p = cd_has D p := by
    intro p
    unfold cd_has
    rw [o0 0 (by omega), o 3 (by omega)]
  obtain ⟨⟨⟨w, cw, lw⟩, a1, a2, a3⟩, b, c, d, e, f⟩ := iv
  have w' : DW (dup D 0 6 a) Z := by
    unfold DW at w ⊢
    rw [o0 0 (by omega), o0 1 (by omega), o0 4 (by omega), o 3 (by omega), o 7 (by omega), o 10 (by omega)]
    exact w
  have cw' : CW (dup D 0 6 a) Z := by
    unfold CW at cw ⊢
    rw [o0 1 (by omega), o 2 (by omega), o 3 (by omega)]
    exact cw
  refine ⟨⟨⟨w', cw', LW_of lw (o 16 (by omega))⟩, a1, by rw [o0 4 (by omega)]; exact a2, by rw [o0 1 (by omega)]; exact a3⟩, ?_, ?_, ?_, ?_, ?_⟩
  · exact CC_of b (fun p _ => (hh p).symm) (fun p _ _ => by rw [o 7 (by omega), o 9 (by omega)]; exact ⟨rfl, rfl⟩) (o 10 (by omega)) (o 11 (by omega)) (o 12 (by omega))
  · rw [o 2 (by omega), o 3 (by omega)]; exact c
  · unfold HV at d ⊢; rw [o0 4 (by omega), o 3 (by omega), o 6 (by omega)]; exact d
  · rw [o0 2 (by omega), o0 3 (by omega), o0 5 (by omega), dup_t, va_up_self]
    exact ⟨e.1, e.2.1, e.2.2.1, ha⟩
  · rw [o 1 (by omega), o 9 (by omega)]
    exact ⟨f.1, fun p hp h => f.2 p hp (by rw [← hh p]; exact h)⟩
theorem act_all (iv : IV D Z 3) (rl : RL D A true O 0 8) {n : Nat} (bd : BD D n) (hn : n + 3000 < 2147483647) {what a b : Int} (hw : 0 ≤ what ∧ what ≤ 8) (hb0 : what = 0 → 0 ≤ b ∧ b ≤ 999) (hb1 : what = 1 → b = -1) : AR D A Z (ac_v D Z what a b) (ac_D D Z what a b) (st A Z what a b) (DP A Z what a) (ds_b A Z what a) (ds_v A Z what a) (ds_A A Z what a b) O (n + 3000) := by
  have hZ := iv.pw.1
  have hZ0 := iv.1.2.1
  have hZ8 := iv.pw.2.1
  have hA2 := rl.1.2.1
  have hA3 := rl.1.2.2.1
  have bd' := bd.mono (show n ≤ n + 3000 by omega)
  unfold ac_v ac_D st ds_b ds_v ds_A
  by_cases p01 : what = 0 ∨ what = 1
  · rw [if_pos p01, if_pos p01, if_pos p01, if_pos p01]
    by_cases hk : 0 ≤ a ∧ a < 32
    · by_cases p0 : what = 0
      · have hb := hb0 p0
        rw [if_pos p0, if_pos p0, if_neg (fun q => q hk), if_neg (fun q => q hb)]
        have hno : wr_no D a b = 0 := by
          unfold wr_no
          rw [if_neg (fun q => q ⟨by omega, hk⟩), if_neg (by omega)]
        obtain ⟨h1, h2, h3⟩ := act_put iv rl bd hn a b hno
        rw [p0]
        exact ⟨fun q => absurd rfl q, fun _ => ⟨h1, h2, h3⟩⟩
      · have p1 := p01.resolve_left p0
        rw [if_neg p0, if_neg p0, if_pos p1, if_pos p1, if_neg (fun q => q hk)]
        obtain ⟨k, rfl⟩ : ∃ k : Nat, a = k := ⟨a.toNat, by omega⟩
        rw [rl_val iv rl (by omega), hb1 p1]
        by_cases hv : cd_val D k = -1
        · rw [if_pos hv]
          have hno : wr_no D k (-1) = -3 := by
            unfold wr_no
            rw [if_neg (fun q => q ⟨by omega, hk⟩), Int.toNat_natCast, if_pos ⟨rfl, hv⟩]
          refine AR_no (by omega) ?_ ?_ (by omega)
          · unfold wr_v; rw [hno]; rfl
          · unfold wr_D; rw [hno]; rfl
        · rw [if_neg hv]
          have hno : wr_no D k (-1) = 0 := by
            unfold wr_no
            rw [if_neg (fun q => q ⟨by omega, hk⟩), Int.toNat_natCast, if_neg (fun q => hv q.2)]
          obtain ⟨h1, h2, h3⟩ := act_put iv rl bd hn k (-1) hno
          have h1' : DP A Z what k := by
            unfold DP at h1 ⊢
            rw [if_pos (Or.inl rfl)] at h1
            rw [if_pos p01]
            exact h1
          exact ⟨fun q => absurd rfl q, fun _ => ⟨h1', h2, h3⟩⟩
    · have hno : wr_no D a b = -1 := by
        unfold wr_no
        rw [if_pos (fun q => hk q.2)]
      have hst : (if what = 0 then (if ¬ (0 ≤ a ∧ a < 32) then (0 : Int) else if ¬ (0 ≤ b ∧ b ≤ 999) then 1 else -1) else if what = 1 then (if ¬ (0 ≤ a ∧ a < 32) then 0 else if ml_val A Z a = -1 then 2 else -1) else if what = 2 then ml_bad A Z else if what = 3 then -1 else if what = 4 then st_op A Z a else if what = 5 then (if ¬ (0 ≤ a ∧ a < Z) then 0 else if ¬ A 2 a.toNat = 1 then 2 else -1) else if what = 6 then (if ¬ (0 ≤ a ∧ a < Z) then 0 else if ¬ cd_act A a.toNat = true then 2 else -1) else if what = 7 then (if ¬ (0 ≤ a ∧ a < Z) then 0 else if A 2 a.toNat = 0 then 2 else if 0 < ml_nl A Z a.toNat then 3 else -1) else (if ¬ (0 ≤ a ∧ a ≤ 3) then 1 else if A 0 6 = a then 2 else -1)) = 0 := by
        rcases p01 with q | q
        · rw [if_pos q, if_pos hk]
        · rw [if_neg (by omega), if_pos q, if_pos hk]
      rw [hst]
      refine AR_no (by omega) ?_ ?_ (by omega)
      · unfold wr_v; rw [hno]; rfl
      · unfold wr_D; rw [hno]; rfl
  have n0 : ¬ what = 0 := fun q => p01 (Or.inl q)
  have n1 : ¬ what = 1 := fun q => p01 (Or.inr q)
  rw [if_neg p01, if_neg p01, if_neg p01, if_neg p01, if_neg n0, if_neg n1, if_neg n0, if_neg n1]
  by_cases p2 : what = 2
  · rw [if_pos p2, if_pos p2, if_pos p2, if_pos p2, if_pos p2, rl_bad iv rl]
    unfold cl_v cl_D
    by_cases e : cd_zc D Z (D 0 6) = -1
    · rw [if_pos e, if_pos e, if_pos (show w_bad D Z = true from decide_eq_true (Or.inl e))]
      exact AR_no (by omega) (by omega) rfl (by omega)
    · rw [if_neg e, if_neg e]
      cases hb : w_bad D Z with
      | true =>
        rw [if_pos rfl, if_pos rfl, if_pos rfl]
        exact AR_no (by omega) (by omega) rfl (by omega)
      | false =>
        rw [if_neg (by decide), if_neg (by decide), if_neg (by decide)]
        obtain ⟨s1, s2, _, _, _, _, s7, s8⟩ := cl_step iv rl hb (Or.inl rfl)
        have etk : ml_tk A Z (A 0 6) 0 Z = cd_zc D Z (D 0 6) := by rw [rl.1.1]; exact rl_tk iv rl ⟨iv.2.2.2.2.1.2.2.2.1, iv.2.2.2.2.1.2.2.2.2⟩
        have hz := zc_at e
        refine AR_yes rfl ?_ rfl ?_ ?_ s2 s1 ((cl_bd iv hb bd (by omega)).mono (by omega))
        · unfold DP
          rw [if_neg p01, if_pos p2]
          exact ⟨by rw [etk]; exact e, s7⟩
        · rw [s8, etk, rl_nl iv rl hz.1]
        · omega
  rw [if_neg p2, if_neg p2, if_neg p2, if_neg p2, if_neg p2]
  by_cases p3 : what = 3
  · rw [if_pos p3, if_pos p3, if_pos p3, if_pos p3, if_pos p3]
    obtain ⟨s1, s2, s3⟩ := cr_all iv rl
    refine AR_yes rfl ?_ rfl (by rw [s3]) (by omega) s1 s2 ((cr_bd iv bd).mono (by omega))
    unfold DP
    rw [if_neg p01, if_neg p2, if_pos p3]
    trivial
  rw [if_neg p3, if_neg p3, if_neg p3, if_neg p3, if_neg p3]
  have hDP : 4 ≤ what ∧ what ≤ 7 → (0 ≤ a ∧ a < (Z : Int)) → DP A Z what a := by
    intro h1 h2
    unfold DP
    rw [if_neg p01, if_neg p2, if_neg p3, if_pos h1]
    exact h2
  by_cases p4 : what = 4
  · rw [if_pos p4, if_pos p4, if_pos p4, if_pos p4, if_pos p4]
    have est : st_op A Z a = if ¬ (0 ≤ a ∧ a < Z) then 0 else if D 2 a.toNat = 1 ∨ D 2 a.toNat = 3 then 2 else if D 0 2 ≤ (cd_many D Z 1 : Int) ∨ (D 2 a.toNat = 0 ∧ D 0 3 ≤ ((cd_many D Z 1 + cd_many D Z 2 : Nat) : Int)) then 3 else -1 := by
      unfold st_op
      rw [hA2, rl.1.1, cd_many_of hA2, cd_many_of hA2]
    by_cases e1 : 0 ≤ a ∧ a < Z
    · have g1 : ¬ ¬ (0 ≤ a ∧ a < (Z : Int)) := fun q => q e1
      by_cases e2 : D 2 a.toNat = 1 ∨ D 2 a.toNat = 3
      · have eo : op_ok D Z a = -3 := by unfold op_ok; rw [if_neg g1, if_pos e2]
        rw [if_neg g1, if_pos e2] at est
        rw [est, eo]
        exact AR_no (by omega) rfl rfl (by omega)
      · by_cases e3 : D 0 2 ≤ (cd_many D Z 1 : Int) ∨ (D 2 a.toNat = 0 ∧ D 0 3 ≤ ((cd_many D Z 1 + cd_many D Z 2 : Nat) : Int))
        · have eo : op_ok D Z a = -4 := by unfold op_ok; rw [if_neg g1, if_neg e2, if_pos e3]
          rw [if_neg g1, if_neg e2, if_pos e3] at est
          rw [est, eo]
          exact AR_no (by omega) rfl rfl (by omega)
        · have eo : op_ok D Z a = 0 := by unfold op_ok; rw [if_neg g1, if_neg e2, if_neg e3]
          rw [if_neg g1, if_neg e2, if_neg e3] at est
          rw [est, eo, if_pos rfl, if_pos rfl]
          have hr := rl_hd iv rl a.toNat
          refine AR_yes rfl (hDP (by omega) e1) rfl ?_ (by omega) hr (iv_hd iv (by omega) (fun q => e2 (Or.inr q))) (BD_of bd' ?_ ?_ ?_)
          · rw [cd_many_of hr.1.2.1]
          · unfold o_hd; rw [lga_o _ _ _ _ (by omega), dup_o _ _ _ (by omega), dup_o _ _ _ (by omega)]
          · unfold o_hd; rw [lga_o _ _ _ _ (by omega), dup_o _ _ _ (by omega), dup_o _ _ _ (by omega)]
          · unfold o_hd; rw [lga_o _ _ _ _ (by omega), dup_o _ _ _ (by omega), dup_o _ _ _ (by omega)]
    · have eo : op_ok D Z a = -1 := by unfold op_ok; rw [if_pos e1]
      rw [if_pos e1] at est
      rw [est, eo]
      exact AR_no (by omega) rfl rfl (by omega)
  rw [if_neg p4, if_neg p4, if_neg p4, if_neg p4, if_neg p4]
  by_cases p5 : what = 5
  · rw [if_pos p5, if_pos p5, if_pos p5, if_pos p5, if_pos p5, hA2]
    by_cases e1 : 0 ≤ a ∧ a < Z
    · have g1 : ¬ ¬ (0 ≤ a ∧ a < (Z : Int)) := fun q => q e1
      rw [if_neg g1, if_neg g1]
      by_cases e2 : D 2 a.toNat = 1
      · have g2 : ¬ ¬ D 2 a.toNat = 1 := fun q => q e2
        have g3 : (0 ≤ a ∧ a < (Z : Int)) ∧ D 2 a.toNat = 1 := ⟨e1, e2⟩
        rw [if_neg g2, if_neg g2, if_pos g3]
        have hr := rl_cl iv.1.1.2.2 rl a.toNat
        refine AR_yes rfl (hDP (by omega) e1) rfl ?_ (by omega) hr (iv_cl iv (by omega) e2) (BD_of bd' ?_ ?_ ?_)
        · rw [cd_many_of hr.1.2.1]
        · rw [o_cl_o _ _ (by omega) (by omega)]
        · rw [o_cl_o _ _ (by omega) (by omega)]
        · rw [o_cl_o _ _ (by omega) (by omega)]
      · have g3 : ¬ ((0 ≤ a ∧ a < (Z : Int)) ∧ D 2 a.toNat = 1) := fun q => e2 q.2
        rw [if_pos e2, if_pos e2, if_neg g3]
        exact AR_no (by omega) (by omega) rfl (by omega)
    · have g3 : ¬ ((0 ≤ a ∧ a < (Z : Int)) ∧ D 2 a.toNat = 1) := fun q => e1 q.1
      rw [if_pos e1, if_pos e1, if_neg g3]
      exact AR_no (by omega) (by omega) rfl (by omega)
  rw [if_neg p5, if_neg p5, if_neg p5, if_neg p5, if_neg p5]
  by_cases p6 : what = 6
  · rw [if_pos p6, if_pos p6, if_pos p6, if_pos p6, if_pos p6, hA3, cd_act_of hA2]
    by_cases e1 : 0 ≤ a ∧ a < Z
    · have g1 : ¬ ¬ (0 ≤ a ∧ a < (Z : Int)) := fun q => q e1
      rw [if_neg g1, if_neg g1]
      by_cases e2 : D 2 a.toNat = 1 ∨ D 2 a.toNat = 2
      · have g2 : ¬ ¬ (D 2 a.toNat = 1 ∨ D 2 a.toNat = 2) := fun q => q e2
        have g3 : (0 ≤ a ∧ a < (Z : Int)) ∧ (D 2 a.toNat = 1 ∨ D 2 a.toNat = 2) := ⟨e1, e2⟩
        have g4 : ¬ ¬ cd_act D a.toNat = true := fun q => q (decide_eq_true e2)
        rw [if_neg g2, if_neg g4, if_pos g3]
        have hr := rl_fi iv.1.1.2.2 rl a.toNat
        refine AR_yes rfl (hDP (by omega) e1) rfl rfl (iv.pw.2.2 _ (by omega)).1 hr (iv_fi iv _) (BD_of bd' ?_ ?_ ?_)
        · rw [o_fi_o _ _ (by omega) (by omega)]
        · rw [o_fi_o _ _ (by omega) (by omega)]
        · rw [o_fi_o _ _ (by omega) (by omega)]
      · have g3 : ¬ ((0 ≤ a ∧ a < (Z : Int)) ∧ (D 2 a.toNat = 1 ∨ D 2 a.toNat = 2)) := fun q => e2 q.2
        have g4 : ¬ cd_act D a.toNat = true := fun q => e2 (of_decide_eq_true q)
        rw [if_pos e2, if_pos g4, if_neg g3]
        exact AR_no (by omega) (by omega) rfl (by omega)
    · have g3 : ¬ ((0 ≤ a ∧ a < (Z : Int)) ∧ (D 2 a.toNat = 1 ∨ D 2 a.toNat = 2)) := fun q => e1 q.1
      rw [if_pos e1, if_pos e1, if_neg g3]
      exact AR_no (by omega) (by omega) rfl (by omega)
  rw [if_neg p6, if_neg p6, if_neg p6, if_neg p6, if_neg p6]
  by_cases p7 : what = 7
  · rw [if_pos p7, if_pos p7, if_pos p7, if_pos p7, if_pos p7, hA2, rl.1.2.2.2.1]
    by_cases e1 : 0 ≤ a ∧ a < Z
    · have g1 : ¬ ¬ (0 ≤ a ∧ a < (Z : Int)) := fun q => q e1
      rw [if_neg g1, rl_nl iv rl (by omega)]
      by_cases e2 : D 2 a.toNat = 0
      · have eo : rs_ok D Z a = -3 := by unfold rs_ok; rw [if_neg g1, if_pos e2]
        rw [if_pos e2, eo]
        exact AR_no (by omega) rfl rfl (by omega)
      · rw [if_neg e2]
        by_cases e3 : 0 < cd_nl D a.toNat
        · have eo : rs_ok D Z a = -4 := by unfold rs_ok; rw [if_neg g1, if_neg e2, if_pos e3]
          rw [if_pos e3, eo]
          exact AR_no (by omega) rfl rfl (by omega)
        · have eo : rs_ok D Z a = 0 := by unfold rs_ok; rw [if_neg g1, if_neg e2, if_neg e3]
          rw [if_neg e3, eo, if_pos rfl, if_pos rfl]
          have hr := rl_em iv rl (z := a.toNat) (by omega)
          have h4 := bd.2.2.1 a.toNat (by omega)
          refine AR_yes rfl (hDP (by omega) e1) rfl rfl ?_ hr (iv_em iv (by omega)) ((em_bd iv bd (by omega) _).mono (by omega))
          rw [am_w_id (by omega) (by omega)]
          omega
    · have eo : rs_ok D Z a = -1 := by unfold rs_ok; rw [if_pos e1]
      rw [if_pos e1, eo]
      exact AR_no (by omega) rfl rfl (by omega)
  rw [if_neg p7, if_neg p7, if_neg p7, if_neg p7, if_neg p7, rl.1.1]
  unfold ch_v ch_D
  have hpol := iv.2.2.2.2.1.2.2.2
  by_cases e1 : 0 ≤ a ∧ a ≤ 3
  · have g1 : ¬ ¬ (0 ≤ a ∧ a ≤ 3) := fun q => q e1
    rw [if_neg g1, if_neg g1]
    by_cases e2 : D 0 6 = a
    · have g3 : ¬ ((0 ≤ a ∧ a ≤ 3) ∧ ¬ D 0 6 = a) := fun q => q.2 e2
      rw [if_pos e2, if_pos e2, if_neg g3]
      exact AR_no (by omega) (by omega) rfl (by omega)
    · have g3 : (0 ≤ a ∧ a ≤ 3) ∧ ¬ D 0 6 = a := ⟨e1, e2⟩
      rw [if_neg e2, if_neg e2, if_pos g3]
      refine AR_yes rfl ?_ rfl rfl hpol.1 (rl_pol rl a) (iv_pol iv e1) (BD_of bd' ?_ ?_ ?_)
      · unfold DP
        rw [if_neg p01, if_neg p2, if_neg p3, if_neg (by omega)]
        trivial
      · rw [dup_o _ _ _ (by omega)]
      · rw [dup_o _ _ _ (by omega)]
      · rw [dup_o _ _ _ (by omega)]
  · have g3 : ¬ ((0 ≤ a ∧ a ≤ 3) ∧ ¬ D 0 6 = a) := fun q => e1 q.1
    rw [if_pos e1, if_pos e1, if_neg g3]
    exact AR_no (by omega) (by omega) rfl (by omega)
end ACT
