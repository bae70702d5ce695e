/-! ===== text: a drive ===== -/
section TXD
variable {x mo lo n m Z : Nat} {A : Nat → Nat} {N P K T S : Nat → Nat → Int} {HD : Nat → Nat → Nat → Int} {M Ad : Nat → Nat → Int} {h g : am_H}
theorem zn_begin : am_cV 68 [am_R (x + 13), am_R (x + 4)] (zv x N P K T S m A h) = some (zv x (bgn N (S 2)) P K T S m A h) := by
  have c := d_begin (d := x + 13) (D := N) (h := (zv x N P K T S m A h)) (r := x + 4) (R := S 2) (zv_in (i := 4) (by omega)) (by omega)
  rw [zv_dN, zv_dN] at c
  exact c
/-- one put of a new drive, by class and model -/
theorem nw_put (iv : IV N Z 3) (rl : RL N Ad true (fun _ => 0) 0 8) (bd : BD N n) (nd : ND N) (hn : n + 3000 < 2147483647) (mr : MR M Ad) {key : Nat} (hk : key < 32) {val : Int} (hv : ¬ val = -1) : ∃ (b : Bool) (v : Int) (P' N' Ad' M' : Nat → Nat → Int), am_cI 102 [am_R (x + 13), am_I key, am_I val, am_R (x + 31)] (zv x N P K T S m A h) = some (v, zv x N' P' K T S m A h) ∧ am_cI 135 [am_R mo, am_R (mo + 8), am_I key, am_I val] (mv mo (drow M 8 (pack Ad)) g) = some (if b = true then 1 else 0, mv mo (drow M' 8 (pack Ad')) g) ∧ ME M M' ∧ IV N' Z 3 ∧ RL N' Ad' true (fun _ => 0) 0 8 ∧ BD N' (n + 3000) ∧ ND N' ∧ N' 0 = N 0 ∧ MR M' Ad' := by
  have hZ0 : 0 < N 0 0 := by have := iv.pw.1; have := iv.1.2.1; omega
  have hno : wr_no N key val = 0 := by
    unfold wr_no
    rw [if_neg (fun q => q ⟨hZ0, by omega, by omega⟩), if_neg (fun q => hv q.1)]
  obtain ⟨P', c1⟩ := zn_write (x := x) (N := N) (P := P) (K := K) (T := T) (S := S) (m := m) (A := A) (h := h) iv.1 key val (fun _ => w_ok_all iv _)
  obtain ⟨ok, rl', iv', hb1, hb0, h14, h15⟩ := pt_all iv rl hk val (Or.inl rfl) (by have := bd.1.2; omega)
  have bd' := pt_bd iv hk val bd hn
  have nd' := ND_pt iv nd (key := key) val (by have := bd.1.2; omega)
  obtain ⟨M', me, _, c2⟩ := m_puts' (m := mo) (h := g) (c := 8) (Or.inl rfl) mr (rl_CQ iv rl) val ok
  have ev : wr_v N Z key val = w_val N Z (w_s N key) (w_k N Z (w_s N key)) := by unfold wr_v; rw [if_pos hno]
  have eD : wr_D N Z key val = w_res N Z (w_s N key) (w_k N Z (w_s N key)) key val := by unfold wr_D; rw [if_pos hno]
  rw [ev, eD] at c1
  have e0 := pt_A_0 Ad Z key val
  refine ⟨pt_b Ad Z key, _, P', _, _, M', c1, c2, me, iv', rl', bd', nd', ?_, ME_MR me (MR_of mr e0)⟩
  rw [← rl'.1.1, e0, rl.1.1]
theorem w_21 {w : Nat} (hw : w < 24) : am_w (am_w (2 * (w : Int)) + 1) = ((2 * w + 1 : Nat) : Int) := by
  rw [w_2w hw, am_w_nat1 (by omega)]
/-- the puts of a text -/
theorem td_loop : ∀ (r i n : Nat) (N P Ad M : Nat → Nat → Int) (y3 : am_V), ((r + i : Nat) : Int) = S 0 3 → S 0 3 ≤ 24 → M 0 11 = S 0 3 → (∀ i : Nat, (i : Int) < S 0 3 → (S 3 i = M 4 (2 * i) ∧ S 4 i = M 4 (2 * i + 1)) ∧ (0 ≤ S 3 i ∧ S 3 i ≤ 31) ∧ 0 ≤ S 4 i ∧ S 4 i ≤ 999) → IV N Z 3 → RL N Ad true (fun _ => 0) 0 8 → BD N n → ND N → n + 3000 * r < 2147483647 → MR M Ad → ∃ (P' N' Ad' M' : Nat → Nat → Int) (y3' : am_V), am_run am_ms 103 49 [am_R x, am_I i] [] (zv x N P K T S m A h) = am_run am_ms 103 49 [am_R x, am_I (S 0 3)] [] (zv x N' P' K T S m A h) ∧ am_run am_ms 136 244 [am_R mo, am_I 0, am_I i, y3] [] (mv mo (drow M 8 (pack Ad)) g) = am_run am_ms 136 244 [am_R mo, am_I 0, am_I (S 0 3), y3'] [] (mv mo (drow M' 8 (pack Ad')) g) ∧ ME M M' ∧ IV N' Z 3 ∧ RL N' Ad' true (fun _ => 0) 0 8 ∧ BD N' (n + 3000 * r) ∧ ND N' ∧ N' 0 = N 0 ∧ MR M' Ad' := by
  intro r
  induction r with
  | zero =>
    intro i n N P Ad M y3 hi h24 h11 hd iv rl bd nd hn mr
    have e : (i : Int) = S 0 3 := by omega
    refine ⟨P, N, Ad, M, y3, ?_, ?_, ⟨fun _ _ _ _ => rfl, fun _ _ _ => rfl⟩, iv, rl, bd, nd, rfl, mr⟩
    · rw [e]
    · rw [e]
  | succ r ih =>
    intro i n N P Ad M y3 hi h24 h11 hd iv rl bd nd hn mr
    rw [k30] at hn
    have hn3 : n + 3000 < 2147483647 := Nat.lt_of_le_of_lt (Nat.add_le_add_left (Nat.le_add_left 3000 (3000 * r)) n) hn
    have hiL : (i : Int) < S 0 3 := by omega
    have hi24 : i < 24 := by omega
    obtain ⟨⟨d1, d2⟩, ⟨d3, d4⟩, d5, d6⟩ := hd i hiL
    obtain ⟨key, hkey⟩ : ∃ k : Nat, S 3 i = k := ⟨(S 3 i).toNat, by omega⟩
    obtain ⟨b, v, P1, N1, Ad1, M1, c1, c2, me, iv1, rl1, bd1, nd1, e0, mr1⟩ := nw_put (x := x) (mo := mo) (m := m) (A := A) (N := N) (P := P) (K := K) (T := T) (S := S) (h := h) (g := g) iv rl bd nd hn3 mr (key := key) (by omega) (val := S 4 i) (by omega)
    have m11 : M1 0 11 = S 0 3 := by rw [me.2 11 (by omega) (by omega)]; exact h11
    have m4 : M1 4 = M 4 := me.1 4 (by omega) (by omega) (by omega)
    obtain ⟨P2, N2, Ad2, M2, y3', k1, k2, me2, iv2, rl2, bd2, nd2, e02, mr2⟩ := ih (i + 1) (n + 3000) N1 P1 Ad1 M1 (am_I (if b = true then 1 else 0)) (by omega) h24 m11 (by rw [m4]; exact hd) iv1 rl1 bd1 nd1 (by omega) mr1
    have hnle : ¬ S 0 3 ≤ (i : Int) := by omega
    have hiq : i < 2147483647 := by omega
    have hi0 : (0 : Int) ≤ (i : Int) := by omega
    have hi1 : (i : Int) < 24 := by omega
    have ra := zv_r3 (x := x) (N := N) (P := P) (K := K) (T := T) (S := S) (m := m) (A := A) (h := h) hi0 hi1
    have rb := zv_r4 (x := x) (N := N) (P := P) (K := K) (T := T) (S := S) (m := m) (A := A) (h := h) hi0 hi1
    rw [Int.toNat_natCast] at ra rb
    rw [hkey] at ra
    have ma := mv_r4 (m := mo) (M := drow M 8 (pack Ad)) (h := g) (j := ((2 * i : Nat) : Int)) (by omega) (by omega)
    have mb := mv_r4 (m := mo) (M := drow M 8 (pack Ad)) (h := g) (j := ((2 * i + 1 : Nat) : Int)) (by omega) (by omega)
    rw [Int.toNat_natCast, drow_o _ _ (by omega), ← d1, hkey] at ma
    rw [Int.toNat_natCast, drow_o _ _ (by omega), ← d2] at mb
    have q11 : drow M 8 (pack Ad) 0 11 = S 0 3 := by rw [drow_o _ _ (by omega)]; exact h11
    refine ⟨P2, N2, Ad2, M2, y3', ?_, ?_, ⟨fun r a b c => (me2.1 r a b c).trans (me.1 r a b c), fun j a b => (me2.2 j a b).trans (me.2 j a b)⟩, iv2, rl2, by rw [k30, Nat.add_comm (3000 * r) 3000, ← Nat.add_assoc]; exact bd2, nd2, e02.trans e0, mr2⟩
    · rw [← k1, bk_103_49]
      simp only [zv_f0_1, zv_f3_3, hnle, zv_f0_4, zv_f3_1, ra, bk_103_77, zv_f3_2, rb, zv_f0_5, zN_c, c1, am_w_nat1 hiq, Option.bind_some, Bool.cond_decide, am_oI_some, am_oV_some, am_oI_ite, am_oV_ite, am_bind_ite, Int.toNat_natCast, Int.toNat_zero, Int.reduceToNat, ite_true, ite_false, not_true_eq_false, not_false_eq_true, decide_true, decide_false, decide_eq_true_eq, Bool.false_eq_true, Nat.add_zero, am_rok1_0, am_rok1_1, cond_true, cond_false, am_w_nat1, true_or, or_true, false_or, or_false, true_and, and_true, false_and, and_false, Int.reduceEq, Int.reduceNeg, Int.reduceLT, Int.reduceLE, or_self, and_self]
    · rw [← k2, bk_136_244]
      simp only [mv_f0_11, q11, hnle, mv_f0_15, mv_f0_7, w_2w hi24, ma, bk_136_266, am_w_nat1 (show 2 * i < 2147483647 by omega), mb, mv_c0, c2, am_w_nat1 hiq, Option.bind_some, Bool.cond_decide, am_oI_some, am_oV_some, am_oI_ite, am_oV_ite, am_bind_ite, Int.toNat_natCast, Int.toNat_zero, Int.reduceToNat, ite_true, ite_false, not_true_eq_false, not_false_eq_true, decide_true, decide_false, decide_eq_true_eq, Bool.false_eq_true, Nat.add_zero, am_rok1_0, am_rok1_1, cond_true, cond_false, am_w_nat1, true_or, or_true, false_or, or_false, true_and, and_true, false_and, and_false, Int.reduceEq, Int.reduceNeg, Int.reduceLT, Int.reduceLE, or_self, and_self]
/-- a new row of the model -/
def nwA (E : Nat → Nat → Int) : Nat → Nat → Int := fun r j => if r = 0 ∧ j = 6 then E 0 6 else 0
theorem nw_row (E : Nat → Nat → Int) (j : Nat) : clr (pack (nwA E)) j = if j = 420 then E 0 6 else if 416 ≤ j ∧ j < 419 then -1 else 0 := by
  have hz : ∀ r i, r ≠ 0 → nwA E r i = 0 := fun r i hr => if_neg (fun q => hr q.1)
  have h6 : nwA E 0 6 = E 0 6 := if_pos ⟨rfl, rfl⟩
  unfold clr
  by_cases e9 : j = 419
  · rw [e9, va_up_self]; rfl
  · rw [va_up_ne _ _ e9]
    unfold fs6 fl
    by_cases e6 : 416 ≤ j ∧ j < 419
    · rw [if_pos (by omega), if_neg (by omega), if_pos e6]
    · rw [if_neg (by omega), if_neg e6]
      by_cases e32 : j < 32
      · rw [if_pos e32, if_neg (by omega)]
      · rw [if_neg e32]
        unfold pack
        by_cases e20 : j = 420
        · rw [if_pos e20, if_neg (by omega), if_neg (by omega), if_neg (by omega), if_neg (by omega), if_neg (by omega), if_neg (by omega), if_neg (by omega), if_neg (by omega), if_neg (by omega), if_pos e20, h6]
        · rw [if_neg e20, if_neg e20, hz 2 _ (by omega), hz 3 _ (by omega), hz 4 _ (by omega), hz 5 _ (by omega), hz 7 _ (by omega), hz 8 _ (by omega), hz 9 _ (by omega), hz 6 _ (by omega), hz 1 _ (by omega), hz 1 _ (by omega), hz 1 _ (by omega), hz 1 _ (by omega), hz 1 _ (by omega), hz 1 _ (by omega), hz 1 _ (by omega), hz 1 _ (by omega), hz 13 _ (by omega)]
          simp only [ite_self]
theorem rl_new {E : Nat → Nat → Int} (h1 : ∀ j, j < 8 → E 1 j = 0) (h2 : ∀ z, z < 8 → E 2 z = 0) (h3 : ∀ z, z < 8 → E 3 z = 0) (h16 : E 16 0 = 0 ∧ E 16 1 = 0) : RL E (frA E (nwA E)) true (fun _ => 0) 0 8 := by
  have z1 : ∀ j, frA E (nwA E) 1 j = 0 := fun j => by
    rw [frA_1]
    by_cases e : j = 4
    · rw [e, va_up_self]
    · rw [va_up_ne _ _ e]; exact if_neg (fun q => absurd q.1 (by omega))
  have z13 : ∀ j, frA E (nwA E) 13 j = 0 := fun j => by
    rw [frA_o _ _ (by omega)]; exact if_neg (fun q => absurd q.1 (by omega))
  refine ⟨⟨frA_t _ _ (by omega), frA_t _ _ (by omega), frA_t _ _ (by omega), frA_t _ _ (by omega), frA_t _ _ (by omega)⟩, ⟨by rw [z1, h1 4 (by omega)], by rw [z1, h1 5 (by omega)]; rfl⟩, fun z hz _ q => absurd q (by rw [h2 z hz]; omega), fun p hp q => absurd q (by rw [new_no h3 hp]; decide), fun j hj _ _ => by rw [if_pos rfl, z1, h1 j hj], fun _ => ⟨rfl, by rw [z13, h16.2], fun i x hi => absurd hi (by rw [h16.2]; omega)⟩, by unfold LG; rw [z13]; omega⟩
end TXD
