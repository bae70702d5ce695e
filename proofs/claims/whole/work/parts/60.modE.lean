/-! ===== THE MODEL: rows copied; a put ===== -/
def cpr (g s : Nat → Int) (f t n : Nat) : Nat → Int := fun j => if t ≤ j ∧ j < t + n then s (f + (j - t)) else g j
theorem mv_row_ext {m : Nat} {M : Nat → Nat → Int} {h : am_H} {b : Nat} (hb : 8 ≤ b ∧ b ≤ 11) {f g : Nat → Int} (e : ∀ j, j < 609 → f j = g j) : mv m (drow M b f) h = mv m (drow M b g) h := by
  have q : ∀ i, mvc m (drow M b f) i = mvc m (drow M b g) i := by
    intro i
    have ec : cut 609 f = cut 609 g := cut_ext e
    rcases (show b = 8 ∨ b = 9 ∨ b = 10 ∨ b = 11 by omega) with e1 | e1 | e1 | e1
    · subst e1
      match i with
      | 0 => rfl
      | 1 => rfl
      | 2 => rfl
      | 3 => rfl
      | 4 => rfl
      | 5 => rfl
      | 6 => rfl
      | 7 => rfl
      | 8 => show am_ar 0 609 (cut 609 f) = am_ar 0 609 (cut 609 g); rw [ec]
      | 9 => rfl
      | 10 => rfl
      | 11 => rfl
      | 12 => rfl
      | 13 => rfl
      | n + 14 => rfl
    · subst e1
      match i with
      | 0 => rfl
      | 1 => rfl
      | 2 => rfl
      | 3 => rfl
      | 4 => rfl
      | 5 => rfl
      | 6 => rfl
      | 7 => rfl
      | 8 => rfl
      | 9 => show am_ar 0 609 (cut 609 f) = am_ar 0 609 (cut 609 g); rw [ec]
      | 10 => rfl
      | 11 => rfl
      | 12 => rfl
      | 13 => rfl
      | n + 14 => rfl
    · subst e1
      match i with
      | 0 => rfl
      | 1 => rfl
      | 2 => rfl
      | 3 => rfl
      | 4 => rfl
      | 5 => rfl
      | 6 => rfl
      | 7 => rfl
      | 8 => rfl
      | 9 => rfl
      | 10 => show am_ar 0 609 (cut 609 f) = am_ar 0 609 (cut 609 g); rw [ec]
      | 11 => rfl
      | 12 => rfl
      | 13 => rfl
      | n + 14 => rfl
    · subst e1
      match i with
      | 0 => rfl
      | 1 => rfl
      | 2 => rfl
      | 3 => rfl
      | 4 => rfl
      | 5 => rfl
      | 6 => rfl
      | 7 => rfl
      | 8 => rfl
      | 9 => rfl
      | 10 => rfl
      | 11 => show am_ar 0 609 (cut 609 f) = am_ar 0 609 (cut 609 g); rw [ec]
      | 12 => rfl
      | 13 => rfl
      | n + 14 => rfl
  show (_, _) = (_, _)
  congr 1
  funext k
  rw [q]
theorem m_copyRow {m a b f t : Nat} {M : Nat → Nat → Int} {h : am_H} (hab : a ≠ b) (hf : f < 30000) (ht : t < 30000) (hrd : ∀ (M' : Nat → Nat → Int) (j : Nat), j < 609 → am_rd (mv m M' h) (m + a) 0 ((f + j : Nat) : Int) = some (M' a (f + j))) (hwr : ∀ (M' : Nat → Nat → Int) (j : Nat) (x : Int), j < 609 → am_wr (mv m M' h) (m + b) 0 ((t + j : Nat) : Int) x = some (mv m (dup M' b (t + j) x) h)) : am_cV 108 [am_R (m + a), am_I f, am_R (m + b), am_I t] (mv m M h) = some (mv m (drow M b (cpr (M b) (M a) f t 609)) h) := by
  have step : ∀ k : Nat, k < 609 → am_run am_ms 108 3 [am_R (m + a), am_I f, am_R (m + b), am_I t, am_I k] [] (mv m (drow M b (cpr (M b) (M a) f t k)) h) = am_run am_ms 108 3 [am_R (m + a), am_I f, am_R (m + b), am_I t, am_I ((k + 1 : Nat) : Int)] [] (mv m (drow M b (cpr (M b) (M a) f t (k + 1))) h) := by
    intro k hk
    have e1 : am_w ((f : Int) + (k : Int)) = ((f + k : Nat) : Int) := by rw [am_w_id (by omega) (by omega)]; omega
    have e2 : am_w ((t : Int) + (k : Int)) = ((t + k : Nat) : Int) := by rw [am_w_id (by omega) (by omega)]; omega
    have q1 := hrd (drow M b (cpr (M b) (M a) f t k)) k hk
    rw [drow_o _ _ hab] at q1
    have q2 := hwr (drow M b (cpr (M b) (M a) f t k)) k (M a (f + k)) hk
    have ef : va_up (cpr (M b) (M a) f t k) (t + k) (M a (f + k)) = cpr (M b) (M a) f t (k + 1) := by
      funext j
      unfold va_up cpr
      by_cases e : j = t + k
      · rw [if_pos e, if_pos (by omega), e, show f + (t + k - t) = f + k by omega]
      · rw [if_neg e]
        by_cases e' : t ≤ j ∧ j < t + k
        · rw [if_pos e', if_pos (by omega)]
        · rw [if_neg e', if_neg (by omega)]
    rw [dup_drow, ef] at q2
    rw [bk_108_3]
    simp (disch := omega) only [bk_108_26, e1, e2, q1, q2, Option.bind_some, Bool.cond_decide, am_oI_some, am_oV_some, am_oI_ite, am_oV_ite, am_bind_ite, Int.toNat_natCast, Int.toNat_zero, Int.reduceToNat, ite_true, ite_false, not_true_eq_false, not_false_eq_true, decide_true, decide_false, decide_eq_true_eq, Bool.false_eq_true, Nat.add_zero, am_rok1_0, am_rok1_1, cond_true, cond_false, am_w_nat1, true_or, or_true, false_or, or_false, true_and, and_true, false_and, and_false, Int.reduceEq, Int.reduceNeg, Int.reduceLT, Int.reduceLE, or_self, and_self, if_neg]
  have key := loop_to (fun k : Nat => am_run am_ms 108 3 [am_R (m + a), am_I f, am_R (m + b), am_I t, am_I k] [] (mv m (drow M b (cpr (M b) (M a) f t k)) h)) 609 step
  have e0 : drow M b (cpr (M b) (M a) f t 0) = M := by
    rw [show cpr (M b) (M a) f t 0 = M b from funext (fun j => if_neg (by omega)), drow_self]
  rw [e0] at key
  have key' : am_run am_ms 108 3 [am_R (m + a), am_I f, am_R (m + b), am_I t, am_I 0] [] (mv m M h) = am_run am_ms 108 3 [am_R (m + a), am_I f, am_R (m + b), am_I t, am_I 609] [] (mv m (drow M b (cpr (M b) (M a) f t 609)) h) := key
  rw [am_cV, en_108, bk_108_0, key', bk_108_3]
  simp (disch := omega) only [bk_108_29, Option.bind_some, Bool.cond_decide, am_oI_some, am_oV_some, am_oI_ite, am_oV_ite, am_bind_ite, Int.toNat_natCast, Int.toNat_zero, Int.reduceToNat, ite_true, ite_false, not_true_eq_false, not_false_eq_true, decide_true, decide_false, decide_eq_true_eq, Bool.false_eq_true, Nat.add_zero, am_rok1_0, am_rok1_1, cond_true, cond_false, am_w_nat1, true_or, or_true, false_or, or_false, true_and, and_true, false_and, and_false, Int.reduceEq, Int.reduceNeg, Int.reduceLT, Int.reduceLE, or_self, and_self, if_pos]
theorem m_copy0 {m a b : Nat} {M : Nat → Nat → Int} {h : am_H} (ha : 8 ≤ a ∧ a ≤ 11) (hb : 8 ≤ b ∧ b ≤ 11) (hab : a ≠ b) : am_cV 108 [am_R (m + a), am_I 0, am_R (m + b), am_I 0] (mv m M h) = some (mv m (drow M b (M a)) h) := by
  have q := m_copyRow (m := m) (a := a) (b := b) (f := 0) (t := 0) (M := M) (h := h) hab (by omega) (by omega) (fun M' j hj => by
    have := mvc_rd (m := m) (M := M') (h := h) ha (j := ((0 + j : Nat) : Int)) (by omega) (by omega)
    rw [this, Int.toNat_natCast]) (fun M' j x hj => by
    have := mvc_wr (m := m) (M := M') (h := h) hb (j := ((0 + j : Nat) : Int)) x (by omega) (by omega)
    rw [this, Int.toNat_natCast])
  rw [mv_row_ext hb (g := M a) (fun j hj => by unfold cpr; rw [if_pos (by omega), Nat.zero_add, Nat.sub_zero])] at q
  exact q
/-- one cleaning of a put -/
def m_w (A : Nat → Nat → Int) (Z : Nat) : Nat → Nat → Int := mcl2 (mcl1 A Z (ml_tk A Z (A 0 6) 0 Z).toNat 17) (ml_tk A Z (A 0 6) 0 Z).toNat
def m_it (A : Nat → Nat → Int) (Z : Nat) : Nat → Nat → Nat → Int
  | 0 => A
  | n + 1 => m_w (m_it A Z n) Z
def CQ (A : Nat → Nat → Int) (Z : Nat) : Prop := AW A Z ∧ LG A ∧ 0 < A 0 1 ∧ 0 < A 0 4
def m_nx (A : Nat → Nat → Int) : Nat → Nat → Int := dup A 1 4 (am_w (A 1 4 + 1))
/-- a put ends behind k cleanings -/
def PE (A : Nat → Nat → Int) (Z s k : Nat) : Prop := (∀ j, j < k → w_must (m_it A Z j) Z s = true ∧ ml_bad (m_it A Z j) Z = -1 ∧ CQ (m_it A Z j) Z ∧ MP (m_it A Z j) Z (ml_tk (m_it A Z j) Z (m_it A Z j 0 6) 0 Z).toNat 17) ∧ CQ (m_it A Z k) Z ∧ ((w_must (m_it A Z k) Z s = false ∧ AP (m_nx (m_it A Z k)) Z s) ∨ (w_must (m_it A Z k) Z s = true ∧ ¬ ml_bad (m_it A Z k) Z = -1))
theorem m_w_0 (A : Nat → Nat → Int) (Z : Nat) : m_w A Z 0 = A 0 := by
  unfold m_w mcl2 mcl1
  rw [dup_o _ _ _ (by omega), m_em_o _ _ (by omega), mms_0]
theorem m_it_0 (A : Nat → Nat → Int) (Z : Nat) : ∀ n, m_it A Z n 0 = A 0 := by
  intro n
  induction n with
  | zero => rfl
  | succ n ih => show m_w (m_it A Z n) Z 0 = A 0; rw [m_w_0, ih]
def mp_res (A : Nat → Nat → Int) (Z s k : Nat) (key val : Int) : Nat → Nat → Int := if w_must (m_it A Z k) Z s = true then A else m_at (m_nx (m_it A Z k)) Z s key val (am_w (m_it A Z k 1 4 + 1)) 0
section MODE
variable {m c : Nat} {M A : Nat → Nat → Int} {h : am_H} {Z : Nat}
theorem m_puts_loop (hc : c = 8 ∨ c = 9) (hr : MR M A) {key val : Int} {s k : Nat} (hs3 : s < 3) (pe : PE A Z s k) : ∀ j, j ≤ k → ∃ (L : Nat → Int) (v : am_V), am_run am_ms 135 18 [am_R m, am_R (m + c), am_I key, am_I val, am_I s, am_K 1] [] (mv m (drow M c (pack A)) h) = am_run am_ms 135 18 [am_R m, am_R (m + c), am_I key, am_I val, am_I s, v] [] (mv m (drow (drow M 13 L) c (pack (m_it A Z j))) h) := by
  intro j
  induction j with
  | zero => intro _; exact ⟨M 13, am_K 1, by rw [drow_self]; rfl⟩
  | succ j ih =>
    intro hj
    obtain ⟨L, v, e⟩ := ih (by omega)
    obtain ⟨p1, p2, ⟨w, lg, hcap, h04⟩, p4⟩ := pe.1 j (by omega)
    have hr1 : MR (drow M 13 L) (m_it A Z j) := ME_MR (ME_row M (by omega) L) (MR_of hr (m_it_0 A Z j))
    have eit : m_it A Z (j + 1) = m_w (m_it A Z j) Z := rfl
    rw [e, eit]
    clear e ih eit hr pe
    generalize m_it A Z j = B at p1 p2 w lg hcap h04 p4 hr1 ⊢
    have hc' : 8 ≤ c ∧ c ≤ 11 := by omega
    have hm : cd_lz B s = true ∧ (cd_many B Z 0 : Int) ≤ B 0 5 := of_decide_eq_true p1
    have r5 := hr1.2.2.2.2.2
    rw [drow_o _ _ (by omega)] at r5
    have c1 := m_wantsZone (m := m) (M := drow M 13 L) (h := h) hc' w (s := s) hs3
    rw [hm.1] at c1
    have c2 := m_many (m := m) (h := h) hc' hr1 w.1 w.2.1 0
    have c3 := m_stopsCleaning (m := m) (h := h) hc' hr1 w h04 hcap
    rw [p2] at c3
    have htk : ¬ ml_tk B Z (B 0 6) 0 Z = -1 := by
      intro q
      unfold ml_bad at p2
      rw [if_pos q] at p2
      omega
    have hb := ml_tk_le B Z (B 0 6) 0 Z
    obtain ⟨z, hz⟩ : ∃ z : Nat, ml_tk B Z (B 0 6) 0 Z = z := ⟨(ml_tk B Z (B 0 6) 0 Z).toNat, by omega⟩
    rw [hz, Int.toNat_natCast] at p4
    obtain ⟨L', c4⟩ := m_cleans (m := m) (h := h) hc' hr1 w lg hcap h04 hz (most := 17) (by omega) p4
    rw [if_neg (by omega)] at c4
    have c4' : am_cI 134 [am_R m, am_R (m + c), am_I 17] (mv m (drow (drow M 13 L) c (pack B)) h) = some ((ml_nl B Z z : Int), mv m (drow (drow M 13 L') c (pack (m_w B Z))) h) := by
      rw [drow_drow] at c4
      unfold m_w
      rw [hz, Int.toNat_natCast]
      exact c4
    refine ⟨L', am_I (ml_nl B Z z), ?_⟩
    clear c4 p4 hz
    conv => lhs; rw [bk_135_18]
    simp (disch := omega) only [bk_135_43, bk_135_64, c1, c2, c3, c4', r5, am_w_id, mv_c0, mv_f0_0, mv_f0_1, mv_f0_2, mv_f0_3, mv_f0_4, mv_f0_5, mv_f0_6, mv_f0_7, mv_f0_8, mv_f0_9, mv_f0_10, mv_f0_11, mv_f0_12, mv_f0_13, mv_f0_14, mv_f0_15, mv_f0_16, mv_f0_17, mv_f0_18, mv_f0_19, mv_f0_20, mv_f0_21, mv_f0_22, mv_f0_23, mv_f0_24, mv_f0_25, mv_f0_26, mv_f0_27, mv_f0_28, mv_f0_29, mv_f0_30, mv_r1, mv_r2, mv_r3, mv_r4, mv_r5, mv_r6, mv_r7, mv_r8, mv_r9, mv_r10, mv_r11, mv_r12, mv_r13, mv_r14, mv_l1, mv_l2, mv_l3, mv_l4, mv_l5, mv_l6, mv_l7, mv_l8, mv_l9, mv_l10, mv_l11, mv_l12, mv_l13, mv_l14, mr2, mr3, mr4, mr5, mr6, mr7, mr8, mr9, mr13, mr1_4, mr0_6, mr1_5, mr1_0, mr1_1, mr1_2, mr1_3, mr1_6, mr1_7, mw2, mw3, mw4, mw5, mw6, mw7, mw8, mw9, mw13, mw1_4, mw0_6, mw1_5, mw1_0, mw1_1, mw1_2, mw1_3, mw1_6, mw1_7, drow_o, drow_t, Option.bind_some, Bool.cond_decide, am_oI_some, am_oV_some, am_oI_ite, am_oV_ite, am_bind_ite, Int.toNat_natCast, Int.toNat_zero, Int.reduceToNat, ite_true, ite_false, not_true_eq_false, not_false_eq_true, decide_true, decide_false, decide_eq_true_eq, Bool.false_eq_true, Nat.add_zero, am_rok1_0, am_rok1_1, cond_true, cond_false, am_w_nat1, true_or, or_true, false_or, or_false, true_and, and_true, false_and, and_false, Int.reduceEq, Int.reduceNeg, Int.reduceLT, Int.reduceLE, or_self, and_self, if_pos, if_neg]
theorem m_puts (hc : c = 8 ∨ c = 9) (hr : MR M A) (w : CQ A Z) {key val : Int} {s k : Nat} (hs : ml_sf A Z key = s) (hs3 : s < 3) (pe : PE A Z s k) : ∃ M', ME M M' ∧ (w_must (m_it A Z k) Z s = false → M' 0 27 = mv_at (m_nx (m_it A Z k)) Z s) ∧ am_cI 135 [am_R m, am_R (m + c), am_I key, am_I val] (mv m (drow M c (pack A)) h) = some (if w_must (m_it A Z k) Z s = true then 0 else 1, mv m (drow M' c (pack (mp_res A Z s k key val))) h) := by
  have hc' : 8 ≤ c ∧ c ≤ 11 := by omega
  have q1 := m_copy0 (m := m) (a := c) (b := 10) (M := drow M c (pack A)) (h := h) hc' (by omega) (by omega)
  have ecm : drow (drow M c (pack A)) 10 (pack A) = drow (drow M 10 (pack A)) c (pack A) := by
    funext i
    unfold drow
    by_cases e1 : i = 10
    · rw [if_pos e1, if_neg (by omega), if_pos e1]
    · rw [if_neg e1]
      by_cases e2 : i = c
      · rw [if_pos e2, if_pos e2]
      · rw [if_neg e2, if_neg e2, if_neg e1]
  rw [drow_t, ecm] at q1
  have me10 := ME_row M (r := 10) (by omega) (pack A)
  have hr10 := ME_MR me10 hr
  have q2 := m_streamFor (m := m) (h := h) hc' hr10 w.1 key
  rw [hs] at q2
  obtain ⟨L, v, e⟩ := m_puts_loop (m := m) (h := h) (val := val) (key := key) hc hr10 hs3 pe k (Nat.le_refl k)
  have meL := ME_trans me10 (ME_row (drow M 10 (pack A)) (r := 13) (by omega) L)
  have hrk : MR (drow (drow M 10 (pack A)) 13 L) (m_it A Z k) := ME_MR meL (MR_of hr (m_it_0 A Z k))
  obtain ⟨_, ⟨wk, lgk, hcapk, h04k⟩, pk⟩ := pe
  have h10 : drow (drow M 10 (pack A)) 13 L 10 = pack A := by rw [drow_o _ _ (by omega), drow_t]
  have start : am_cI 135 [am_R m, am_R (m + c), am_I key, am_I val] (mv m (drow M c (pack A)) h) = am_oI (am_run am_ms 135 18 [am_R m, am_R (m + c), am_I key, am_I val, am_I s, v] [] (mv m (drow (drow (drow M 10 (pack A)) 13 L) c (pack (m_it A Z k))) h)) := by
    rw [← e, am_cI, en_135, bk_135_0]
    simp (disch := omega) only [q1, q2, am_w_id, mv_c0, mv_f0_0, mv_f0_1, mv_f0_2, mv_f0_3, mv_f0_4, mv_f0_5, mv_f0_6, mv_f0_7, mv_f0_8, mv_f0_9, mv_f0_10, mv_f0_11, mv_f0_12, mv_f0_13, mv_f0_14, mv_f0_15, mv_f0_16, mv_f0_17, mv_f0_18, mv_f0_19, mv_f0_20, mv_f0_21, mv_f0_22, mv_f0_23, mv_f0_24, mv_f0_25, mv_f0_26, mv_f0_27, mv_f0_28, mv_f0_29, mv_f0_30, mv_r1, mv_r2, mv_r3, mv_r4, mv_r5, mv_r6, mv_r7, mv_r8, mv_r9, mv_r10, mv_r11, mv_r12, mv_r13, mv_r14, mv_l1, mv_l2, mv_l3, mv_l4, mv_l5, mv_l6, mv_l7, mv_l8, mv_l9, mv_l10, mv_l11, mv_l12, mv_l13, mv_l14, mr2, mr3, mr4, mr5, mr6, mr7, mr8, mr9, mr13, mr1_4, mr0_6, mr1_5, mr1_0, mr1_1, mr1_2, mr1_3, mr1_6, mr1_7, mw2, mw3, mw4, mw5, mw6, mw7, mw8, mw9, mw13, mw1_4, mw0_6, mw1_5, mw1_0, mw1_1, mw1_2, mw1_3, mw1_6, mw1_7, drow_o, drow_t, Option.bind_some, Bool.cond_decide, am_oI_some, am_oV_some, am_oI_ite, am_oV_ite, am_bind_ite, Int.toNat_natCast, Int.toNat_zero, Int.reduceToNat, ite_true, ite_false, not_true_eq_false, not_false_eq_true, decide_true, decide_false, decide_eq_true_eq, Bool.false_eq_true, Nat.add_zero, am_rok1_0, am_rok1_1, cond_true, cond_false, am_w_nat1, true_or, or_true, false_or, or_false, true_and, and_true, false_and, and_false, Int.reduceEq, Int.reduceNeg, Int.reduceLT, Int.reduceLE, or_self, and_self, if_pos, if_neg]
  rw [start]
  clear e q1 q2 ecm start hr hr10 me10
  unfold mp_res
  generalize drow (drow M 10 (pack A)) 13 L = M1 at meL hrk h10 ⊢
  generalize m_it A Z k = B at hrk wk lgk hcapk h04k pk ⊢
  have r5 := hrk.2.2.2.2.2
  have c1 := m_wantsZone (m := m) (M := M1) (h := h) hc' wk (s := s) hs3
  have c2 := m_many (m := m) (h := h) hc' hrk wk.1 wk.2.1 0
  rcases pk with ⟨p1, ap⟩ | ⟨p1, p2⟩
  · have e0 : m_nx B 0 = B 0 := dup_o _ _ _ (by omega)
    have c5 := m_appendsTo (m := m) (h := h) hc' (MR_of hrk e0) ap key val (am_w (B 1 4 + 1)) (sort := 0) (by omega)
    have c5' : am_cI 132 [am_R m, am_R (m + c), am_I s, am_I key, am_I val, am_I (am_w (B 1 4 + 1)), am_I 0] (mv m (drow M1 c (pack (dup B 1 4 (am_w (B 1 4 + 1))))) h) = some (mv_at (m_nx B) Z s, mv m (drow M1 c (pack (m_at (m_nx B) Z s key val (am_w (B 1 4 + 1)) 0))) h) := c5
    have q4 := fun X x => mv_p0_27 (m := m) (M := drow M1 c X) (h := h) x
    have e27 := fun X x => dup_drow_o M1 (r := 0) (r' := c) X 27 x (by omega)
    refine ⟨dup M1 0 27 (mv_at (m_nx B) Z s), ?_, ?_, ?_⟩
    · refine ME_trans meL ⟨fun r h0 _ _ => dup_o _ _ _ h0, fun j h1 _ => ?_⟩
      rw [dup_t, va_up_ne _ _ h1]
    · intro _; rw [dup_t, va_up_self]
    · rw [p1]
      have k76 : am_oI (am_run am_ms 135 76 [am_R m, am_R (m + c), am_I key, am_I val, am_I s, v] [] (mv m (drow M1 c (pack B)) h)) = some (1, mv m (drow (dup M1 0 27 (mv_at (m_nx B) Z s)) c (pack (m_at (m_nx B) Z s key val (am_w (B 1 4 + 1)) 0))) h) := by
        simp (disch := omega) only [bk_135_76, bk_135_93, dup_t, va_up_self, c5', q4, e27, am_w_id, mv_c0, mv_f0_0, mv_f0_1, mv_f0_2, mv_f0_3, mv_f0_4, mv_f0_5, mv_f0_6, mv_f0_7, mv_f0_8, mv_f0_9, mv_f0_10, mv_f0_11, mv_f0_12, mv_f0_13, mv_f0_14, mv_f0_15, mv_f0_16, mv_f0_17, mv_f0_18, mv_f0_19, mv_f0_20, mv_f0_21, mv_f0_22, mv_f0_23, mv_f0_24, mv_f0_25, mv_f0_26, mv_f0_27, mv_f0_28, mv_f0_29, mv_f0_30, mv_r1, mv_r2, mv_r3, mv_r4, mv_r5, mv_r6, mv_r7, mv_r8, mv_r9, mv_r10, mv_r11, mv_r12, mv_r13, mv_r14, mv_l1, mv_l2, mv_l3, mv_l4, mv_l5, mv_l6, mv_l7, mv_l8, mv_l9, mv_l10, mv_l11, mv_l12, mv_l13, mv_l14, mr2, mr3, mr4, mr5, mr6, mr7, mr8, mr9, mr13, mr1_4, mr0_6, mr1_5, mr1_0, mr1_1, mr1_2, mr1_3, mr1_6, mr1_7, mw2, mw3, mw4, mw5, mw6, mw7, mw8, mw9, mw13, mw1_4, mw0_6, mw1_5, mw1_0, mw1_1, mw1_2, mw1_3, mw1_6, mw1_7, drow_o, drow_t, Option.bind_some, Bool.cond_decide, am_oI_some, am_oV_some, am_oI_ite, am_oV_ite, am_bind_ite, Int.toNat_natCast, Int.toNat_zero, Int.reduceToNat, ite_true, ite_false, not_true_eq_false, not_false_eq_true, decide_true, decide_false, decide_eq_true_eq, Bool.false_eq_true, Nat.add_zero, am_rok1_0, am_rok1_1, cond_true, cond_false, am_w_nat1, true_or, or_true, false_or, or_false, true_and, and_true, false_and, and_false, Int.reduceEq, Int.reduceNeg, Int.reduceLT, Int.reduceLE, or_self, and_self, if_pos, if_neg]
      clear c5 c5' q4 e27 ap
      rw [if_neg (by decide), if_neg (by decide), bk_135_18]
      have hno : ¬ (cd_lz B s = true ∧ (cd_many B Z 0 : Int) ≤ B 0 5) := of_decide_eq_false p1
      cases el : cd_lz B s with
      | false =>
        rw [el] at c1
        simp (disch := omega) only [c1, k76, am_w_id, mv_c0, mv_f0_0, mv_f0_1, mv_f0_2, mv_f0_3, mv_f0_4, mv_f0_5, mv_f0_6, mv_f0_7, mv_f0_8, mv_f0_9, mv_f0_10, mv_f0_11, mv_f0_12, mv_f0_13, mv_f0_14, mv_f0_15, mv_f0_16, mv_f0_17, mv_f0_18, mv_f0_19, mv_f0_20, mv_f0_21, mv_f0_22, mv_f0_23, mv_f0_24, mv_f0_25, mv_f0_26, mv_f0_27, mv_f0_28, mv_f0_29, mv_f0_30, mv_r1, mv_r2, mv_r3, mv_r4, mv_r5, mv_r6, mv_r7, mv_r8, mv_r9, mv_r10, mv_r11, mv_r12, mv_r13, mv_r14, mv_l1, mv_l2, mv_l3, mv_l4, mv_l5, mv_l6, mv_l7, mv_l8, mv_l9, mv_l10, mv_l11, mv_l12, mv_l13, mv_l14, mr2, mr3, mr4, mr5, mr6, mr7, mr8, mr9, mr13, mr1_4, mr0_6, mr1_5, mr1_0, mr1_1, mr1_2, mr1_3, mr1_6, mr1_7, mw2, mw3, mw4, mw5, mw6, mw7, mw8, mw9, mw13, mw1_4, mw0_6, mw1_5, mw1_0, mw1_1, mw1_2, mw1_3, mw1_6, mw1_7, drow_o, drow_t, Option.bind_some, Bool.cond_decide, am_oI_some, am_oV_some, am_oI_ite, am_oV_ite, am_bind_ite, Int.toNat_natCast, Int.toNat_zero, Int.reduceToNat, ite_true, ite_false, not_true_eq_false, not_false_eq_true, decide_true, decide_false, decide_eq_true_eq, Bool.false_eq_true, Nat.add_zero, am_rok1_0, am_rok1_1, cond_true, cond_false, am_w_nat1, true_or, or_true, false_or, or_false, true_and, and_true, false_and, and_false, Int.reduceEq, Int.reduceNeg, Int.reduceLT, Int.reduceLE, or_self, and_self, if_pos, if_neg]
      | true =>
        rw [el] at c1
        have hgt : B 0 5 < (cd_many B Z 0 : Int) := by
          by_cases q : B 0 5 < (cd_many B Z 0 : Int)
          · exact q
          · exact absurd ⟨el, by omega⟩ hno
        simp (disch := omega) only [c1, c2, r5, k76, am_w_id, mv_c0, mv_f0_0, mv_f0_1, mv_f0_2, mv_f0_3, mv_f0_4, mv_f0_5, mv_f0_6, mv_f0_7, mv_f0_8, mv_f0_9, mv_f0_10, mv_f0_11, mv_f0_12, mv_f0_13, mv_f0_14, mv_f0_15, mv_f0_16, mv_f0_17, mv_f0_18, mv_f0_19, mv_f0_20, mv_f0_21, mv_f0_22, mv_f0_23, mv_f0_24, mv_f0_25, mv_f0_26, mv_f0_27, mv_f0_28, mv_f0_29, mv_f0_30, mv_r1, mv_r2, mv_r3, mv_r4, mv_r5, mv_r6, mv_r7, mv_r8, mv_r9, mv_r10, mv_r11, mv_r12, mv_r13, mv_r14, mv_l1, mv_l2, mv_l3, mv_l4, mv_l5, mv_l6, mv_l7, mv_l8, mv_l9, mv_l10, mv_l11, mv_l12, mv_l13, mv_l14, mr2, mr3, mr4, mr5, mr6, mr7, mr8, mr9, mr13, mr1_4, mr0_6, mr1_5, mr1_0, mr1_1, mr1_2, mr1_3, mr1_6, mr1_7, mw2, mw3, mw4, mw5, mw6, mw7, mw8, mw9, mw13, mw1_4, mw0_6, mw1_5, mw1_0, mw1_1, mw1_2, mw1_3, mw1_6, mw1_7, drow_o, drow_t, Option.bind_some, Bool.cond_decide, am_oI_some, am_oV_some, am_oI_ite, am_oV_ite, am_bind_ite, Int.toNat_natCast, Int.toNat_zero, Int.reduceToNat, ite_true, ite_false, not_true_eq_false, not_false_eq_true, decide_true, decide_false, decide_eq_true_eq, Bool.false_eq_true, Nat.add_zero, am_rok1_0, am_rok1_1, cond_true, cond_false, am_w_nat1, true_or, or_true, false_or, or_false, true_and, and_true, false_and, and_false, Int.reduceEq, Int.reduceNeg, Int.reduceLT, Int.reduceLE, or_self, and_self, if_pos, if_neg]
  · have hm : cd_lz B s = true ∧ (cd_many B Z 0 : Int) ≤ B 0 5 := of_decide_eq_true p1
    rw [hm.1] at c1
    have c3 := m_stopsCleaning (m := m) (h := h) hc' hrk wk h04k hcapk
    have q1 := m_copy0 (m := m) (a := 10) (b := c) (M := drow M1 c (pack B)) (h := h) (by omega) hc' (by omega)
    rw [drow_drow, drow_o _ _ (by omega), h10] at q1
    refine ⟨M1, meL, fun q => ?_, ?_⟩
    · rw [p1] at q; exact absurd q (by decide)
    · rw [p1, if_pos rfl, if_pos rfl, bk_135_18]
      simp (disch := omega) only [bk_135_43, c1, c2, c3, r5, p2, q1, am_w_id, mv_c0, mv_f0_0, mv_f0_1, mv_f0_2, mv_f0_3, mv_f0_4, mv_f0_5, mv_f0_6, mv_f0_7, mv_f0_8, mv_f0_9, mv_f0_10, mv_f0_11, mv_f0_12, mv_f0_13, mv_f0_14, mv_f0_15, mv_f0_16, mv_f0_17, mv_f0_18, mv_f0_19, mv_f0_20, mv_f0_21, mv_f0_22, mv_f0_23, mv_f0_24, mv_f0_25, mv_f0_26, mv_f0_27, mv_f0_28, mv_f0_29, mv_f0_30, mv_r1, mv_r2, mv_r3, mv_r4, mv_r5, mv_r6, mv_r7, mv_r8, mv_r9, mv_r10, mv_r11, mv_r12, mv_r13, mv_r14, mv_l1, mv_l2, mv_l3, mv_l4, mv_l5, mv_l6, mv_l7, mv_l8, mv_l9, mv_l10, mv_l11, mv_l12, mv_l13, mv_l14, mr2, mr3, mr4, mr5, mr6, mr7, mr8, mr9, mr13, mr1_4, mr0_6, mr1_5, mr1_0, mr1_1, mr1_2, mr1_3, mr1_6, mr1_7, mw2, mw3, mw4, mw5, mw6, mw7, mw8, mw9, mw13, mw1_4, mw0_6, mw1_5, mw1_0, mw1_1, mw1_2, mw1_3, mw1_6, mw1_7, drow_o, drow_t, Option.bind_some, Bool.cond_decide, am_oI_some, am_oV_some, am_oI_ite, am_oV_ite, am_bind_ite, Int.toNat_natCast, Int.toNat_zero, Int.reduceToNat, ite_true, ite_false, not_true_eq_false, not_false_eq_true, decide_true, decide_false, decide_eq_true_eq, Bool.false_eq_true, Nat.add_zero, am_rok1_0, am_rok1_1, cond_true, cond_false, am_w_nat1, true_or, or_true, false_or, or_false, true_and, and_true, false_and, and_false, Int.reduceEq, Int.reduceNeg, Int.reduceLT, Int.reduceLE, or_self, and_self, if_pos, if_neg]
end MODE
