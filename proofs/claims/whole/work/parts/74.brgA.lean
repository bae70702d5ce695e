/-! ===== BRIDGE (10): a put ===== -/
section BRGA
variable {D A : Nat → Nat → Int} {Z : Nat} {md : Bool} {O : Nat → Int} {T : Int}
theorem zc_at (h : ¬ cd_zc D Z (D 0 6) = -1) : (cd_zc D Z (D 0 6)).toNat < Z ∧ D 2 (cd_zc D Z (D 0 6)).toNat = 3 ∧ 0 < cd_dead D (cd_zc D Z (D 0 6)).toNat := by
  have hb := cd_zc_le D Z (D 0 6)
  have := of_decide_eq_true (bst_at (P := cd_toC D) h : decide _ = true)
  exact ⟨by omega, this.1, this.2⟩
theorem bad_no (h : w_bad D Z = false) : ¬ cd_zc D Z (D 0 6) = -1 ∧ (cd_nl D (cd_zc D Z (D 0 6)).toNat : Int) ≤ cd_room D Z := by
  have := of_decide_eq_false (h : decide _ = false)
  exact ⟨fun q => this (Or.inl q), by
    by_cases q : cd_room D Z < (cd_nl D (cd_zc D Z (D 0 6)).toNat : Int)
    · exact absurd (Or.inr q) this
    · omega⟩
/-- one cleaning, by class and model -/
theorem cl_step (iv : IV D Z 3) (rl : RL D A md O T 8) (hb : w_bad D Z = false) (hck : CLKn D T 16) : IV (w_cl D Z) Z 3 ∧ RL (w_cl D Z) (m_w A Z) md O T 8 ∧ w_cl D Z 0 = D 0 ∧ w_cl D Z 1 4 = D 1 4 ∧ cd_room D Z + 1 ≤ cd_room (w_cl D Z) Z ∧ (T = 0 ∨ (0 ≤ w_cl D Z 1 5 ∧ w_cl D Z 1 5 ≤ D 1 5 + 16)) ∧ MP A Z (ml_tk A Z (A 0 6) 0 Z).toNat 17 ∧ ((mvs D Z (cd_zc D Z (D 0 6)).toNat 16 16).2 = (cd_nl D (cd_zc D Z (D 0 6)).toNat : Int)) := by
  have hno := bad_no hb
  have hz := zc_at hno.1
  have pw := iv.pw
  have etk : ml_tk A Z (A 0 6) 0 Z = cd_zc D Z (D 0 6) := by rw [rl.1.1]; exact rl_tk iv rl ⟨iv.2.2.2.2.1.2.2.2.1, iv.2.2.2.2.1.2.2.2.2⟩
  unfold w_cl m_w
  rw [etk]
  generalize (cd_zc D Z (D 0 6)).toNat = z at hno hz ⊢
  obtain ⟨mi, mp⟩ := mv_all iv rl hz.1 hz.2.1 hno.2 (mm := 17) (mc := 16) (fun k hk => by omega) hck
  obtain ⟨iv1, rl1, ⟨e0, e2, e3, e14, e4⟩, _, _, hn, hroom, hclk⟩ := mi
  have h3 := pw.2.2 z (by have := pw.2.1; omega)
  have hlv : lvd D z (D 3 z).toNat = cd_nl D z := rfl
  have hnl : cd_nl D z ≤ (D 3 z).toNat := cnt_le _ _
  have hr := room_ec iv1 hz.1 e2
  have hd := hz.2.2
  unfold cd_dead at hd
  have o1 : o_ec (mvs D Z z 16 16).1 z 1 = va_up ((mvs D Z z 16 16).1 1) 2 (am_w ((mvs D Z z 16 16).1 1 2 + 1)) := by
    unfold o_ec
    rw [o_em_lo _ _ (by omega), em2_o _ _ (by omega), dup_t]
  refine ⟨iv_ec iv1 hz.1, rl_ec iv1 rl1 (by have := pw.2.1; omega), ?_, ?_, ?_, ?_, mp, ?_⟩
  · rw [o_ec_0, e0]
  · rw [o1, va_up_ne _ _ (by omega), e14]
  · rw [hlv] at hroom
    rw [e0] at hr
    omega
  · rw [o1, va_up_ne _ _ (by omega)]
    rcases hclk with q | q
    · exact Or.inl q
    · exact Or.inr ⟨q.1, by omega⟩
  · rw [hn, hlv]
    omega
theorem room_le (iv : IV D Z 3) : cd_room D Z ≤ 144 ∧ 0 ≤ cd_room D Z := by
  have hcap := iv.1.1.1.2.2.1
  have hm := cd_many_le D Z 0
  have hZ := iv.pw.2.1
  have pw := iv.pw
  have hS := iv.1.2.2.1
  have hS3 := iv.1.1.1.2.2.2.1
  unfold cd_room
  have h1 : (0 : Int) ≤ (cd_many D Z 0 : Int) * D 0 1 ∧ (cd_many D Z 0 : Int) * D 0 1 ≤ 8 * 16 := ⟨Int.mul_nonneg (by omega) (by omega), Int.mul_le_mul (by omega) (by omega) (by omega) (by omega)⟩
  split
  · omega
  · rename_i h
    have hl := cd_lz_no (Bool.eq_false_iff.mpr h)
    rw [pw.1] at hl
    have h3 := pw.2.2 (D 6 (D 0 4 - 1).toNat).toNat (by omega)
    have h4 := (iv.1.1.2.1 (D 6 (D 0 4 - 1).toNat).toNat (by omega)).1
    omega
/-- the cleanings of a put, as long as they go on -/
theorem it_all (iv : IV D Z 3) (rl : RL D A md O T 8) {k : Nat} (hk : ∀ j, j < k → w_bad (w_it D Z j) Z = false) (hck : CLKn D T 3000) : ∀ j, j ≤ k → j ≤ 144 ∧ IV (w_it D Z j) Z 3 ∧ RL (w_it D Z j) (m_it A Z j) md O T 8 ∧ w_it D Z j 0 = D 0 ∧ w_it D Z j 1 4 = D 1 4 ∧ cd_room D Z + j ≤ cd_room (w_it D Z j) Z ∧ (T = 0 ∨ (0 ≤ w_it D Z j 1 5 ∧ w_it D Z j 1 5 ≤ D 1 5 + 16 * j)) ∧ ∀ i, i < j → MP (m_it A Z i) Z (ml_tk (m_it A Z i) Z (m_it A Z i 0 6) 0 Z).toNat 17 := by
  have hr0 := room_le iv
  intro j
  induction j with
  | zero =>
    intro _
    refine ⟨by omega, iv, rl, rfl, rfl, ?_, ?_, fun i hi => by omega⟩
    · show cd_room D Z + (0 : Nat) ≤ cd_room D Z; omega
    · rcases hck with q | q
      · exact Or.inl q
      · exact Or.inr ⟨q.1, by show D 1 5 ≤ D 1 5 + 16 * (0 : Nat); omega⟩
  | succ j ih =>
    intro hj
    obtain ⟨a, b, c, d, e, f, g, m⟩ := ih (by omega)
    have hck' : CLKn (w_it D Z j) T 16 := by
      rcases hck with q | q
      · exact Or.inl q
      · rcases g with g | g
        · exact Or.inl g
        · exact Or.inr ⟨g.1, q.2.1, by omega⟩
    obtain ⟨a1, b1, c1, d1, e1, f1, g1, _⟩ := cl_step b c (hk j (by omega)) hck'
    have hr := room_le a1
    have ed : w_it D Z (j + 1) = w_cl (w_it D Z j) Z := rfl
    have ea : m_it A Z (j + 1) = m_w (m_it A Z j) Z := rfl
    rw [ed, ea]
    refine ⟨by omega, a1, b1, c1.trans d, d1.trans e, by omega, ?_, ?_⟩
    · rcases f1 with q | q
      · exact Or.inl q
      · rcases g with g | g
        · exact Or.inl g
        · exact Or.inr ⟨q.1, by omega⟩
    · intro i hi
      by_cases ei : i = j
      · rw [ei]; exact g1
      · exact m i (by omega)
theorem RL_ex (iv : IV D Z 3) : ∃ A, RL D A false (fun _ => 0) 0 8 := by
  refine ⟨drow (drow D 13 (fun _ => 0)) 1 (fun j => if j = 4 ∨ j = 5 then D 1 j else am_w (D 1 j)), ⟨?_, ?_, ?_, ?_, ?_⟩, ⟨?_, ?_⟩, ?_, ?_, ?_, ?_, ?_⟩
  · rw [drow_o _ _ (by omega), drow_o _ _ (by omega)]
  · rw [drow_o _ _ (by omega), drow_o _ _ (by omega)]
  · rw [drow_o _ _ (by omega), drow_o _ _ (by omega)]
  · rw [drow_o _ _ (by omega), drow_o _ _ (by omega)]
  · rw [drow_o _ _ (by omega), drow_o _ _ (by omega)]
  · rw [drow_t]; exact if_pos (Or.inl rfl)
  · rw [drow_t, Int.add_zero]; exact if_pos (Or.inr rfl)
  · intro z _ _ _; rw [drow_o _ _ (by omega), drow_o _ _ (by omega), Int.add_zero]
  · intro p _ _
    rw [drow_o _ _ (by omega), drow_o _ _ (by omega), drow_o _ _ (by omega), drow_o _ _ (by omega), drow_o _ _ (by omega), drow_o _ _ (by omega)]
    exact ⟨rfl, rfl, rfl⟩
  · intro j _ h4 h5
    rw [if_neg (by decide), drow_t, Int.add_zero]
    exact if_neg (by omega)
  · intro q; exact absurd q (by decide)
  · unfold LG
    rw [drow_o _ _ (by omega), drow_t]
    omega
/-- the cleanings of a put end -/
theorem w_ok_all (iv : IV D Z 3) (s : Nat) : w_ok D Z s := by
  obtain ⟨A, rl⟩ := RL_ex iv
  intro h
  have hno : ∀ j, j < 1000 → w_stp D Z s j = false := by
    intro j hj
    rcases first_or (w_stp D Z s) 1000 with hno | ⟨k, k1, k2, k3⟩
    · exact hno j hj
    · rw [fnd_at k2 k3 1000 k1] at h; omega
  have hb : ∀ j, j < 200 → w_bad (w_it D Z j) Z = false := by
    intro j hj
    have := hno j (by omega)
    unfold w_stp at this
    rw [Bool.or_eq_false_iff] at this
    exact this.2
  have := (it_all iv rl hb (Or.inl rfl) 200 (Nat.le_refl 200)).1
  omega
theorem lz_many (iv : IV D Z 3) {s : Nat} (h : 0 < cd_many D Z 0 ∨ cd_lz D s = false) : cd_lz (o_at1 D Z s) s = false := by
  unfold o_at1
  cases e : cd_lz D s with
  | false => rw [if_neg (by decide)]; exact e
  | true =>
    rw [if_pos rfl]
    have hm : ¬ cd_ez D Z = -1 := by
      intro q
      have : cd_many D Z 0 = 0 := cnt_zero (bst_none q)
      rcases h with h | h
      · omega
      · rw [e] at h; exact absurd h (by decide)
    have hz := ez_at hm
    have hb : -1 ≤ cd_ez D Z ∧ cd_ez D Z < Z := bst_le _ _ _
    unfold o_tk cd_lz
    rw [ez_tk0, dup_t, va_up_self, dup_o _ _ _ (by omega), dup_o _ _ _ (by omega), o_tk0_o _ _ (by omega) (by omega) (by omega), iv.1.1.1.1, tk0_at hz.2]
    exact decide_eq_false (by omega)
theorem rl_CQ (iv : IV D Z 3) (rl : RL D A md O T 8) : CQ A Z := ⟨rl_AW iv rl, rl.2.2.2.2.2.2, by rw [rl.1.1]; exact iv.1.2.2.2, by rw [rl.1.1]; exact iv.1.2.2.1⟩
/-- a put, by class and model -/
theorem pt_all (iv : IV D Z 3) (rl : RL D A md O T 8) {key : Nat} (hkey : key < 32) (val : Int) (hck : CLKn D T 3000) (hN : D 1 4 < 2147483647) :
    pt_ok A Z key ∧ RL (w_res D Z (w_s D key) (w_k D Z (w_s D key)) key val) (pt_A A Z key val) md O T 8 ∧ IV (w_res D Z (w_s D key) (w_k D Z (w_s D key)) key val) Z 3 ∧ (pt_b A Z key = true → w_val D Z (w_s D key) (w_k D Z (w_s D key)) = pt_v A Z key ∧ 0 ≤ pt_v A Z key) ∧ (pt_b A Z key = false → w_val D Z (w_s D key) (w_k D Z (w_s D key)) = -4 ∧ pt_A A Z key val = A ∧ w_res D Z (w_s D key) (w_k D Z (w_s D key)) key val = D) ∧ (0 ≤ w_res D Z (w_s D key) (w_k D Z (w_s D key)) key val 1 4 ∧ w_res D Z (w_s D key) (w_k D Z (w_s D key)) key val 1 4 ≤ D 1 4 + 1) ∧ (T = 0 ∨ (0 ≤ w_res D Z (w_s D key) (w_k D Z (w_s D key)) key val 1 5 ∧ w_res D Z (w_s D key) (w_k D Z (w_s D key)) key val 1 5 ≤ D 1 5 + 3000)) := by
  have hsf := rl_sf iv rl hkey
  have hle := cd_sf_le iv.1.2.2.1 key
  have h4 := iv.1.1.1.2.2.2.1
  have es : pt_s A Z key = w_s D key := by unfold pt_s w_s; rw [hsf, Int.toNat_natCast]
  have hend := w_end_k (w_ok_all iv (w_s D key))
  have hs : ((w_s D key : Nat) : Int) < D 0 4 := by unfold w_s; rw [Int.toNat_natCast]; omega
  generalize w_s D key = s at es hend hs ⊢
  generalize w_k D Z s = k at hend ⊢
  obtain ⟨hk, hgo, hstop⟩ := hend
  have it := it_all iv rl (k := k) (fun j hj => (hgo j hj).2) hck
  have hbad : ∀ j, j ≤ k → (ml_bad (m_it A Z j) Z = -1 ↔ w_bad (w_it D Z j) Z = false) := by
    intro j hj
    have h := it j hj
    rw [rl_bad h.2.1 h.2.2.1]
    by_cases e : cd_zc (w_it D Z j) Z (w_it D Z j 0 6) = -1
    · rw [if_pos e]
      have : w_bad (w_it D Z j) Z = true := decide_eq_true (Or.inl e)
      rw [this]
      constructor
      · intro q; omega
      · intro q; exact absurd q (by decide)
    · rw [if_neg e]
      cases w_bad (w_it D Z j) Z with
      | true => rw [if_pos rfl]; exact ⟨fun q => by omega, fun q => absurd q (by decide)⟩
      | false => rw [if_neg (by decide)]; exact ⟨fun _ => rfl, fun _ => rfl⟩
  have hmust : ∀ j, j ≤ k → w_must (m_it A Z j) Z s = w_must (w_it D Z j) Z s := by
    intro j hj
    have h := (it j hj).2.2.1
    exact w_must_of h.1.1 h.1.2.1 h.1.2.2.2.2 Z s
  have hmk : m_k A Z s = k := by
    unfold m_k
    have hst : ∀ j, j ≤ k → m_stp A Z s j = w_stp D Z s j := by
      intro j hj
      unfold m_stp w_stp
      rw [hmust j hj]
      have := hbad j hj
      cases e : w_bad (w_it D Z j) Z with
      | true => rw [decide_eq_false (fun q => by rw [this.mp q] at e; exact absurd e (by decide))]; rfl
      | false => rw [decide_eq_true (this.mpr e)]; rfl
    rw [fnd_at (k := k) (P := m_stp A Z s) ?_ ?_ 1000 hk, Int.toNat_natCast]
    · rw [hst k (Nat.le_refl k)]
      unfold w_stp
      rcases hstop with q | q
      · rw [q]; rfl
      · rw [q, Bool.or_true]
    · intro j hj
      rw [hst j (by omega)]
      unfold w_stp
      rw [(hgo j hj).1, (hgo j hj).2]
      rfl
  obtain ⟨k144, ivk, rlk, ek0, ek4, _, hclkk, hmp⟩ := it k (Nat.le_refl k)
  have hCQ : ∀ j, j ≤ k → CQ (m_it A Z j) Z := fun j hj => rl_CQ (it j hj).2.1 (it j hj).2.2.1
  have hj : ∀ j, j < k → w_must (m_it A Z j) Z s = true ∧ ml_bad (m_it A Z j) Z = -1 ∧ CQ (m_it A Z j) Z ∧ MP (m_it A Z j) Z (ml_tk (m_it A Z j) Z (m_it A Z j 0 6) 0 Z).toNat 17 := fun j hj => ⟨by rw [hmust j (by omega)]; exact (hgo j hj).1, (hbad j (by omega)).mpr (hgo j hj).2, hCQ j (by omega), hmp j hj⟩
  have epn : pt_n A Z key = k := by unfold pt_n; rw [es, hmk]
  have epb : pt_b A Z key = !(w_must (w_it D Z k) Z s) := by unfold pt_b; rw [epn, es, hmust k (Nat.le_refl k)]
  have epA : pt_A A Z key val = if w_must (w_it D Z k) Z s = true then A else m_at (m_nx (m_it A Z k)) Z s key val (am_w (m_it A Z k 1 4 + 1)) 0 := by unfold pt_A mp_res; rw [epn, es, hmust k (Nat.le_refl k)]
  rw [epb, epA]
  unfold pt_ok PE w_res w_val pt_v
  rw [epn, es, hmust k (Nat.le_refl k)]
  cases em : w_must (w_it D Z k) Z s with
  | true =>
    have hb : w_bad (w_it D Z k) Z = true := by
      rcases hstop with q | q
      · rw [em] at q; exact absurd q (by decide)
      · exact q
    rw [if_pos rfl, if_pos rfl, if_pos rfl]
    refine ⟨⟨hj, hCQ k (Nat.le_refl k), Or.inr ⟨rfl, fun q => ?_⟩⟩, rl, iv, fun q => absurd q (by decide), fun _ => ⟨rfl, rfl, rfl⟩, ⟨iv.2.2.2.2.2.1, by omega⟩, ?_⟩
    · rw [(hbad k (Nat.le_refl k)).mp q] at hb; exact absurd hb (by decide)
    · rcases hck with q | q
      · exact Or.inl q
      · exact Or.inr ⟨q.1, by omega⟩
  | false =>
    rw [if_neg (by decide), if_neg (by decide), if_neg (by decide)]
    have h14 := ivk.2.2.2.2.2.1
    have ewn : am_w (w_it D Z k 1 4 + 1) = w_it D Z k 1 4 + 1 := am_w_id (by omega) (by omega)
    have e14' : m_it A Z k 1 4 = w_it D Z k 1 4 := rlk.2.1.1
    have ivn : IV (dup (w_it D Z k) 1 4 (am_w (w_it D Z k 1 4 + 1))) Z 3 := iv_14 ivk (by omega)
    have rln : RL (dup (w_it D Z k) 1 4 (am_w (w_it D Z k 1 4 + 1))) (m_nx (m_it A Z k)) md O T 8 := by
      unfold m_nx
      rw [e14']
      exact rl_num rlk _
    have hno := of_decide_eq_false (em : decide _ = false)
    have hlz : cd_lz (o_at1 (dup (w_it D Z k) 1 4 (am_w (w_it D Z k 1 4 + 1))) Z s) s = false := by
      refine lz_many ivn ?_
      rw [cd_many_of (D := w_it D Z k) (dup_o _ _ _ (by omega)), cd_lz_of (D := w_it D Z k) (dup_o _ _ _ (by omega)) (dup_o _ _ _ (by omega)) (dup_o _ _ _ (by omega))]
      cases el : cd_lz (w_it D Z k) s with
      | false => exact Or.inr rfl
      | true =>
        left
        have h5 := ivk.2.2.2.2.1.2.2.1
        by_cases q : (cd_many (w_it D Z k) Z 0 : Int) ≤ w_it D Z k 0 5
        · exact absurd ⟨el, q⟩ hno
        · omega
    have e5 : dup (w_it D Z k) 1 4 (am_w (w_it D Z k 1 4 + 1)) 1 5 = w_it D Z k 1 5 := by rw [dup_t, va_up_ne _ _ (by omega)]
    have e44 : dup (w_it D Z k) 1 4 (am_w (w_it D Z k 1 4 + 1)) 1 4 = w_it D Z k 1 4 + 1 := by rw [dup_t, va_up_self, ewn]
    have hclk' : CLK (dup (w_it D Z k) 1 4 (am_w (w_it D Z k 1 4 + 1))) T := by
      unfold CLK
      rw [e5]
      rcases hck with q | q
      · exact Or.inl q
      · rcases hclkk with g | g
        · exact Or.inl g
        · exact Or.inr ⟨g.1, q.2.1, by omega⟩
    have e0n : dup (w_it D Z k) 1 4 (am_w (w_it D Z k 1 4 + 1)) 0 = D 0 := by rw [dup_o _ _ _ (by omega), ek0]
    have ra := rl_at rln ivn hlz hclk' key val (am_w (w_it D Z k 1 4 + 1)) (sort := 0) (by omega)
    have ia := iv_at ivn (s := s) (by rw [e0n]; exact hs) hlz val (key := key) (num := am_w (w_it D Z k 1 4 + 1)) (by omega) (by rw [e44]; omega) (sort := 0) (by omega)
    obtain ⟨q, q1, q2, _, _, _, _, _, q8, q9, _⟩ := at_rows ivn hlz key val (am_w (w_it D Z k 1 4 + 1)) (sort := 0) (by omega)
    rw [e14']
    refine ⟨⟨hj, hCQ k (Nat.le_refl k), Or.inl ⟨rfl, rl_AP ivn rln (by omega) hlz⟩⟩, ra.1, ia, fun _ => ⟨ra.2, ?_⟩, fun q => absurd q (by decide), ?_, ?_⟩
    · rw [← ra.2, q2]; omega
    · rw [q9, e44]; omega
    · rw [q8, e5]
      rcases hck with c | c
      · exact Or.inl c
      · rcases hclkk with g | g
        · exact Or.inl g
        · right
          rw [am_w_id (by omega) (by omega)]
          omega
end BRGA
