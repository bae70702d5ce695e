/-! ===== BRIDGE (8): the moves of a cleaning ===== -/
/-- how many of a zone's first blocks live -/
def lvd (D : Nat → Nat → Int) (z : Nat) : Nat → Nat := cnt (fun i => cd_live D (16 * z + i))
theorem lvd_succ (D : Nat → Nat → Int) (z i : Nat) : lvd D z (i + 1) = lvd D z i + if cd_live D (16 * z + i) = true then 1 else 0 := rfl
theorem lvd_le (D : Nat → Nat → Int) (z i : Nat) : lvd D z i ≤ i := cnt_le _ _
/-- the clock has so much left -/
def CLKn (D : Nat → Nat → Int) (T : Int) (n : Nat) : Prop := T = 0 ∨ (0 ≤ D 1 5 ∧ 0 ≤ T ∧ D 1 5 + T + 1 + n < 2147483648)
section BRG8
variable {D A : Nat → Nat → Int} {Z : Nat} {md : Bool} {O : Nat → Int} {T : Int}
theorem rl_lvc (iv : IV D Z 3) (rl : RL D A md O T 8) {z : Nat} (hz : z < Z) {i : Nat} (hi : (i : Int) ≤ D 3 z) : lvc A Z z i = lvd D z i := by
  have w := iv.pw
  have h3 := w.2.2 z (by have := w.2.1; omega)
  exact cnt_congr (fun j hj => rl_live iv rl (by have := w.2.1; omega) (has_at w hz (by omega)))
/-- what is so behind the look at i blocks -/
def MI (D A E B : Nat → Nat → Int) (Z z mm i : Nat) (n : Int) (md : Bool) (O : Nat → Int) (T : Int) : Prop :=
  IV E Z 3 ∧ RL E B md O T 8 ∧ (E 0 = D 0 ∧ E 2 z = 3 ∧ E 3 z = D 3 z ∧ E 1 4 = D 1 4 ∧ E 4 = D 4) ∧ (∀ j, j < 16 → E 7 (16 * z + j) = D 7 (16 * z + j) ∧ E 8 (16 * z + j) = D 8 (16 * z + j) ∧ E 9 (16 * z + j) = D 9 (16 * z + j)) ∧ (∀ j : Nat, i ≤ j → (j : Int) < D 3 z → cd_live E (16 * z + j) = cd_live D (16 * z + j)) ∧ n = ((min (lvd D z i) mm : Nat) : Int) ∧ ((cd_nl D z : Int) - lvd D z i ≤ cd_room E Z ∧ cd_room D Z - lvd D z i ≤ cd_room E Z) ∧ (T = 0 ∨ (0 ≤ E 1 5 ∧ E 1 5 ≤ D 1 5 + i))
theorem mv_step {E B : Nat → Nat → Int} {z mm i : Nat} {n mc : Int} (hz : z < Z) (hm : ∀ k : Nat, k < 16 → ((((min k mm : Nat) : Int)) < mc ↔ k < mm)) (hi : (i : Int) < D 3 z) (h16 : D 3 z ≤ 16) (hck : CLKn D T 16) (mi : MI D A E B Z z mm i n md O T) (hnl : lvd D z (i + 1) ≤ cd_nl D z) :
    ((n < mc ∧ cd_live E (16 * z + i) = true) ↔ (cd_live D (16 * z + i) = true ∧ lvd D z i < mm)) ∧
    ((cd_live D (16 * z + i) = true ∧ lvd D z i < mm) → AP B Z (D 0 4 - 1).toNat ∧ MI D A (o_at E Z (D 0 4 - 1).toNat (E 7 (16 * z + i)) (E 8 (16 * z + i)) (E 9 (16 * z + i)) 1) (m_at B Z (D 0 4 - 1).toNat (B 7 (16 * z + i)) (B 8 (16 * z + i)) (B 9 (16 * z + i)) 1) Z z mm (i + 1) (n + 1) md O T) ∧
    (¬ (cd_live D (16 * z + i) = true ∧ lvd D z i < mm) → MI D A E B Z z mm (i + 1) n md O T) := by
  obtain ⟨iv, rl, ⟨e0, e2, e3, e14, e4⟩, hrow, hlive, hn, hroom, hclk⟩ := mi
  have pw := iv.pw
  have hl0 := hlive i (Nat.le_refl i) hi
  have hle := lvd_le D z i
  have hhas : cd_has E (16 * z + i) = true := has_at pw hz (by rw [e3]; exact hi)
  refine ⟨?_, ?_, ?_⟩
  · rw [hl0, hn]
    have := hm (lvd D z i) (by omega)
    constructor
    · exact fun q => ⟨q.2, this.mp q.1⟩
    · exact fun q => ⟨this.mpr q.2, q.1⟩
  · intro ⟨hl, hlt⟩
    have hs3 : (D 0 4 - 1).toNat < 3 := by have := iv.1.1.1.2.2.2.1; rw [e0] at this; omega
    have hlvd : lvd D z (i + 1) = lvd D z i + 1 := by rw [lvd_succ, if_pos hl]
    have hrpos : 0 < cd_room E Z := by omega
    have hS : (D 0 4 - 1).toNat = (E 0 4 - 1).toNat := by rw [e0]
    have h04 := iv.1.2.2.1
    have hlz := room_lz iv hS hrpos
    have hkey := iv.key (p := 16 * z + i) (by have := pw.2.1; omega) hhas
    have hnum := iv.2.2.2.2.2.2 (16 * z + i) (by have := pw.2.1; omega) hhas
    have hbl := rl.2.2.2.1 (16 * z + i) (by have := pw.2.1; omega) hhas
    refine ⟨rl_AP iv rl hs3 hlz, ?_⟩
    rw [hbl.1, hbl.2.1, hbl.2.2]
    have hclk' : CLK E T := by
      rcases hck with q | q
      · exact Or.inl q
      · rcases hclk with q2 | q2
        · exact Or.inl q2
        · exact Or.inr ⟨q2.1, q.2.1, by omega⟩
    have hr := (rl_at rl iv hlz hclk' (E 7 (16 * z + i)) (E 8 (16 * z + i)) (E 9 (16 * z + i)) (sort := 1) (by omega)).1
    have hv := iv_at iv (s := (D 0 4 - 1).toNat) (by omega) hlz (E 8 (16 * z + i)) hkey hnum (sort := 1) (by omega)
    have hro := room_at iv hS hlz (E 7 (16 * z + i)) (E 8 (16 * z + i)) (E 9 (16 * z + i)) 1
    obtain ⟨q, q1, q2, q3, q4, q5, q6, q7, q8, q9, q10, q11, q12⟩ := at_rows iv hlz (E 7 (16 * z + i)) (E 8 (16 * z + i)) (E 9 (16 * z + i)) (sort := 1) (by omega)
    have h0 := o_at_0 E Z (D 0 4 - 1).toNat (E 7 (16 * z + i)) (E 8 (16 * z + i)) (E 9 (16 * z + i)) 1
    generalize o_at E Z (D 0 4 - 1).toNat (E 7 (16 * z + i)) (E 8 (16 * z + i)) (E 9 (16 * z + i)) 1 = G at hr hv hro q4 q5 q6 q7 q8 q9 q10 q11 q12 h0 ⊢
    have hqz : ∀ j, j < 16 → (16 * z + j) ≠ q := by
      intro j hj e
      have h7 := (q7 z e2)
      have hb : cd_has G q = true := by rw [q4, decide_eq_true rfl, Bool.or_true]
      rw [← e] at hb q3
      have pG := hv.pw
      have h1 := (has_lt pG hb).2.2
      rw [show (16 * z + j) / 16 = z by omega, show (16 * z + j) % 16 = j by omega, h7.2] at h1
      rw [has_at pw hz h1] at q3
      exact absurd q3 (by decide)
    refine ⟨hv, hr, ⟨h0.trans e0, (q7 z e2).1, ((q7 z e2).2).trans e3, q9.trans e14, q10.trans e4⟩, ?_, ?_, ?_, ?_, ?_⟩
    · intro j hj
      have h5 := q5 _ (hqz j hj)
      have h6 := hrow j hj
      exact ⟨h5.1.trans h6.1, h5.2.1.trans h6.2.1, h5.2.2.trans h6.2.2⟩
    · intro j hij hj
      rw [← hlive j (by omega) hj]
      have h5 := q5 _ (hqz j (by omega))
      have hhj : cd_has E (16 * z + j) = true := has_at pw hz (by rw [e3]; exact hj)
      have hkj := iv.key (p := 16 * z + j) (by have := pw.2.1; omega) hhj
      unfold cd_live
      rw [h5.1, h5.2.1, h5.2.2]
      by_cases ek : (E 7 (16 * z + j)).toNat = (E 7 (16 * z + i)).toNat
      · have hlE : cd_live E (16 * z + i) = true := by rw [hl0]; exact hl
        have h10 := (of_decide_eq_true (hlE : decide _ = true)).1
        rw [ek]
        have n1 : ¬ E 10 (E 7 (16 * z + i)).toNat = ((16 * z + j : Nat) : Int) := by rw [h10]; omega
        have n2 : ¬ G 10 (E 7 (16 * z + i)).toNat = ((16 * z + j : Nat) : Int) := by
          rcases q12 with q | q
          · rw [q]; exact n1
          · rw [q]
            have := hqz j (by omega)
            omega
        rw [decide_eq_false (fun q => n2 q.1), decide_eq_false (fun q => n1 q.1)]
      · have h11 := q11 _ ek
        rw [h11.1, h11.2]
    · rw [hn, hlvd]
      omega
    · rw [hlvd]; omega
    · rcases hclk' with q | q
      · exact Or.inl q
      · rcases hclk with c | c
        · exact Or.inl c
        · right
          rw [q8, am_w_id (by omega) (by omega)]
          omega
  · intro hnot
    refine ⟨iv, rl, ⟨e0, e2, e3, e14, e4⟩, hrow, fun j hij hj => hlive j (by omega) hj, ?_, ?_, ?_⟩
    · rw [hn, lvd_succ]
      by_cases q : cd_live D (16 * z + i) = true
      · have h1 : ¬ lvd D z i < mm := fun p => hnot ⟨q, p⟩
        rw [if_pos q]; omega
      · rw [if_neg q]; rfl
    · rw [lvd_succ]; split <;> omega
    · rcases hclk with c | c
      · exact Or.inl c
      · exact Or.inr ⟨c.1, by omega⟩
theorem lvd_mono (D : Nat → Nat → Int) (z i : Nat) : ∀ j, lvd D z i ≤ lvd D z (i + j) := by
  intro j
  induction j with
  | zero => exact Nat.le_refl _
  | succ j ih => rw [← Nat.add_assoc, lvd_succ]; omega
theorem mv_inv (iv : IV D Z 3) (rl : RL D A md O T 8) {z mm : Nat} {mc : Int} (hz : z < Z) (h2 : D 2 z = 3) (hroom : (cd_nl D z : Int) ≤ cd_room D Z) (hm : ∀ k : Nat, k < 16 → ((((min k mm : Nat) : Int)) < mc ↔ k < mm)) (hck : CLKn D T 16) : ∀ i : Nat, (i : Int) ≤ D 3 z → MI D A (mvs D Z z mc i).1 (mms A Z z mm i) Z z mm i (mvs D Z z mc i).2 md O T ∧ ∀ j, j < i → cd_live D (16 * z + j) = true → lvd D z j < mm → AP (mms A Z z mm j) Z (D 0 4 - 1).toNat := by
  have pw := iv.pw
  have h3 := pw.2.2 z (by have := pw.2.1; omega)
  intro i
  induction i with
  | zero =>
    intro _
    refine ⟨⟨iv, rl, ⟨rfl, h2, rfl, rfl, rfl⟩, fun j _ => ⟨rfl, rfl, rfl⟩, fun j _ _ => rfl, ?_, ?_, ?_⟩, fun j hj => by omega⟩
    · show (0 : Int) = ((min 0 mm : Nat) : Int)
      omega
    · show (cd_nl D z : Int) - (0 : Nat) ≤ _ ∧ cd_room D Z - (0 : Nat) ≤ cd_room D Z
      exact ⟨by show (cd_nl D z : Int) - (0 : Nat) ≤ cd_room D Z; omega, by omega⟩
    · rcases hck with q | q
      · exact Or.inl q
      · exact Or.inr ⟨q.1, by show D 1 5 ≤ D 1 5 + (0 : Nat); omega⟩
  | succ i ih =>
    intro hi
    obtain ⟨mi, hap⟩ := ih (by omega)
    have hnl : lvd D z (i + 1) ≤ cd_nl D z := by
      have := lvd_mono D z (i + 1) ((D 3 z).toNat - (i + 1))
      rw [show i + 1 + ((D 3 z).toNat - (i + 1)) = (D 3 z).toNat by omega] at this
      exact this
    have st := mv_step hz hm (by omega) h3.2 hck mi hnl
    have e3 := mi.2.2.1.2.2.1
    have eA0 : A 0 = D 0 := rl.1.1
    have hlc : ml_live A Z (16 * z + i) = cd_live D (16 * z + i) := rl_live iv rl (by have := pw.2.1; omega) (has_at pw hz (by omega))
    have hlv : lvc A Z z i = lvd D z i := rl_lvc iv rl hz (by omega)
    have em : mms A Z z mm (i + 1) = if cd_live D (16 * z + i) = true ∧ lvd D z i < mm then m_at (mms A Z z mm i) Z (D 0 4 - 1).toNat (mms A Z z mm i 7 (16 * z + i)) (mms A Z z mm i 8 (16 * z + i)) (mms A Z z mm i 9 (16 * z + i)) 1 else mms A Z z mm i := by
      show (if ml_live A Z (16 * z + i) = true ∧ lvc A Z z i < mm then m_at (mms A Z z mm i) Z (A 0 4 - 1).toNat (mms A Z z mm i 7 (16 * z + i)) (mms A Z z mm i 8 (16 * z + i)) (mms A Z z mm i 9 (16 * z + i)) 1 else mms A Z z mm i) = _
      rw [hlc, hlv, eA0]
    have ed : mvs D Z z mc (i + 1) = if cd_live D (16 * z + i) = true ∧ lvd D z i < mm then (o_at (mvs D Z z mc i).1 Z (D 0 4 - 1).toNat ((mvs D Z z mc i).1 7 (16 * z + i)) ((mvs D Z z mc i).1 8 (16 * z + i)) ((mvs D Z z mc i).1 9 (16 * z + i)) 1, (mvs D Z z mc i).2 + 1) else mvs D Z z mc i := by
      show (if (i : Int) < (mvs D Z z mc i).1 3 z ∧ (mvs D Z z mc i).2 < mc ∧ cd_live (mvs D Z z mc i).1 (16 * z + i) = true then _ else _) = _
      by_cases q : cd_live D (16 * z + i) = true ∧ lvd D z i < mm
      · have q' := st.1.mpr q
        rw [if_pos q, if_pos ⟨by rw [e3]; omega, q'.1, q'.2⟩]
      · rw [if_neg q, if_neg (fun p => q (st.1.mp ⟨p.2.1, p.2.2⟩))]
    rw [em, ed]
    by_cases q : cd_live D (16 * z + i) = true ∧ lvd D z i < mm
    · rw [if_pos q, if_pos q]
      refine ⟨(st.2.1 q).2, fun j hj hl hlt => ?_⟩
      by_cases e : j = i
      · rw [e]; exact (st.2.1 q).1
      · exact hap j (by omega) hl hlt
    · rw [if_neg q, if_neg q]
      refine ⟨st.2.2 q, fun j hj hl hlt => ?_⟩
      by_cases e : j = i
      · rw [e] at hl hlt; exact absurd ⟨hl, hlt⟩ q
      · exact hap j (by omega) hl hlt
/-- the moves of class and model -/
theorem mv_all (iv : IV D Z 3) (rl : RL D A md O T 8) {z mm : Nat} {mc : Int} (hz : z < Z) (h2 : D 2 z = 3) (hroom : (cd_nl D z : Int) ≤ cd_room D Z) (hm : ∀ k : Nat, k < 16 → ((((min k mm : Nat) : Int)) < mc ↔ k < mm)) (hck : CLKn D T 16) : MI D A (mvs D Z z mc 16).1 (mcl1 A Z z mm) Z z mm (D 3 z).toNat (mvs D Z z mc 16).2 md O T ∧ MP A Z z mm := by
  have pw := iv.pw
  have h3 := pw.2.2 z (by have := pw.2.1; omega)
  obtain ⟨mi, hap⟩ := mv_inv iv rl hz h2 hroom hm hck (D 3 z).toNat (by omega)
  have es : mvs D Z z mc 16 = mvs D Z z mc (D 3 z).toNat := by
    have := mvs_stop (D := D) (Z := Z) (z := z) (most := mc) (k := (D 3 z).toNat) (fun q => by rw [mi.2.2.1.2.2.1] at q; omega) (16 - (D 3 z).toNat)
    rw [show (D 3 z).toNat + (16 - (D 3 z).toNat) = 16 by omega] at this
    exact this
  have ea : mcl1 A Z z mm = mms A Z z mm (D 3 z).toNat := by unfold mcl1; rw [rl.1.2.2.1]
  rw [es, ea]
  refine ⟨mi, ?_⟩
  intro i hi hl hlt
  rw [rl.1.2.2.1] at hi
  rw [rl_live iv rl (by have := pw.2.1; omega) (has_at pw hz hi)] at hl
  rw [rl_lvc iv rl hz (by omega)] at hlt
  rw [rl.1.1]
  exact hap i (by omega) hl hlt
end BRG8
