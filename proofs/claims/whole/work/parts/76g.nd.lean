/-! ===== numbers are told apart ===== -/
def ND (D : Nat → Nat → Int) : Prop := ∀ p q, p < 128 → q < 128 → cd_has D p = true → cd_has D q = true → D 9 p = D 9 q → p = q
theorem ND_sub {D E : Nat → Nat → Int} (nd : ND D) (hh : ∀ p, p < 128 → cd_has E p = true → cd_has D p = true ∧ E 9 p = D 9 p) : ND E := by
  intro p q hp hq h1 h2 e
  have a := hh p hp h1
  have b := hh q hq h2
  exact nd p q hp hq a.1 b.1 (by rw [← a.2, ← b.2]; exact e)
section NDS
variable {D : Nat → Nat → Int} {Z : Nat}
theorem ND_at (iv : IV D Z 3) {s : Nat} (hl : cd_lz (o_at1 D Z s) s = false) (nd : ND D) (key val : Int) {num : Int} (hn : ∀ p, p < 128 → cd_has D p = true → D 9 p < num) {sort : Nat} (hso : sort < 2) : ND (o_at D Z s key val num sort) := by
  obtain ⟨q, q1, q2, q3, q4, q5, q6, _⟩ := at_rows iv hl key val num hso
  intro a b ha hb h1 h2 e
  rw [q4] at h1 h2
  by_cases ea : a = q
  · by_cases eb : b = q
    · omega
    · rw [decide_eq_false eb, Bool.or_false] at h2
      rw [ea, q6.2.2, (q5 b eb).2.2] at e
      have := hn b hb h2
      omega
  · rw [decide_eq_false ea, Bool.or_false] at h1
    by_cases eb : b = q
    · rw [eb, q6.2.2, (q5 a ea).2.2] at e
      have := hn a ha h1
      omega
    · rw [decide_eq_false eb, Bool.or_false] at h2
      rw [(q5 a ea).2.2, (q5 b eb).2.2] at e
      exact nd a b ha hb h1 h2 e
/-- numbers, while a zone is cleaned: apart outside of it, and none outside is one of what is still to be looked at -/
def NM (D E : Nat → Nat → Int) (z i : Nat) : Prop := (∀ p q, p < 128 → q < 128 → cd_has E p = true → cd_has E q = true → p / 16 ≠ z → q / 16 ≠ z → E 9 p = E 9 q → p = q) ∧ ∀ p, p < 128 → cd_has E p = true → p / 16 ≠ z → ∀ j : Nat, i ≤ j → (j : Int) < D 3 z → E 9 p ≠ D 9 (16 * z + j)
theorem mv_nm (iv : IV D Z 3) (nd : ND D) {z mm : Nat} {mc : Int} (hz : z < Z) (h2 : D 2 z = 3) (hroom : (cd_nl D z : Int) ≤ cd_room D Z) (hm : ∀ k : Nat, k < 16 → ((((min k mm : Nat) : Int)) < mc ↔ k < mm)) : ∀ i : Nat, (i : Int) ≤ D 3 z → NM D (mvs D Z z mc i).1 z i := by
  obtain ⟨A, rl⟩ := RL_ex iv
  have pw := iv.pw
  have h3 := pw.2.2 z (by have := pw.2.1; omega)
  have hZ8 := pw.2.1
  intro i
  induction i with
  | zero =>
    intro _
    refine ⟨fun p q hp hq a b _ _ e => nd p q hp hq a b e, fun p hp a hpz j _ hj e => ?_⟩
    have := nd p (16 * z + j) hp (by omega) a (has_at pw hz hj) e
    omega
  | succ i ih =>
    intro hi
    have nm := ih (by omega)
    obtain ⟨mi, _⟩ := mv_inv iv rl hz h2 hroom hm (Or.inl rfl) i (by omega)
    obtain ⟨ivE, _, ⟨e0, e2, e3, _, _⟩, hrow, hlive, hn, hro, _⟩ := mi
    have pwE := ivE.pw
    have ed : mvs D Z z mc (i + 1) = if (i : Int) < (mvs D Z z mc i).1 3 z ∧ (mvs D Z z mc i).2 < mc ∧ cd_live (mvs D Z z mc i).1 (16 * z + i) = true then (o_at (mvs D Z z mc i).1 Z (D 0 4 - 1).toNat ((mvs D Z z mc i).1 7 (16 * z + i)) ((mvs D Z z mc i).1 8 (16 * z + i)) ((mvs D Z z mc i).1 9 (16 * z + i)) 1, (mvs D Z z mc i).2 + 1) else mvs D Z z mc i := rfl
    rw [ed]
    generalize mvs D Z z mc i = F at nm ivE e0 e2 e3 hrow hlive hn hro pwE ⊢
    by_cases q : (i : Int) < F.1 3 z ∧ F.2 < mc ∧ cd_live F.1 (16 * z + i) = true
    · rw [if_pos q]
      have hl := q.2.2
      rw [hlive i (Nat.le_refl i) (by omega)] at hl
      have hlvd : lvd D z (i + 1) = lvd D z i + 1 := by rw [lvd_succ, if_pos hl]
      have hnl : lvd D z (i + 1) ≤ cd_nl D z := by
        have := lvd_mono D z (i + 1) ((D 3 z).toNat - (i + 1))
        rw [show i + 1 + ((D 3 z).toNat - (i + 1)) = (D 3 z).toNat by omega] at this
        exact this
      have hlz := room_lz ivE (s := (D 0 4 - 1).toNat) (by rw [e0]) (by omega)
      obtain ⟨r, r1, r2, r3, r4, r5, r6, r7, _⟩ := at_rows ivE hlz (F.1 7 (16 * z + i)) (F.1 8 (16 * z + i)) (F.1 9 (16 * z + i)) (sort := 1) (by omega)
      have hnum : F.1 9 (16 * z + i) = D 9 (16 * z + i) := (hrow i (by omega)).2.2
      generalize o_at F.1 Z (D 0 4 - 1).toNat (F.1 7 (16 * z + i)) (F.1 8 (16 * z + i)) (F.1 9 (16 * z + i)) 1 = G at r4 r5 r6 r7 ⊢
      have r6n : G 9 r = D 9 (16 * z + i) := r6.2.2.trans hnum
      show NM D G z (i + 1)
      have hsub : ∀ p, p < 128 → cd_has G p = true → p ≠ r → cd_has F.1 p = true ∧ G 9 p = F.1 9 p := by
        intro p hp hh hne
        rw [r4, decide_eq_false hne, Bool.or_false] at hh
        exact ⟨hh, (r5 p hne).2.2⟩
      refine ⟨?_, ?_⟩
      · intro a b ha hb h1 h2' az bz e
        by_cases ea : a = r
        · by_cases eb : b = r
          · omega
          · have hb' := hsub b hb h2' eb
            rw [ea, r6n, hb'.2] at e
            exact absurd e.symm (nm.2 b hb hb'.1 bz i (Nat.le_refl i) (by omega))
        · have ha' := hsub a ha h1 ea
          by_cases eb : b = r
          · rw [eb, r6n, ha'.2] at e
            exact absurd e (nm.2 a ha ha'.1 az i (Nat.le_refl i) (by omega))
          · have hb' := hsub b hb h2' eb
            rw [ha'.2, hb'.2] at e
            exact nm.1 a b ha hb ha'.1 hb'.1 az bz e
      · intro p hp hh pz j hij hj e
        by_cases ep : p = r
        · rw [ep, r6n] at e
          have := nd (16 * z + i) (16 * z + j) (by omega) (by omega) (has_at pw hz (by omega)) (has_at pw hz hj) e
          omega
        · have hp' := hsub p hp hh ep
          rw [hp'.2] at e
          exact nm.2 p hp hp'.1 pz j (by omega) hj e
    · rw [if_neg q]
      exact ⟨nm.1, fun p hp hh pz j hij hj => nm.2 p hp hh pz j (by omega) hj⟩
theorem mv_nm16 (iv : IV D Z 3) (nd : ND D) {z mm : Nat} {mc : Int} (hz : z < Z) (h2 : D 2 z = 3) (hroom : (cd_nl D z : Int) ≤ cd_room D Z) (hm : ∀ k : Nat, k < 16 → ((((min k mm : Nat) : Int)) < mc ↔ k < mm)) : NM D (mvs D Z z mc 16).1 z (D 3 z).toNat := by
  obtain ⟨A, rl⟩ := RL_ex iv
  have pw := iv.pw
  have h3 := pw.2.2 z (by have := pw.2.1; omega)
  obtain ⟨mi, _⟩ := mv_inv iv rl hz h2 hroom hm (Or.inl rfl) (D 3 z).toNat (by omega)
  have es : mvs D Z z mc 16 = mvs D Z z mc (D 3 z).toNat := by
    have := mvs_stop (D := D) (Z := Z) (z := z) (most := mc) (k := (D 3 z).toNat) (fun q => by rw [mi.2.2.1.2.2.1] at q; omega) (16 - (D 3 z).toNat)
    rw [show (D 3 z).toNat + (16 - (D 3 z).toNat) = 16 by omega] at this
    exact this
  rw [es]
  exact mv_nm iv nd hz h2 hroom hm (D 3 z).toNat (by omega)
theorem ND_cl (iv : IV D Z 3) (nd : ND D) (hb : w_bad D Z = false) : ND (w_cl D Z) := by
  have hno := bad_no hb
  have hz := zc_at hno.1
  have nm := mv_nm16 iv nd (mm := 17) (mc := 16) hz.1 hz.2.1 hno.2 (fun k hk => by omega)
  unfold w_cl
  generalize (cd_zc D Z (D 0 6)).toNat = z at hz nm ⊢
  generalize (mvs D Z z 16 16).1 = E at nm ⊢
  have e0 : o_ec E z 0 = E 0 := o_ec_0 E z
  have e3 : o_ec E z 3 = va_up (E 3) z 0 := by unfold o_ec; rw [o_em_lo _ _ (by omega), em2_3, dup_o _ _ _ (by omega)]
  have e9 : o_ec E z 9 = E 9 := by unfold o_ec; rw [o_em_lo _ _ (by omega), em2_o _ _ (by omega), dup_o _ _ _ (by omega)]
  intro p q hp hq h1 h2 e
  rw [has_em e0 e3, Bool.and_eq_true] at h1 h2
  rw [e9] at e
  have pz : p / 16 ≠ z := by
    intro w
    rw [decide_eq_true w] at h1
    exact absurd h1.2 (by decide)
  have qz : q / 16 ≠ z := by
    intro w
    rw [decide_eq_true w] at h2
    exact absurd h2.2 (by decide)
  exact nm.1 p q hp hq h1.1 h2.1 pz qz e
theorem ND_it (iv : IV D Z 3) (nd : ND D) {k : Nat} (hk : ∀ j, j < k → w_bad (w_it D Z j) Z = false) : ∀ j, j ≤ k → IV (w_it D Z j) Z 3 ∧ ND (w_it D Z j) := by
  obtain ⟨A, rl⟩ := RL_ex iv
  intro j
  induction j with
  | zero => intro _; exact ⟨iv, nd⟩
  | succ j ih =>
    intro hj
    obtain ⟨i1, n1⟩ := ih (by omega)
    exact ⟨(it_all iv rl hk (Or.inl rfl) (j + 1) hj).2.1, ND_cl i1 n1 (hk j (by omega))⟩
theorem ND_pt (iv : IV D Z 3) (nd : ND D) {key : Nat} (val : Int) (hN : D 1 4 < 2147483647) : ND (w_res D Z (w_s D key) (w_k D Z (w_s D key)) key val) := by
  obtain ⟨A, rl⟩ := RL_ex iv
  have hend := w_end_k (w_ok_all iv (w_s D key))
  generalize w_s D key = s at hend ⊢
  generalize w_k D Z s = k at hend ⊢
  obtain ⟨hk, hgo, hstop⟩ := hend
  obtain ⟨ivk, ndk⟩ := ND_it iv nd (k := k) (fun j hj => (hgo j hj).2) k (Nat.le_refl k)
  have e14 := (it_all iv rl (k := k) (fun j hj => (hgo j hj).2) (Or.inl rfl) k (Nat.le_refl k)).2.2.2.2.1
  unfold w_res
  cases em : w_must (w_it D Z k) Z s with
  | true => rw [if_pos rfl]; exact nd
  | false =>
    rw [if_neg (by decide)]
    have h14 := ivk.2.2.2.2.2.1
    have ewn : am_w (w_it D Z k 1 4 + 1) = w_it D Z k 1 4 + 1 := am_w_id (by omega) (by omega)
    have ivn : IV (dup (w_it D Z k) 1 4 (am_w (w_it D Z k 1 4 + 1))) Z 3 := iv_14 ivk (by omega)
    have hno := of_decide_eq_false (em : decide _ = false)
    have hlz : cd_lz (o_at1 (dup (w_it D Z k) 1 4 (am_w (w_it D Z k 1 4 + 1))) Z s) s = false := by
      refine lz_many ivn ?_
      rw [cd_many_of (D := w_it D Z k) (dup_o _ _ _ (by omega)), cd_lz_of (D := w_it D Z k) (dup_o _ _ _ (by omega)) (dup_o _ _ _ (by omega)) (dup_o _ _ _ (by omega))]
      cases el : cd_lz (w_it D Z k) s with
      | false => exact Or.inr rfl
      | true =>
        left
        have h5 := ivk.2.2.2.2.1.2.2.1
        by_cases q : (cd_many (w_it D Z k) Z 0 : Int) ≤ w_it D Z k 0 5
        · exact absurd ⟨el, q⟩ hno
        · omega
    have hh : ∀ p, cd_has (dup (w_it D Z k) 1 4 (am_w (w_it D Z k 1 4 + 1))) p = cd_has (w_it D Z k) p := fun p => cd_has_of (dup_o _ _ _ (by omega)) (dup_o _ _ _ (by omega)) p
    have e9 : dup (w_it D Z k) 1 4 (am_w (w_it D Z k 1 4 + 1)) 9 = w_it D Z k 9 := dup_o _ _ _ (by omega)
    refine ND_at ivn hlz (ND_sub ndk (fun p hp h => ⟨by rw [← hh p]; exact h, by rw [e9]⟩)) key val ?_ (sort := 0) (by omega)
    intro p hp h
    rw [hh] at h
    rw [e9, ewn]
    have := (ivk.2.2.2.2.2.2 p hp h).2
    omega
theorem ND_ac (iv : IV D Z 3) (nd : ND D) {n : Nat} (bd : BD D n) (hn : n + 3000 < 2147483647) (what a b : Int) : ND (ac_D D Z what a b) := by
  have key : ∀ E : Nat → Nat → Int, E 0 0 = D 0 0 → E 3 = D 3 → E 9 = D 9 → ND E := by
    intro E e0 e3 e9
    refine ND_sub nd (fun p hp h => ⟨?_, by rw [e9]⟩)
    unfold cd_has at h ⊢
    rw [e0, e3] at h
    exact h
  unfold ac_D
  split
  · unfold wr_D
    split
    · rename_i hno
      have hk : 0 ≤ a ∧ a < 32 := by
        unfold wr_no at hno
        by_cases q : 0 < D 0 0 ∧ 0 ≤ a ∧ a < 32
        · exact q.2
        · rw [if_pos q] at hno; omega
      obtain ⟨k, rfl⟩ : ∃ k : Nat, a = k := ⟨a.toNat, by omega⟩
      exact ND_pt iv nd b (by have := bd.1.2; omega)
    · exact nd
  · split
    · unfold cl_D
      split
      · exact nd
      · rename_i h; exact ND_cl iv nd (Bool.eq_false_iff.mpr h)
    · split
      · refine key _ ?_ ?_ ?_
        · unfold o_cr; rw [lga_o _ _ _ _ (by omega)]; exact congrFun (c0_o D Z (r := 0) (by omega)) 0
        · unfold o_cr; rw [lga_o _ _ _ _ (by omega)]; exact c0_o D Z (by omega)
        · unfold o_cr; rw [lga_o _ _ _ _ (by omega)]; exact c0_o D Z (by omega)
      · split
        · split
          · refine key _ ?_ ?_ ?_
            · unfold o_hd; rw [lga_o _ _ _ _ (by omega), dup_o _ _ _ (by omega), dup_o _ _ _ (by omega)]
            · unfold o_hd; rw [lga_o _ _ _ _ (by omega), dup_o _ _ _ (by omega), dup_o _ _ _ (by omega)]
            · unfold o_hd; rw [lga_o _ _ _ _ (by omega), dup_o _ _ _ (by omega), dup_o _ _ _ (by omega)]
          · exact nd
        · split
          · split
            · exact key _ (by rw [o_cl_o _ _ (by omega) (by omega)]) (o_cl_o _ _ (by omega) (by omega)) (o_cl_o _ _ (by omega) (by omega))
            · exact nd
          · split
            · split
              · exact key _ (by rw [o_fi_o _ _ (by omega) (by omega)]) (o_fi_o _ _ (by omega) (by omega)) (o_fi_o _ _ (by omega) (by omega))
              · exact nd
            · split
              · split
                · refine ND_sub nd (fun p hp h => ?_)
                  rw [has_em (D := D) (by rw [o_em_lo _ _ (by omega), em2_o _ _ (by omega)]) (by rw [o_em_lo _ _ (by omega), em2_3]), Bool.and_eq_true] at h
                  exact ⟨h.1, by rw [o_em_lo _ _ (by omega), em2_o _ _ (by omega)]⟩
                · exact nd
              · unfold ch_D
                split
                · exact key _ (by rw [dup_t, va_up_ne _ _ (by omega)]) (dup_o _ _ _ (by omega)) (dup_o _ _ _ (by omega))
                · exact nd
end NDS
