/-! ===== the relation behind an act ===== -/
theorem ac_0 {D : Nat → Nat → Int} {Z : Nat} (iv : IV D Z 3) (what a b : Int) {j : Nat} (hj : j ≠ 6) : ac_D D Z what a b 0 j = D 0 j := by
  have hw : ∀ k v, wr_D D Z k v 0 = D 0 := by
    intro k v
    unfold wr_D w_res
    split
    · split
      · rfl
      · rw [o_at_0, dup_o _ _ _ (by omega)]
        obtain ⟨A, rl⟩ := RL_ex iv
        have hend := w_end_k (w_ok_all iv (w_s D k))
        exact (it_all iv rl (k := w_k D Z (w_s D k)) (fun j hj => (hend.2.1 j hj).2) (Or.inl rfl) (w_k D Z (w_s D k)) (Nat.le_refl _)).2.2.2.1
    · rfl
  have hc : cl_D D Z 0 = D 0 := by
    unfold cl_D
    split
    · rfl
    · rename_i q
      obtain ⟨A, rl⟩ := RL_ex iv
      exact (cl_step iv rl (Bool.eq_false_iff.mpr q) (Or.inl rfl)).2.2.1
  unfold ac_D
  split
  · rw [hw]
  · split
    · rw [hc]
    · split
      · unfold o_cr; rw [lga_o _ _ _ _ (by omega)]; exact congrFun (c0_o D Z (r := 0) (by omega)) j
      · split
        · split
          · unfold o_hd; rw [lga_o _ _ _ _ (by omega), dup_o _ _ _ (by omega), dup_o _ _ _ (by omega)]
          · rfl
        · split
          · split
            · rw [o_cl_o _ _ (by omega) (by omega)]
            · rfl
          · split
            · split
              · rw [o_fi_o _ _ (by omega) (by omega)]
              · rfl
            · split
              · split
                · rw [o_em_lo _ _ (by omega), em2_o _ _ (by omega)]
                · rfl
              · unfold ch_D
                split
                · rw [dup_t, va_up_ne _ _ hj]
                · rfl
theorem DK_mono {Z n n' : Nat} {R R' : Nat → Int} {K : Nat → Nat → Int} {f f' : Nat → Int} (h : DK Z R K f n) (hn : n ≤ n') (hR : ∀ j, j < 6 → R' j = R j) (hf : ∀ j, j < 609 → f' j = f j) : DK Z R' K f' n' := by
  obtain ⟨A, a, b, c, d, e, g⟩ := h
  exact ⟨A, a, b, fun j hj => (hf j hj).trans (c j hj), fun j hj => (d j hj).trans (hR j hj).symm, e.mono hn, g⟩
theorem hslot_ne {S : Nat → Nat → Int} (h14 : 0 ≤ S 0 14 ∧ S 0 14 ≤ 40) {i j : Int} (hi : 0 ≤ i) (hij : i < j) (hj : j ≤ i + 40) : hslot S i ≠ hslot S j := by
  unfold hslot
  omega
section WACT
variable {n n' m m' : Nat} {N K S E : Nat → Nat → Int} {HD : Nat → Nat → Nat → Int} {M M1 : Nat → Nat → Int}
/-- behind a refusal -/
theorem WR_refuse (w : WR n m N K S HD M) (hm : m ≤ m' ∧ m' ≤ 41) {k : Nat} (hk : k < 4) (mk : MK M M1) : WR n m' N K (dup S 9 k (am_w (S 9 k + 1))) (fun i => if i = hslot S (S 0 15) then N else HD i) (dup M1 7 k (am_w (M1 7 k + 1))) := by
  have w1 := WR_MK w mk
  obtain ⟨a, b, c, d, e⟩ := w1
  have oS : ∀ r, r ≠ 9 → dup S 9 k (am_w (S 9 k + 1)) r = S r := fun r hr => dup_o _ _ _ hr
  have oM : ∀ r, r ≠ 7 → dup M1 7 k (am_w (M1 7 k + 1)) r = M1 r := fun r hr => dup_o _ _ _ hr
  refine ⟨?_, ?_, ?_, ?_, ?_⟩
  · unfold WT at a ⊢
    rw [oS 0 (by omega), oS 1 (by omega), oM 0 (by omega), oM 1 (by omega)]
    exact a
  · unfold WS at b ⊢
    rw [oS 0 (by omega), oM 0 (by omega), oM 5 (by omega), oM 6 (by omega)]
    refine ⟨b.1, fun s hs => ?_⟩
    have h2 := b.1
    rw [oS (10 + 3 * s) (by omega), oS (11 + 3 * s) (by omega), oS (12 + 3 * s) (by omega)]
    exact b.2 s hs
  · intro j hj
    rw [dup_t, dup_t]
    have h1 := c j hj
    have h2 := c k hk
    by_cases q : j = k
    · rw [q, va_up_self, va_up_self, h2]
    · rw [va_up_ne _ _ q, va_up_ne _ _ q]; exact h1
  · unfold WH at d ⊢
    rw [oS 0 (by omega), oM 0 (by omega)]
    refine ⟨d.1, d.2.1, d.2.2.1, ?_, d.2.2.2.2⟩
    rcases d.2.2.2.1 with q | q
    · left; omega
    · exact Or.inr ⟨q.1, by omega⟩
  · rcases e with e | ⟨Z, e⟩
    · left
      unfold W0 at e ⊢
      rw [oS 0 (by omega), oM 0 (by omega), oM 8 (by omega)]
      exact e
    · right
      refine ⟨Z, ?_⟩
      have em : ∀ i, mslot (dup M1 7 k (am_w (M1 7 k + 1))) i = mslot M1 i := by intro i; unfold mslot; rw [oM 0 (by omega)]
      have eh : ∀ i : Int, hslot (dup S 9 k (am_w (S 9 k + 1))) i = hslot S i := by intro i; unfold hslot; rw [oS 0 (by omega)]
      unfold WD RU at e ⊢
      rw [oS 0 (by omega), oM 0 (by omega), oM 3 (by omega), oM 8 (by omega), oM 11 (by omega), oM 12 (by omega)]
      refine ⟨e.1, e.2.1, e.2.2.1, e.2.2.2.1, fun i hi => ?_⟩
      rw [em, eh]
      have := e.2.2.2.2 i hi
      have hne : hslot S i ≠ hslot S (S 0 15) := hslot_ne d.1 (by omega) hi (by have := d.2.1; omega)
      dsimp only
      rw [if_neg hne]
      exact this
/-- behind an act that was done -/
theorem WR_commit {Z : Nat} (w : WR n m N K S HD M) (wd : WD Z n N K S HD M) (hm : m ≤ m' ∧ m' ≤ 41 ∧ hslot S (S 0 15) < m') (mk : MK M M1) (hn : n ≤ n') {B : Nat → Nat → Int} (iv : IV E Z 3) (rl : RL E B true (fun _ => 0) 0 8) (bd : BD E n') (nd : ND E) (hru : ∀ j, j < 6 → E 0 j = N 0 j) : WR n' m' E K (hcm S) (fun i => if i = hslot S (S 0 15) then N else HD i) (drow (rem_M M1) 8 (pack B)) := by
  obtain ⟨a, b, c, d, _⟩ := WR_MK w mk
  obtain ⟨w14, wru, wnow, wim, whis⟩ := wd
  have f := mk.2
  have r := mk.1
  have h14 := d.1
  have h15 := d.2.1
  have h20 := d.2.2.1
  -- rows of the new states
  have oS : ∀ r, r ≠ 0 → hcm S r = S r := by
    intro r hr
    unfold hcm
    split
    · exact dup_o _ _ _ hr
    · exact dup_o _ _ _ hr
  have oS0 : ∀ j, j ≠ 14 → j ≠ 15 → hcm S 0 j = S 0 j := by
    intro j j1 j2
    unfold hcm
    split
    · rw [dup_t, va_up_ne _ _ j2]
    · rw [dup_t, va_up_ne _ _ j1]
  have oM : ∀ r, r ≠ 0 → r ≠ 8 → r ≠ 12 → drow (rem_M M1) 8 (pack B) r = M1 r := by
    intro r r0 r8 r12
    unfold rem_M
    rw [drow_o _ _ r8, drow_o _ _ r12, rmM_o _ r0]
  have oM0 : ∀ j, j ≠ 20 → j ≠ 21 → drow (rem_M M1) 8 (pack B) 0 j = M1 0 j := by
    intro j j1 j2
    unfold rem_M
    rw [drow_o _ _ (by omega), drow_o _ _ (by omega), rmM_0 _ j1 j2]
  have eM0 : drow (rem_M M1) 8 (pack B) 0 = rmM M1 0 := by unfold rem_M; rw [drow_o _ _ (by omega), drow_o _ _ (by omega)]
  have eM12 : drow (rem_M M1) 8 (pack B) 12 = cpr (M1 12) (M1 8) 0 (609 * rms M1) 609 := by unfold rem_M; rw [drow_o _ _ (by omega), drow_t]
  have hcnt : (S 0 15 < 40 ∧ hcm S 0 14 = S 0 14 ∧ hcm S 0 15 = S 0 15 + 1 ∧ rmM M1 0 20 = M1 0 20 ∧ rmM M1 0 21 = S 0 15 + 1 ∧ rms M1 = ((M1 0 20 + S 0 15) % 40).toNat) ∨ (S 0 15 = 40 ∧ hcm S 0 14 = (S 0 14 + 1) % 41 ∧ hcm S 0 15 = 40 ∧ rmM M1 0 20 = (M1 0 20 + 1) % 40 ∧ rmM M1 0 21 = 40 ∧ rms M1 = (M1 0 20).toNat) := by
    by_cases q : S 0 15 < 40
    · left
      have e1 : rmM M1 0 20 = M1 0 20 := by unfold rmM; rw [if_neg (by omega), dup_t, va_up_ne _ _ (by omega)]
      have e2 : rmM M1 0 21 = S 0 15 + 1 := by unfold rmM; rw [if_neg (by omega), dup_t, va_up_self]; omega
      refine ⟨q, ?_, ?_, e1, e2, ?_⟩
      · unfold hcm; rw [if_pos q, dup_t, va_up_ne _ _ (by omega)]
      · unfold hcm; rw [if_pos q, dup_t, va_up_self]
      · unfold rms; rw [e1, e2]; congr 2; omega
    · right
      have e1 : rmM M1 0 20 = (M1 0 20 + 1) % 40 := by unfold rmM; rw [if_pos (by omega), dup_t, va_up_self]
      have e2 : rmM M1 0 21 = 40 := by unfold rmM; rw [if_pos (by omega), dup_t, va_up_ne _ _ (by omega)]; omega
      refine ⟨by omega, ?_, ?_, e1, e2, ?_⟩
      · unfold hcm
        rw [if_neg q, dup_t, va_up_self]
        unfold hslot
        omega
      · unfold hcm; rw [if_neg q, dup_t, va_up_ne _ _ (by omega)]; omega
      · unfold rms; rw [e1, e2]; omega
  refine ⟨?_, ?_, ?_, ?_, Or.inr ⟨Z, ?_⟩⟩
  · unfold WT at a ⊢
    rw [oS 1 (by omega), oS0 2 (by omega) (by omega), oM 1 (by omega) (by omega) (by omega), oM0 2 (by omega) (by omega)]
    exact a
  · unfold WS at b ⊢
    rw [oS0 0 (by omega) (by omega), oM0 12 (by omega) (by omega), oM 5 (by omega) (by omega) (by omega), oM 6 (by omega) (by omega) (by omega)]
    refine ⟨b.1, fun s hs => ?_⟩
    rw [oS0 (17 + s) (by omega) (by omega), oS (10 + 3 * s) (by omega), oS (11 + 3 * s) (by omega), oS (12 + 3 * s) (by omega)]
    exact b.2 s hs
  · intro j hj
    rw [oM 7 (by omega) (by omega) (by omega), oS 9 (by omega)]
    exact c j hj
  · unfold WH at d ⊢
    rw [eM0, oS0 1 (by omega) (by omega)]
    have e22 : rmM M1 0 22 = M1 0 22 := rmM_0 _ (by omega) (by omega)
    rw [e22]
    rcases hcnt with ⟨q1, q2, q3, q4, q5, q6⟩ | ⟨q1, q2, q3, q4, q5, q6⟩
    · rw [q2, q3, q4, q5]
      refine ⟨d.1, ⟨by omega, by omega, rfl⟩, d.2.2.1, ?_, d.2.2.2.2⟩
      rcases d.2.2.2.1 with q | q
      · left; omega
      · by_cases q7 : m' = 41
        · exact Or.inl q7
        · right
          refine ⟨q.1, ?_⟩
          have : hslot S (S 0 15) = (S 0 15).toNat := by unfold hslot; rw [q.1]; omega
          omega
    · rw [q2, q3, q4, q5]
      refine ⟨by omega, ⟨by omega, by omega, rfl⟩, by omega, ?_, d.2.2.2.2⟩
      left
      rcases d.2.2.2.1 with q | q
      · omega
      · have : hslot S (S 0 15) = 40 := by unfold hslot; rw [q.1, q1]; rfl
        omega
  · have hK : ∀ {f f' : Nat → Int} {L : Nat → Nat → Int}, DK Z (N 0) L f n → (∀ j, j < 609 → f' j = f j) → DK Z (E 0) L f' n' := fun h1 h2 => DK_mono h1 hn (fun j hj => hru j hj) h2
    refine ⟨?_, ?_, ⟨B, iv, rl, fun j _ => by rw [drow_t], fun j _ => rfl, bd, nd⟩, ?_, ?_⟩
    · rw [oM0 14 (by omega) (by omega), f 14 (by omega)]; exact w14
    · unfold RU at wru ⊢
      rw [oM 3 (by omega) (by omega) (by omega), oM0 23 (by omega) (by omega), oM0 24 (by omega) (by omega), oM0 25 (by omega) (by omega), r 3 (by omega), f 23 (by omega), f 24 (by omega), f 25 (by omega), hru 2 (by omega), hru 3 (by omega), hru 4 (by omega)]
      exact ⟨fun j hj => (wru.1 j hj).trans (hru j hj).symm, wru.2⟩
    · rw [oS0 1 (by omega) (by omega), oM 11 (by omega) (by omega) (by omega), r 11 (by omega)]
      exact fun q => hK (wim q) (fun j _ => rfl)
    · intro i hi
      have hms : mslot (drow (rem_M M1) 8 (pack B)) i = ((rmM M1 0 20 + i) % 40).toNat := by unfold mslot; rw [eM0]
      have hold : ∀ i : Nat, (i : Int) < S 0 15 → DK Z (N 0) (HD (hslot S i)) (fun j => M1 12 (609 * mslot M1 i + j)) n := by
        intro i hi
        have := whis i hi
        have em : mslot M1 i = mslot M i := by unfold mslot; rw [f 20 (by omega)]
        rw [em, r 12 (by omega)]
        exact this
      have h8 : M1 8 = M 8 := r 8 (by omega)
      rw [hms, eM12]
      rcases hcnt with ⟨q1, q2, q3, q4, q5, q6⟩ | ⟨q1, q2, q3, q4, q5, q6⟩
      · rw [q3] at hi
        have eh : hslot (hcm S) i = hslot S i := by unfold hslot; rw [q2]
        rw [eh, q4]
        by_cases qi : (i : Int) = S 0 15
        · rw [qi]
          dsimp only
          rw [if_pos rfl]
          refine hK (f := M 8) wnow (fun j hj => ?_)
          rw [q6]
          unfold cpr
          rw [if_pos (by omega), h8]
          congr 1
          omega
        · have hi' : (i : Int) < S 0 15 := by omega
          dsimp only
          rw [if_neg (hslot_ne h14 (by omega) hi' (by omega))]
          refine hK (hold i hi') (fun j hj => ?_)
          unfold cpr mslot
          rw [if_neg]
          rw [q6]
          omega
      · rw [q3] at hi
        rw [q4]
        by_cases qi : i = 39
        · have eh : hslot (hcm S) i = hslot S (S 0 15) := by unfold hslot; rw [q2, q1, qi]; omega
          rw [eh]
          dsimp only
          rw [if_pos rfl]
          refine hK (f := M 8) wnow (fun j hj => ?_)
          rw [q6, qi]
          unfold cpr
          rw [if_pos (by omega), h8]
          congr 1
          omega
        · have eh : hslot (hcm S) i = hslot S ((i + 1 : Nat) : Int) := by unfold hslot; rw [q2]; omega
          have hi' : ((i + 1 : Nat) : Int) < S 0 15 := by omega
          rw [eh]
          dsimp only
          rw [if_neg (hslot_ne h14 (by omega) hi' (by omega))]
          refine hK (hold (i + 1) hi') (fun j hj => ?_)
          unfold cpr mslot
          rw [if_neg]
          · congr 1
            omega
          · rw [q6]
            omega
end WACT
