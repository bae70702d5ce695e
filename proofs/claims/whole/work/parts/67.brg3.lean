/-! ===== BRIDGE (3): what is done keeps what is so ===== -/
theorem LR_of {D A E B : Nat → Nat → Int} (h : LR D A) (e13 : E 13 = D 13) (e14 : E 14 = D 14) (e15 : E 15 = D 15) (e16 : E 16 = D 16) (b : B 13 = A 13) : LR E B := by
  unfold LR at h ⊢
  rw [b, e16]
  refine ⟨h.1, fun i x hi hx => ?_⟩
  rw [h.2 i x hi hx]
  rcases (show x = 0 ∨ x = 1 ∨ x = 2 by omega) with e | e | e
  · subst e; show D 13 _ = E 13 _; rw [e13]
  · subst e; show D 14 _ = E 14 _; rw [e14]
  · subst e; show D 15 _ = E 15 _; rw [e15]
theorem lga_13 (D : Nat → Nat → Int) (s z a : Int) : lga D s z a 13 = va_up (D 13) (lgu D) s := by
  unfold lga
  rw [dup_o _ _ _ (by omega), dup_o _ _ _ (by omega), dup_o _ _ _ (by omega), dup_o _ _ _ (by omega), dup_t]
theorem lga_14 (D : Nat → Nat → Int) (s z a : Int) : lga D s z a 14 = va_up (D 14) (lgu D) z := by
  unfold lga
  rw [dup_o _ _ _ (by omega), dup_o _ _ _ (by omega), dup_o _ _ _ (by omega), dup_t, dup_o _ _ _ (by omega)]
theorem lga_15 (D : Nat → Nat → Int) (s z a : Int) : lga D s z a 15 = va_up (D 15) (lgu D) a := by
  unfold lga
  rw [dup_o _ _ _ (by omega), dup_o _ _ _ (by omega), dup_t, dup_o _ _ _ (by omega), dup_o _ _ _ (by omega)]
theorem lga_160 (D : Nat → Nat → Int) (s z a : Int) : lga D s z a 16 0 = lgu D + 1 := by
  unfold lga; rw [dup_t, va_up_ne _ _ (by omega), dup_t, va_up_self]
theorem lga_161 (D : Nat → Nat → Int) (s z a : Int) : lga D s z a 16 1 = if D 16 1 < 60 then D 16 1 + 1 else D 16 1 := by
  unfold lga; rw [dup_t, va_up_self]
theorem nts_13 (A : Nat → Nat → Int) (s z a : Int) : nts A s z a 13 = va_up (va_up (va_up (va_up (nsh (A 13)) (1 + 3 * (nsh (A 13) 0).toNat) s) (2 + 3 * (nsh (A 13) 0).toNat) z) (3 + 3 * (nsh (A 13) 0).toNat) a) 0 (((nsh (A 13) 0).toNat + 1 : Nat) : Int) := by
  unfold nts nts1
  rw [dup_t, dup_t, dup_t, dup_t, drow_t]
theorem LR_add {D A : Nat → Nat → Int} (w : LW D) (h : LR D A) (s z a : Int) : LR (lga D s z a) (nts A s z a) := by
  obtain ⟨⟨w1, w2⟩, w3, w4⟩ := w
  obtain ⟨h0, h1⟩ := h
  have hu : (lgu D : Int) = D 16 0 % 60 := by unfold lgu; split <;> omega
  have hu2 : lgu D < 60 := by unfold lgu; split <;> omega
  have hn0 : nsh (A 13) 0 = if D 16 1 < 60 then D 16 1 else 59 := by
    unfold nsh
    rw [h0]
    by_cases e : D 16 1 = 60
    · rw [if_pos e, if_neg (show ¬ D 16 1 < 60 by omega)]; rfl
    · rw [if_neg e, if_pos (by omega), h0]
  obtain ⟨n, hn⟩ : ∃ n : Nat, nsh (A 13) 0 = n := ⟨(nsh (A 13) 0).toNat, by rw [hn0]; split <;> omega⟩
  have hlen : lga D s z a 16 1 = ((n + 1 : Nat) : Int) := by
    rw [lga_161]
    rw [hn] at hn0
    split at hn0
    · rename_i e; rw [if_pos e]; omega
    · rename_i e; rw [if_neg e]; omega
  have hnle : n < 60 := by rw [hn] at hn0; split at hn0 <;> omega
  unfold LR
  rw [hlen, lga_160, nts_13, hn, Int.toNat_natCast, Int.toNat_natCast]
  refine ⟨va_up_self _ _ _, ?_⟩
  intro i x hi hx
  have hi' : i < n + 1 := by omega
  have hx' := hx
  by_cases e : i = 0
  · subst e
    rw [show ((lgu D : Int) + 1 - 1 - ((0 : Nat) : Int) + 60) % 60 = (lgu D : Int) by omega, Int.toNat_natCast, show n + 1 - 1 - 0 = n by omega]
    rcases (show x = 0 ∨ x = 1 ∨ x = 2 by omega) with e | e | e
    · subst e
      show _ = lga D s z a 13 _
      rw [lga_13, va_up_self, va_up_ne _ _ (by omega), va_up_ne _ _ (by omega), va_up_ne _ _ (by omega), show 1 + 3 * n + 0 = 1 + 3 * n by omega, va_up_self]
    · subst e
      show _ = lga D s z a 14 _
      rw [lga_14, va_up_self, va_up_ne _ _ (by omega), va_up_ne _ _ (by omega), show 1 + 3 * n + 1 = 2 + 3 * n by omega, va_up_self]
    · subst e
      show _ = lga D s z a 15 _
      rw [lga_15, va_up_self, va_up_ne _ _ (by omega), show 1 + 3 * n + 2 = 3 + 3 * n by omega, va_up_self]
  · obtain ⟨j, rfl⟩ : ∃ j, i = j + 1 := ⟨i - 1, by omega⟩
    have hj : (j : Int) < D 16 1 := by
      rw [hn] at hn0
      split at hn0 <;> omega
    have hold := h1 j x hj hx
    have eslot : ((lgu D : Int) + 1 - 1 - ((j + 1 : Nat) : Int) + 60) % 60 = (D 16 0 - 1 - (j : Int) + 60) % 60 := by omega
    rw [eslot]
    have hsl : ((D 16 0 - 1 - (j : Int) + 60) % 60).toNat ≠ lgu D := by omega
    have hD : lga D s z a (13 + x) ((D 16 0 - 1 - (j : Int) + 60) % 60).toNat = D (13 + x) ((D 16 0 - 1 - (j : Int) + 60) % 60).toNat := by
      rcases (show x = 0 ∨ x = 1 ∨ x = 2 by omega) with e | e | e
      · subst e; show lga D s z a 13 _ = D 13 _; rw [lga_13, va_up_ne _ _ hsl]
      · subst e; show lga D s z a 14 _ = D 14 _; rw [lga_14, va_up_ne _ _ hsl]
      · subst e; show lga D s z a 15 _ = D 15 _; rw [lga_15, va_up_ne _ _ hsl]
    rw [hD, ← hold, va_up_ne _ _ (by omega), va_up_ne _ _ (by omega), va_up_ne _ _ (by omega), va_up_ne _ _ (by omega)]
    unfold nsh
    by_cases e60 : A 13 0 = 60
    · rw [if_pos e60]
      rw [hn, if_neg (by omega)] at hn0
      show (if 1 + 3 * (n + 1 - 1 - (j + 1)) + x = 0 then 59 else if 1 + 3 * (n + 1 - 1 - (j + 1)) + x ≤ 177 then A 13 (1 + 3 * (n + 1 - 1 - (j + 1)) + x + 3) else A 13 (1 + 3 * (n + 1 - 1 - (j + 1)) + x)) = _
      rw [if_neg (by omega), if_pos (by omega)]
      congr 1
      omega
    · rw [if_neg e60]
      rw [hn, if_pos (by omega)] at hn0
      congr 1
      omega
section BRG3
variable {D A : Nat → Nat → Int} {Z x y : Nat} {md : Bool} {O : Nat → Int} {T : Int}
theorem rl_log (w : LW D) (rl : RL D A md O T y) (s z a : Int) : RL (lga D s z a) (nts A s z a) md O T y := by
  have hD : ∀ r, r < 13 → lga D s z a r = D r := fun r hr => lga_o _ _ _ _ (Or.inl hr)
  have hA : ∀ r, r ≠ 13 → nts A s z a r = A r := fun r hr => nts_o _ _ _ _ hr
  obtain ⟨⟨a0, a2, a3, a4, a6⟩, ⟨b4, b5⟩, c, d, e, f, g⟩ := rl
  refine ⟨⟨?_, ?_, ?_, ?_, ?_⟩, ⟨?_, ?_⟩, ?_, ?_, ?_, ?_, nts_LG g s z a⟩
  · rw [hD 0 (by omega), hA 0 (by omega), a0]
  · rw [hD 2 (by omega), hA 2 (by omega), a2]
  · rw [hD 3 (by omega), hA 3 (by omega), a3]
  · rw [hD 4 (by omega), hA 4 (by omega), a4]
  · rw [hD 6 (by omega), hA 6 (by omega), a6]
  · rw [hD 1 (by omega), hA 1 (by omega), b4]
  · rw [hD 1 (by omega), hA 1 (by omega), b5]
  · rw [hD 2 (by omega), hD 5 (by omega), hA 5 (by omega)]; exact c
  · intro p hp hh
    rw [cd_has_of (hD 0 (by omega)) (hD 3 (by omega))] at hh
    rw [hD 7 (by omega), hD 8 (by omega), hD 9 (by omega), hA 7 (by omega), hA 8 (by omega), hA 9 (by omega)]
    exact d p hp hh
  · rw [hD 1 (by omega), hA 1 (by omega)]; exact e
  · intro m; exact ⟨(f m).1, LR_add w (f m).2 s z a⟩
theorem rl_st (rl : RL D A md O T y) (z : Nat) (v : Int) {y' : Nat} (h : ∀ t, t < 8 → t ≠ y' → t ≠ z → t ≠ y) (hv : v ≠ 1 ∨ y' = z) : RL (dup D 2 z v) (dup A 2 z v) md O T y' := by
  obtain ⟨⟨a0, a2, a3, a4, a6⟩, ⟨b4, b5⟩, c, d, e, f, g⟩ := rl
  refine ⟨⟨?_, ?_, ?_, ?_, ?_⟩, ⟨?_, ?_⟩, ?_, ?_, ?_, ?_, LG_of g (dup_o _ _ _ (by omega))⟩
  · rw [dup_o _ _ _ (by omega), dup_o _ _ _ (by omega), a0]
  · rw [dup_t, dup_t, a2]
  · rw [dup_o _ _ _ (by omega), dup_o _ _ _ (by omega), a3]
  · rw [dup_o _ _ _ (by omega), dup_o _ _ _ (by omega), a4]
  · rw [dup_o _ _ _ (by omega), dup_o _ _ _ (by omega), a6]
  · rw [dup_o _ _ _ (by omega), dup_o _ _ _ (by omega), b4]
  · rw [dup_o _ _ _ (by omega), dup_o _ _ _ (by omega), b5]
  · intro t ht8 ht hs
    rw [dup_o _ _ _ (by omega), dup_o _ _ _ (by omega)]
    rw [dup_t] at hs
    by_cases et : t = z
    · rw [et, va_up_self] at hs
      rcases hv with q | q
      · exact absurd hs q
      · exact absurd (et.trans q.symm) ht
    · rw [va_up_ne _ _ et] at hs
      exact c t ht8 (h t ht8 ht et) hs
  · intro p hp hh
    rw [cd_has_of (dup_o _ _ _ (by omega)) (dup_o _ _ _ (by omega))] at hh
    rw [dup_o _ _ _ (by omega), dup_o _ _ _ (by omega), dup_o _ _ _ (by omega), dup_o _ _ _ (by omega), dup_o _ _ _ (by omega), dup_o _ _ _ (by omega)]
    exact d p hp hh
  · rw [dup_o _ _ _ (by omega), dup_o _ _ _ (by omega)]; exact e
  · intro m
    exact ⟨(f m).1, LR_of (f m).2 (dup_o _ _ _ (by omega)) (dup_o _ _ _ (by omega)) (dup_o _ _ _ (by omega)) (dup_o _ _ _ (by omega)) (dup_o _ _ _ (by omega))⟩
theorem rl_6 (rl : RL D A md O T y) (s : Nat) (v : Int) : RL (dup D 6 s v) (dup A 6 s v) md O T y := by
  obtain ⟨⟨a0, a2, a3, a4, a6⟩, ⟨b4, b5⟩, c, d, e, f, g⟩ := rl
  refine ⟨⟨?_, ?_, ?_, ?_, ?_⟩, ⟨?_, ?_⟩, ?_, ?_, ?_, ?_, LG_of g (dup_o _ _ _ (by omega))⟩
  · rw [dup_o _ _ _ (by omega), dup_o _ _ _ (by omega), a0]
  · rw [dup_o _ _ _ (by omega), dup_o _ _ _ (by omega), a2]
  · rw [dup_o _ _ _ (by omega), dup_o _ _ _ (by omega), a3]
  · rw [dup_o _ _ _ (by omega), dup_o _ _ _ (by omega), a4]
  · rw [dup_t, dup_t, a6]
  · rw [dup_o _ _ _ (by omega), dup_o _ _ _ (by omega), b4]
  · rw [dup_o _ _ _ (by omega), dup_o _ _ _ (by omega), b5]
  · rw [dup_o _ _ _ (by omega), dup_o _ _ _ (by omega), dup_o _ _ _ (by omega)]; exact c
  · intro p hp hh
    rw [cd_has_of (dup_o _ _ _ (by omega)) (dup_o _ _ _ (by omega))] at hh
    rw [dup_o _ _ _ (by omega), dup_o _ _ _ (by omega), dup_o _ _ _ (by omega), dup_o _ _ _ (by omega), dup_o _ _ _ (by omega), dup_o _ _ _ (by omega)]
    exact d p hp hh
  · rw [dup_o _ _ _ (by omega), dup_o _ _ _ (by omega)]; exact e
  · intro m
    exact ⟨(f m).1, LR_of (f m).2 (dup_o _ _ _ (by omega)) (dup_o _ _ _ (by omega)) (dup_o _ _ _ (by omega)) (dup_o _ _ _ (by omega)) (dup_o _ _ _ (by omega))⟩
theorem am_w_i (x : Int) : -2147483648 ≤ am_w x ∧ am_w x < 2147483648 := am_i32_w x
theorem am_w_add (x y : Int) : am_w (am_w x + y) = am_w (x + y) := by
  unfold am_w
  exact Int.bmod_add_bmod
theorem rl_tal (rl : RL D A md O T y) {j : Nat} (h4 : j ≠ 4) (h5 : j ≠ 5) : RL (dup D 1 j (am_w (D 1 j + 1))) (dup A 1 j (am_w (A 1 j + 1))) md O T y := by
  obtain ⟨⟨a0, a2, a3, a4, a6⟩, ⟨b4, b5⟩, c, d, e, f, g⟩ := rl
  refine ⟨⟨?_, ?_, ?_, ?_, ?_⟩, ⟨?_, ?_⟩, ?_, ?_, ?_, ?_, LG_of g (dup_o _ _ _ (by omega))⟩
  · rw [dup_o _ _ _ (by omega), dup_o _ _ _ (by omega), a0]
  · rw [dup_o _ _ _ (by omega), dup_o _ _ _ (by omega), a2]
  · rw [dup_o _ _ _ (by omega), dup_o _ _ _ (by omega), a3]
  · rw [dup_o _ _ _ (by omega), dup_o _ _ _ (by omega), a4]
  · rw [dup_o _ _ _ (by omega), dup_o _ _ _ (by omega), a6]
  · rw [dup_t, dup_t, va_up_ne _ _ (Ne.symm h4), va_up_ne _ _ (Ne.symm h4), b4]
  · rw [dup_t, dup_t, va_up_ne _ _ (Ne.symm h5), va_up_ne _ _ (Ne.symm h5), b5]
  · rw [dup_o _ _ _ (by omega), dup_o _ _ _ (by omega), dup_o _ _ _ (by omega)]; exact c
  · intro p hp hh
    rw [cd_has_of (dup_o _ _ _ (by omega)) (dup_o _ _ _ (by omega))] at hh
    rw [dup_o _ _ _ (by omega), dup_o _ _ _ (by omega), dup_o _ _ _ (by omega), dup_o _ _ _ (by omega), dup_o _ _ _ (by omega), dup_o _ _ _ (by omega)]
    exact d p hp hh
  · intro i hi hi4 hi5
    rw [dup_t, dup_t]
    have e' := e i hi hi4 hi5
    by_cases ei : i = j
    · subst ei
      rw [va_up_self, va_up_self]
      cases md with
      | true =>
        have q : A 1 i = D 1 i := e'
        rw [q]; rfl
      | false =>
        have q : A 1 i = am_w (D 1 i + O i) := e'
        show am_w (A 1 i + 1) = am_w (am_w (D 1 i + 1) + O i)
        rw [q, am_w_add, am_w_add]
        congr 1
        omega
    · rw [va_up_ne _ _ ei, va_up_ne _ _ ei]
      exact e'
  · intro m
    exact ⟨(f m).1, LR_of (f m).2 (dup_o _ _ _ (by omega)) (dup_o _ _ _ (by omega)) (dup_o _ _ _ (by omega)) (dup_o _ _ _ (by omega)) (dup_o _ _ _ (by omega))⟩
theorem rl_num (rl : RL D A md O T y) (v : Int) : RL (dup D 1 4 v) (dup A 1 4 v) md O T y := by
  obtain ⟨⟨a0, a2, a3, a4, a6⟩, ⟨b4, b5⟩, c, d, e, f, g⟩ := rl
  refine ⟨⟨?_, ?_, ?_, ?_, ?_⟩, ⟨?_, ?_⟩, ?_, ?_, ?_, ?_, LG_of g (dup_o _ _ _ (by omega))⟩
  · rw [dup_o _ _ _ (by omega), dup_o _ _ _ (by omega), a0]
  · rw [dup_o _ _ _ (by omega), dup_o _ _ _ (by omega), a2]
  · rw [dup_o _ _ _ (by omega), dup_o _ _ _ (by omega), a3]
  · rw [dup_o _ _ _ (by omega), dup_o _ _ _ (by omega), a4]
  · rw [dup_o _ _ _ (by omega), dup_o _ _ _ (by omega), a6]
  · rw [dup_t, dup_t, va_up_self, va_up_self]
  · rw [dup_t, dup_t, va_up_ne _ _ (by omega), va_up_ne _ _ (by omega), b5]
  · rw [dup_o _ _ _ (by omega), dup_o _ _ _ (by omega), dup_o _ _ _ (by omega)]; exact c
  · intro p hp hh
    rw [cd_has_of (dup_o _ _ _ (by omega)) (dup_o _ _ _ (by omega))] at hh
    rw [dup_o _ _ _ (by omega), dup_o _ _ _ (by omega), dup_o _ _ _ (by omega), dup_o _ _ _ (by omega), dup_o _ _ _ (by omega), dup_o _ _ _ (by omega)]
    exact d p hp hh
  · intro i hi hi4 hi5
    rw [dup_t, dup_t, va_up_ne _ _ hi4, va_up_ne _ _ hi4]
    exact e i hi hi4 hi5
  · intro m
    exact ⟨(f m).1, LR_of (f m).2 (dup_o _ _ _ (by omega)) (dup_o _ _ _ (by omega)) (dup_o _ _ _ (by omega)) (dup_o _ _ _ (by omega)) (dup_o _ _ _ (by omega))⟩
end BRG3
