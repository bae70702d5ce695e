/-! ===== BRIDGE (9): emptying, cleaning, the cleanings of a put ===== -/
theorem o_em_lo (D : Nat → Nat → Int) (z : Nat) {r : Nat} (hr : r < 10) : o_em D z r = o_em2 D z r := by
  unfold o_em
  rw [lga_o _ _ _ _ (by omega), la_o _ (by omega)]
theorem o_em_hi (D : Nat → Nat → Int) (z : Nat) {r : Nat} (hr : r < 13) : o_em D z r = la (o_em2 D z) 128 r := by
  unfold o_em
  rw [lga_o _ _ _ _ (by omega)]
section BRG9
variable {D A : Nat → Nat → Int} {Z : Nat} {md : Bool} {O : Nat → Int} {T : Int}
theorem em2_6 {x : Nat} (iv : IV D Z x) (z : Nat) : o_em2 D z 6 = rs6 D z 3 := by
  have hv := iv.2.2.2.1
  have h4 := iv.1.1.1.2.2.2.1
  funext s
  unfold o_em2 rs6
  by_cases e : cd_so D z = -1
  · rw [if_pos e, o_em1_o _ _ (by omega), if_neg]
    intro q
    rcases hv.1 s q.1 with h | h
    · omega
    · have hno : ∀ n, fnd (fun s => decide (D 6 s = (z : Int))) n = -1 → ∀ j, j < n → ¬ D 6 j = z := by
        intro n hn j hj hq
        rcases first_or (fun s => decide (D 6 s = (z : Int))) n with hno | ⟨k, k1, k2, k3⟩
        · exact of_decide_eq_false (hno j hj) hq
        · rw [fnd_at k2 k3 n k1] at hn; omega
      exact hno _ e s (by omega) q.2
  · rw [if_neg e, dup_t]
    have hb := cd_so_le (D := D) h4.1 z
    obtain ⟨k, hk⟩ : ∃ k : Nat, cd_so D z = k := ⟨(cd_so D z).toNat, by omega⟩
    have hk6 := cd_so_is hk
    rw [hk, Int.toNat_natCast]
    by_cases es : s = k
    · rw [es, va_up_self, if_pos ⟨by omega, hk6⟩]
    · rw [va_up_ne _ _ es, o_em1_o _ _ (by omega), if_neg]
      intro q
      rcases hv.2 s k q.1 (by omega) (q.2.trans hk6.symm) with h | h
      · omega
      · exact es h
theorem em2_2 (D : Nat → Nat → Int) (z : Nat) : o_em2 D z 2 = va_up (D 2) z 0 := by
  rw [o_em2_o _ _ (by omega)]
  unfold o_em1
  rw [dup_o _ _ _ (by omega), dup_o _ _ _ (by omega), dup_t]
theorem em2_3 (D : Nat → Nat → Int) (z : Nat) : o_em2 D z 3 = va_up (D 3) z 0 := by
  rw [o_em2_o _ _ (by omega)]
  unfold o_em1
  rw [dup_o _ _ _ (by omega), dup_t, dup_o _ _ _ (by omega)]
theorem em2_4 (D : Nat → Nat → Int) (z : Nat) : o_em2 D z 4 = va_up (D 4) z (am_w (D 4 z + 1)) := by
  rw [o_em2_o _ _ (by omega)]
  unfold o_em1
  rw [dup_t, dup_o _ _ _ (by omega), dup_o _ _ _ (by omega)]
theorem em2_o (D : Nat → Nat → Int) (z : Nat) {r : Nat} (h : r ≠ 2 ∧ r ≠ 3 ∧ r ≠ 4 ∧ r ≠ 6) : o_em2 D z r = D r := by
  rw [o_em2_o _ _ (by omega), o_em1_o _ _ (by omega)]
theorem has_em {D E : Nat → Nat → Int} (e0 : E 0 = D 0) {z : Nat} (e3 : E 3 = va_up (D 3) z 0) (p : Nat) : cd_has E p = (cd_has D p && !(decide (p / 16 = z))) := by
  unfold cd_has
  rw [e0, e3]
  by_cases e : p / 16 = z
  · rw [e, va_up_self, decide_eq_true (rfl : z = z), decide_eq_false (by omega)]
    simp
  · rw [va_up_ne _ _ e, decide_eq_false e]
    simp
theorem rl_em {x : Nat} (iv : IV D Z x) (rl : RL D A md O T 8) {z : Nat} (hz : z < 8) : RL (o_em D z) (m_em A z) md O T 8 := by
  have key : RL (la (o_em2 D z) 128) (m_em1 A z) md O T 8 := by
    have hD : ∀ r, r < 10 ∨ 12 < r → la (o_em2 D z) 128 r = o_em2 D z r := fun r hr => la_o _ hr 128
    have hA : ∀ r, r ≠ 2 → r ≠ 3 → r ≠ 4 → r ≠ 6 → m_em1 A z r = A r := by
      intro r h2 h3 h4 h6
      unfold m_em1
      rw [drow_o _ _ h6, dup_o _ _ _ h4, dup_o _ _ _ h3, dup_o _ _ _ h2]
    obtain ⟨⟨a0, a2, a3, a4, a6⟩, ⟨b4, b5⟩, c, d, e, f, g⟩ := rl
    have m2 : m_em1 A z 2 = va_up (A 2) z 0 := by unfold m_em1; rw [drow_o _ _ (by omega), dup_o _ _ _ (by omega), dup_o _ _ _ (by omega), dup_t]
    have m3 : m_em1 A z 3 = va_up (A 3) z 0 := by unfold m_em1; rw [drow_o _ _ (by omega), dup_o _ _ _ (by omega), dup_t, dup_o _ _ _ (by omega)]
    have m4 : m_em1 A z 4 = va_up (A 4) z (am_w (A 4 z + 1)) := by unfold m_em1; rw [drow_o _ _ (by omega), dup_t, dup_o _ _ _ (by omega), dup_o _ _ _ (by omega)]
    have m6 : m_em1 A z 6 = rs6 A z 3 := by unfold m_em1; rw [drow_t]
    have r6 : rs6 A z 3 = rs6 D z 3 := by unfold rs6; rw [a6]
    refine ⟨⟨?_, ?_, ?_, ?_, ?_⟩, ⟨?_, ?_⟩, ?_, ?_, ?_, ?_, LG_of g (hA 13 (by omega) (by omega) (by omega) (by omega))⟩
    · rw [hD 0 (by omega), hA 0 (by omega) (by omega) (by omega) (by omega), em2_o _ _ (by omega), a0]
    · rw [hD 2 (by omega), m2, em2_2, a2]
    · rw [hD 3 (by omega), m3, em2_3, a3]
    · rw [hD 4 (by omega), m4, em2_4, a4]
    · rw [hD 6 (by omega), m6, em2_6 iv, r6]
    · rw [hD 1 (by omega), hA 1 (by omega) (by omega) (by omega) (by omega), em2_o _ _ (by omega), b4]
    · rw [hD 1 (by omega), hA 1 (by omega) (by omega) (by omega) (by omega), em2_o _ _ (by omega), b5]
    · intro t ht8 hty hs
      rw [hD 2 (by omega), em2_2] at hs
      rw [hD 5 (by omega), hA 5 (by omega) (by omega) (by omega) (by omega), em2_o _ _ (by omega)]
      by_cases et : t = z
      · rw [et, va_up_self] at hs; omega
      · rw [va_up_ne _ _ et] at hs; exact c t ht8 hty hs
    · intro p hp hh
      rw [has_em (D := D) (by rw [hD 0 (by omega), em2_o _ _ (by omega)]) (by rw [hD 3 (by omega), em2_3]), Bool.and_eq_true] at hh
      rw [hD 7 (by omega), hD 8 (by omega), hD 9 (by omega), hA 7 (by omega) (by omega) (by omega) (by omega), hA 8 (by omega) (by omega) (by omega) (by omega), hA 9 (by omega) (by omega) (by omega) (by omega), em2_o _ _ (by omega), em2_o _ _ (by omega), em2_o _ _ (by omega)]
      exact d p hp hh.1
    · rw [hD 1 (by omega), hA 1 (by omega) (by omega) (by omega) (by omega), em2_o _ _ (by omega)]; exact e
    · intro m
      exact ⟨(f m).1, LR_of (f m).2 (by rw [hD 13 (by omega), em2_o _ _ (by omega)]) (by rw [hD 14 (by omega), em2_o _ _ (by omega)]) (by rw [hD 15 (by omega), em2_o _ _ (by omega)]) (by rw [hD 16 (by omega), em2_o _ _ (by omega)]) (hA 13 (by omega) (by omega) (by omega) (by omega))⟩
  have lw : LW (la (o_em2 D z) 128) := LW_of iv.1.1.2.2 (by rw [la_o _ (by omega), em2_o _ _ (by omega)])
  unfold o_em m_em
  rw [rl.1.2.2.2.1]
  exact rl_log lw key _ _ _
theorem iv_em {x : Nat} (iv : IV D Z x) {z : Nat} (hz : z < Z) : IV (o_em D z) Z x := by
  have pw := iv.pw
  have di := o_em_DI (z := z) iv.1.1 iv.1.2.2.2
  have e0 : o_em D z 0 = D 0 := by rw [o_em_lo _ _ (by omega), em2_o _ _ (by omega)]
  have e2 : o_em D z 2 = va_up (D 2) z 0 := by rw [o_em_lo _ _ (by omega), em2_2]
  have e3 : o_em D z 3 = va_up (D 3) z 0 := by rw [o_em_lo _ _ (by omega), em2_3]
  have e6 : o_em D z 6 = rs6 D z 3 := by rw [o_em_lo _ _ (by omega), em2_6 iv]
  have e7 : o_em D z 7 = D 7 := by rw [o_em_lo _ _ (by omega), em2_o _ _ (by omega)]
  have e9 : o_em D z 9 = D 9 := by rw [o_em_lo _ _ (by omega), em2_o _ _ (by omega)]
  have e1 : o_em D z 1 = D 1 := by rw [o_em_lo _ _ (by omega), em2_o _ _ (by omega)]
  have hh := has_em (D := D) (E := o_em D z) e0 e3
  have hh2 : ∀ p, cd_has (o_em2 D z) p = cd_has (o_em D z) p := fun p => cd_has_of (o_em_lo _ _ (by omega)).symm (o_em_lo _ _ (by omega)).symm p
  have hcc := CC_la (D := o_em2 D z) (fun p hp h => by
    rw [hh2, hh, Bool.and_eq_true] at h
    rw [em2_o _ _ (by omega)]
    exact iv.key hp h.1)
  obtain ⟨a, b, c, ⟨d1, d2⟩, e, f⟩ := iv
  refine ⟨⟨di, a.2.1, by rw [e0]; exact a.2.2.1, by rw [e0]; exact a.2.2.2⟩, ?_, ⟨?_, ?_⟩, ⟨?_, ?_⟩, ?_, ?_⟩
  · exact CC_of hcc (fun p _ => hh2 p) (fun p _ _ => by rw [o_em_hi _ _ (by omega), o_em_hi _ _ (by omega)]; exact ⟨rfl, rfl⟩) (o_em_hi _ _ (by omega)) (o_em_hi _ _ (by omega)) (o_em_hi _ _ (by omega))
  · intro t ht
    rw [e2, e3]
    by_cases et : t = z
    · rw [et, va_up_self, va_up_self]; exact ⟨fun _ => rfl, fun q => by omega⟩
    · rw [va_up_ne _ _ et, va_up_ne _ _ et]; exact c.1 t ht
  · intro t t1 t2
    rw [e3, va_up_ne _ _ (by omega)]
    exact c.2 t t1 t2
  · intro s hs
    rw [e0, e3, e6]
    unfold rs6
    by_cases q : s < 3 ∧ D 6 s = z
    · rw [if_pos q]; exact Or.inl rfl
    · rw [if_neg q]
      rcases d1 s hs with h | h
      · exact Or.inl h
      · have hne : (D 6 s).toNat ≠ z := fun w => q ⟨hs, by omega⟩
        rw [va_up_ne _ _ hne]
        exact Or.inr h
  · intro s t hs ht
    rw [e6]
    unfold rs6
    by_cases q : s < 3 ∧ D 6 s = z
    · rw [if_pos q]; exact fun _ => Or.inl rfl
    · rw [if_neg q]
      by_cases q2 : t < 3 ∧ D 6 t = z
      · rw [if_pos q2]; exact fun w => Or.inl w
      · rw [if_neg q2]; exact d2 s t hs ht
  · rw [e0]; exact e
  · rw [e1, e9]
    refine ⟨f.1, fun p hp h => f.2 p hp ?_⟩
    rw [hh, Bool.and_eq_true] at h
    exact h.1
theorem m_em_dup (A : Nat → Nat → Int) (z j : Nat) (v : Int) : m_em (dup A 1 j v) z = dup (m_em A z) 1 j v := by
  have e4 : dup A 1 j v 4 = A 4 := dup_o _ _ _ (by omega)
  have e6 : rs6 (dup A 1 j v) z 3 = rs6 A z 3 := by unfold rs6; rw [dup_o _ _ _ (by omega)]
  unfold m_em m_em1
  rw [e4, e6, dup_comm A _ _ _ _ (show (1 : Nat) ≠ 2 by omega), dup_comm _ _ _ _ _ (show (1 : Nat) ≠ 3 by omega), dup_comm _ _ _ _ _ (show (1 : Nat) ≠ 4 by omega), drow_dupc _ _ _ _ (show (1 : Nat) ≠ 6 by omega), nts_dup _ _ _ _ _ _ (by omega)]
theorem rl_ec {x : Nat} (iv : IV D Z x) (rl : RL D A md O T 8) {z : Nat} (hz : z < 8) : RL (o_ec D z) (mcl2 A z) md O T 8 := by
  have h1 := rl_em (iv_1 iv (j := 2) (by omega) (am_w (D 1 2 + 1))) (rl_tal rl (j := 2) (by omega) (by omega)) hz
  rw [m_em_dup] at h1
  exact h1
theorem iv_ec {x : Nat} (iv : IV D Z x) {z : Nat} (hz : z < Z) : IV (o_ec D z) Z x := iv_em (iv_1 iv (j := 2) (by omega) _) hz
/-- emptying a full zone makes room -/
theorem room_ec (iv : IV D Z 3) {z : Nat} (hz : z < Z) (h2 : D 2 z = 3) : cd_room D Z + D 0 1 ≤ cd_room (o_ec D z) Z := by
  have i1 := iv_1 iv (j := 2) (by omega) (am_w (D 1 2 + 1))
  have e0 : o_ec D z 0 = D 0 := o_ec_0 D z
  have e2 : o_ec D z 2 = va_up (D 2) z 0 := by unfold o_ec; rw [o_em_lo _ _ (by omega), em2_2, dup_o _ _ _ (by omega)]
  have e3 : o_ec D z 3 = va_up (D 3) z 0 := by unfold o_ec; rw [o_em_lo _ _ (by omega), em2_3, dup_o _ _ _ (by omega)]
  have e6 : o_ec D z 6 = rs6 D z 3 := by
    unfold o_ec
    rw [o_em_lo _ _ (by omega), em2_6 i1]
    unfold rs6
    rw [dup_o _ _ _ (by omega)]
  have hS := iv.1.2.2.1
  have hS3 := iv.1.1.1.2.2.2.1
  have hm : cd_many (o_ec D z) Z 0 = cd_many D Z 0 + 1 := by
    have := many_st (D := D) hz 0 0
    rw [if_neg (by omega), if_pos rfl] at this
    rw [cd_many_of (D := dup D 2 z 0) (by rw [e2, dup_t])]
    omega
  unfold cd_room
  rw [e0, hm]
  have hmul : (((cd_many D Z 0 + 1 : Nat)) : Int) * D 0 1 = (cd_many D Z 0 : Int) * D 0 1 + D 0 1 := by
    rw [show ((cd_many D Z 0 + 1 : Nat) : Int) = (cd_many D Z 0 : Int) + 1 by omega, Int.add_mul, Int.one_mul]
  rw [hmul]
  generalize hs : (D 0 4 - 1).toNat = s
  have hs3 : s < 3 := by omega
  have hrest : (if cd_lz D s = true then 0 else D 0 1 - D 3 (D 6 s).toNat) ≤ (if cd_lz (o_ec D z) s = true then 0 else D 0 1 - o_ec D z 3 (o_ec D z 6 s).toNat) := by
    by_cases q : D 6 s = z
    · have l1 : cd_lz D s = true := decide_eq_true (Or.inr (by rw [q, Int.toNat_natCast]; exact h2))
      have l2 : cd_lz (o_ec D z) s = true := by
        refine decide_eq_true (Or.inl ?_)
        rw [e6]
        unfold rs6
        rw [if_pos ⟨hs3, q⟩]
        omega
      rw [l1, l2]
      exact Int.le_refl _
    · have q6 : o_ec D z 6 s = D 6 s := by rw [e6]; unfold rs6; rw [if_neg (fun w => q w.2)]
      have hlz : cd_lz (o_ec D z) s = cd_lz D s := by
        unfold cd_lz
        rw [q6, e0, e2]
        by_cases w : (0 ≤ D 6 s ∧ D 6 s < D 0 0)
        · rw [va_up_ne _ _ (fun u => q (by omega))]
        · rw [decide_eq_true (Or.inl w), decide_eq_true (Or.inl w)]
      rw [hlz, q6]
      cases hl : cd_lz D s with
      | true => exact Int.le_refl _
      | false =>
        have := cd_lz_no hl
        rw [e3, va_up_ne _ _ (fun u => q (by omega))]
        exact Int.le_refl _
  omega
end BRG9
