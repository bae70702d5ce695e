/-! ===== the law: zone, the loop, the whole run ===== -/
section LWZ
variable {x mo o lo c0 t i : Nat} {L : Nat × (Nat → Int)} {H : am_H}
theorem m_thrown {M : Nat → Nat → Int} {g : am_H} : am_cI 142 [am_R mo] (mv mo M g) = some (M 0 0, mv mo M g) := by
  rw [am_cI]; simp only [en_142, bk_142_0, mv_f0_0, Option.bind_some, Bool.cond_decide, am_oI_some, am_oV_some, am_oI_ite, am_oV_ite, am_bind_ite, Int.toNat_natCast, Int.toNat_zero, Int.reduceToNat, ite_true, ite_false, not_true_eq_false, not_false_eq_true, decide_true, decide_false, decide_eq_true_eq, Bool.false_eq_true, Nat.add_zero, am_rok1_0, am_rok1_1, cond_true, cond_false, am_w_nat1, true_or, or_true, false_or, or_false, true_and, and_true, false_and, and_false, Int.reduceEq, Int.reduceNeg, Int.reduceLT, Int.reduceLE, or_self, and_self]
theorem zk_at {N P K T S : Nat → Nat → Int} {m : Nat} {A : Nat → Nat} {h : am_H} (z w : Int) : am_zk (zv x N P K T S m A h) x z w = some (decide (0 ≤ z ∧ z < N 0 0 ∧ 0 ≤ w ∧ w ≤ 7)) := by
  unfold am_zk
  have r := zN_r0 (x := x) (N := N) (P := P) (K := K) (T := T) (S := S) (m := m) (A := A) (h := h) (j := 0) (by omega) (by omega)
  rw [show (0 : Int).toNat = 0 from rfl] at r
  simp only [zv_f0_4, zN_f0, r, Option.bind_some]
theorem zv_push {N P K T S : Nat → Nat → Int} {m : Nat} {A : Nat → Nat} {h : am_H} (hx : x + 107 ≤ h.2.1) (c : am_C) (k : Nat) : am_push (zv x N P K T S m A h) c k = zv x N P K T S m A (am_push h c k) := by
  show (_, _) = (_, _)
  congr 1
  funext q
  show (if q = h.2.1 then c else (if x ≤ q ∧ q < x + 107 then zvc x N P K T S m A (q - x) else h.1 q)) = (if x ≤ q ∧ q < x + 107 then zvc x N P K T S m A (q - x) else (if q = h.2.1 then c else h.1 q))
  by_cases e : q = h.2.1
  · rw [if_pos e, if_neg (by omega), if_pos e]
  · rw [if_neg e, if_neg e]
theorem zv_cell {N P K T S : Nat → Nat → Int} {m : Nat} {A : Nat → Nat} {h : am_H} {a : Nat} (ha : x + 107 ≤ a) (c : am_C) : am_set (zv x N P K T S m A h) a c = zv x N P K T S m A (am_set h a c) := by
  show (_, _) = (_, _)
  congr 1
  funext q
  show (if q = a then c else (if x ≤ q ∧ q < x + 107 then zvc x N P K T S m A (q - x) else h.1 q)) = (if x ≤ q ∧ q < x + 107 then zvc x N P K T S m A (q - x) else (if q = a then c else h.1 q))
  by_cases e : q = a
  · rw [if_pos e, if_neg (by omega), if_pos e]
  · rw [if_neg e, if_neg e]
theorem lw_5 (g1 : x + 107 ≤ mo) (g2 : mo + 15 ≤ o) (g3 : o < lo) (ht : t < 512) (hi : i + 7 ≤ L.1) (hL : L.1 ≤ 3584) (st : ST x mo o lo c0 L t H) (y5 y6 : am_V) : ∃ z5 z6 H2, am_run am_ms 304 413 [am_K 2, am_R x, am_R mo, am_R o, am_I i, y5, y6] [] H = am_run am_ms 304 1939 [am_K 2, am_R x, am_R mo, am_R o, am_I i, z5, z6] [] H2 ∧ ST x mo o lo c0 L (t + 1) H2 := by
  obtain ⟨N, P, K, T, S, M, m, A, HD, h, n, eH, im, ⟨f, ho⟩, w, hs, hn, hL1, hc1, hc2⟩ := st
  subst eH
  have hb : Nat.beq 2 1 = false := rfl
  have hlo := hs.2.2.2
  have zk := zk_at (x := x) (N := N) (P := P) (K := K) (T := T) (S := S) (m := m) (A := A) (h := h) (L.2 (i + 1)) (L.2 (i + 2))
  have r1 := rk_L (H := zv x N P K T S m A h) hL1 (j := i + 1) (by omega)
  have r2 := rk_L (H := zv x N P K T S m A h) hL1 (j := i + 2) (by omega)
  have hi1 : i < 100000 := by omega
  by_cases e : 0 ≤ L.2 (i + 1) ∧ L.2 (i + 1) < N 0 0 ∧ 0 ≤ L.2 (i + 2) ∧ L.2 (i + 2) ≤ 7
  · rw [decide_eq_true e] at zk
    rcases w.2.2.2.2 with w0 | ⟨Z, wd⟩
    · exact absurd w0.2.1.1 (by omega)
    · obtain ⟨_, _, ⟨Ad, iv, _⟩, _⟩ := id wd
      have hZ := iv.pw.1
      obtain ⟨z, hz⟩ : ∃ z : Nat, L.2 (i + 1) = z := ⟨(L.2 (i + 1)).toNat, by omega⟩
      rw [hz] at zk r1
      have c1 := zone_c (x := x) (N := N) (P := P) (K := K) (T := T) (S := S) (m := m) (A := A) (h := h) iv (z := z) (by omega) (b := L.2 (i + 2)) e.2.2
      have hw : am_wr (zv x N P K T S m A h) o 2 0 (zq N z (L.2 (i + 2))) = some (zv x N P K T S m A (am_set h o (am_ar 2 1 (va_up f 0 (zq N z (L.2 (i + 2))))))) := by
        unfold am_wr
        rw [zv_out (by omega), ho]
        show (if 2 = 2 ∧ (0 : Int) ≤ 0 ∧ (0 : Int) < (1 : Nat) then some (am_set (zv x N P K T S m A h) o (am_ar 2 1 (va_up f (0 : Int).toNat (zq N z (L.2 (i + 2)))))) else none) = _
        rw [if_pos ⟨rfl, by omega, by omega⟩, zv_cell (by omega)]
        rfl
      have imS : Im mo M (am_set h o (am_ar 2 1 (va_up f 0 (zq N z (L.2 (i + 2)))))) := fun j hj => by
        show (if mo + j = o then _ else h.1 (mo + j)) = _
        rw [if_neg (by omega)]
        exact im j hj
      have hLS : (am_set h o (am_ar 2 1 (va_up f 0 (zq N z (L.2 (i + 2)))))).2.2.2 = L := hL1
      have oS : (am_set h o (am_ar 2 1 (va_up f 0 (zq N z (L.2 (i + 2)))))).1 o = am_ar 2 1 (va_up f 0 (zq N z (L.2 (i + 2)))) := if_pos rfl
      have hsS : HS lo m A HD (am_set h o (am_ar 2 1 (va_up f 0 (zq N z (L.2 (i + 2)))))) := HS_of hs (fun q hq _ => if_neg (by omega)) (Nat.le_refl _)
      have hcS1 : (am_set h o (am_ar 2 1 (va_up f 0 (zq N z (L.2 (i + 2)))))).2.1 ≤ lo + 18 * m + t := hc1
      have hcS2 : (am_set h o (am_ar 2 1 (va_up f 0 (zq N z (L.2 (i + 2)))))).2.2.1 ≤ c0 + 729 * m + 6 * t := hc2
      generalize am_set h o (am_ar 2 1 (va_up f 0 (zq N z (L.2 (i + 2))))) = hS at hw imS hLS oS hsS hcS1 hcS2
      have em : mv mo M (zv x N P K T S m A hS) = zv x N P K T S m A hS := by rw [← zv_mv g1, Im_mv imS]
      have c2 := zone_m (mo := mo) (g := zv x N P K T S m A hS) wd (z := z) (by omega) (b := L.2 (i + 2)) e.2.2
      rw [em] at c2
      have c3 := m_thrown (mo := mo) (M := dup M 0 0 0) (g := zv x N P K T S m A hS)
      rw [show dup M 0 0 0 0 0 = 0 from by rw [dup_t, va_up_self]] at c3
      have i9 : am_isc (zv x N P K T S m A hS) mo 9 = some () := by rw [← em]; exact mv_c0
      have q1 := rk_L (H := zv x N P K T S m A hS) hLS (j := i + 1) (by omega)
      have q2 := rk_L (H := zv x N P K T S m A hS) hLS (j := i + 2) (by omega)
      rw [hz] at q1
      have rdo : am_rd (mv mo (dup M 0 0 0) (zv x N P K T S m A hS)) o 2 0 = some (zq N z (L.2 (i + 2))) := by
        unfold am_rd
        rw [mv_out (by omega), zv_out (by omega), oS]
        show (if 2 = 2 ∧ (0 : Int) ≤ 0 ∧ (0 : Int) < (1 : Nat) then some (va_up f 0 (zq N z (L.2 (i + 2))) (0 : Int).toNat) else none) = _
        rw [if_pos ⟨rfl, by omega, by omega⟩]
        show some (va_up f 0 (zq N z (L.2 (i + 2))) 0) = _
        rw [va_up_self]
      have lc : am_lcmp (zq N z (L.2 (i + 2))) (zq N z (L.2 (i + 2))) = 0 := by unfold am_lcmp; rw [if_neg (by omega), if_pos rfl]
      have e1 : am_w ((i : Int) + 1) = ((i + 1 : Nat) : Int) := w_ik hi1 1 (by decide)
      have e2 : am_w ((i : Int) + 2) = ((i + 2 : Nat) : Int) := w_ik hi1 2 (by decide)
      refine ⟨am_I 0, am_I (zq N z (L.2 (i + 2))), mv mo (dup M 0 0 0) (zv x N P K T S m A hS), ?_, ⟨N, P, K, T, S, dup M 0 0 0, m, A, HD, mv mo (dup M 0 0 0) hS, n, (zv_mv g1).symm, Im_self _ _ _, ⟨va_up f 0 (zq N z (L.2 (i + 2))), ?_⟩, WR_MK w (MK_f M (Or.inl rfl) 0), HS_of hsS (fun q hq _ => mv_out ?_) (Nat.le_refl _), ?_, hLS, ?_, ?_⟩⟩
      · rw [bk_304_413]
        simp only [bk_304_432, bk_304_451, bk_304_461, bk_304_478, hb, e1, e2, r1, r2, zk, c1, hw, q1, q2, i9, c2, c3, mv_c0, rdo, lc, eq_self, Option.bind_some, Bool.cond_decide, am_oI_some, am_oV_some, am_oI_ite, am_oV_ite, am_bind_ite, Int.toNat_natCast, Int.toNat_zero, Int.reduceToNat, ite_true, ite_false, not_true_eq_false, not_false_eq_true, decide_true, decide_false, decide_eq_true_eq, Bool.false_eq_true, Nat.add_zero, am_rok1_0, am_rok1_1, cond_true, cond_false, am_w_nat1, true_or, or_true, false_or, or_false, true_and, and_true, false_and, and_false, Int.reduceEq, Int.reduceNeg, Int.reduceLT, Int.reduceLE, or_self, and_self]
      · clear e1 e2
        rw [mv_out (by omega)]
        exact oS
      · clear e1 e2
        omega
      · clear e1 e2
        omega
      · clear e1 e2
        show hS.2.1 ≤ _
        omega
      · clear e1 e2
        show hS.2.2.1 ≤ _
        omega
  · rw [decide_eq_false e] at zk
    have hp := zv_push (x := x) (N := N) (P := P) (K := K) (T := T) (S := S) (m := m) (A := A) (h := h) (by omega) am_no 6
    have imS : Im mo M (am_push h am_no 6) := fun j hj => by
      show (if mo + j = h.2.1 then _ else h.1 (mo + j)) = _
      rw [if_neg (by omega)]
      exact im j hj
    have hLS : (am_push h am_no 6).2.2.2 = L := hL1
    have oS : (am_push h am_no 6).1 o = am_ar 2 1 f := by
      show (if o = h.2.1 then _ else h.1 o) = _
      rw [if_neg (by omega)]
      exact ho
    have hsS : HS lo m A HD (am_push h am_no 6) := HS_of hs (fun q _ hq => if_neg (by omega)) (Nat.le_succ _)
    have hcS1 : (am_push h am_no 6).2.1 ≤ lo + 18 * m + t + 1 := Nat.succ_le_succ hc1
    have hcS2 : (am_push h am_no 6).2.2.1 ≤ c0 + 729 * m + 6 * t + 6 := Nat.add_le_add_right hc2 6
    generalize am_push h am_no 6 = hS at hp imS hLS oS hsS hcS1 hcS2
    have em : mv mo M (zv x N P K T S m A hS) = zv x N P K T S m A hS := by rw [← zv_mv g1, Im_mv imS]
    have c2 := zone_no (mo := mo) w e (zv x N P K T S m A hS)
    rw [em] at c2
    have c3 := m_thrown (mo := mo) (M := dup M 0 0 1) (g := zv x N P K T S m A hS)
    rw [show dup M 0 0 1 0 0 = 1 from by rw [dup_t, va_up_self]] at c3
    have i9 : am_isc (zv x N P K T S m A hS) mo 9 = some () := by rw [← em]; exact mv_c0
    have q1 := rk_L (H := zv x N P K T S m A hS) hLS (j := i + 1) (by omega)
    have q2 := rk_L (H := zv x N P K T S m A hS) hLS (j := i + 2) (by omega)
    have e1 : am_w ((i : Int) + 1) = ((i + 1 : Nat) : Int) := w_ik hi1 1 (by decide)
    have e2 : am_w ((i : Int) + 2) = ((i + 2 : Nat) : Int) := w_ik hi1 2 (by decide)
    refine ⟨am_I 1, am_I 0, mv mo (dup M 0 0 1) (zv x N P K T S m A hS), ?_, ⟨N, P, K, T, S, dup M 0 0 1, m, A, HD, mv mo (dup M 0 0 1) hS, n, (zv_mv g1).symm, Im_self _ _ _, ⟨f, ?_⟩, WR_MK w (MK_f M (Or.inl rfl) 1), HS_of hsS (fun q hq _ => mv_out ?_) (Nat.le_refl _), ?_, hLS, ?_, ?_⟩⟩
    · rw [bk_304_413]
      simp only [bk_304_432, bk_304_451, bk_304_461, bk_304_478, hb, e1, e2, r1, r2, zk, hp, q1, q2, i9, c2, c3, mv_c0, eq_self, Int.one_ne_zero, Option.bind_some, Bool.cond_decide, am_oI_some, am_oV_some, am_oI_ite, am_oV_ite, am_bind_ite, Int.toNat_natCast, Int.toNat_zero, Int.reduceToNat, ite_true, ite_false, not_true_eq_false, not_false_eq_true, decide_true, decide_false, decide_eq_true_eq, Bool.false_eq_true, Nat.add_zero, am_rok1_0, am_rok1_1, cond_true, cond_false, am_w_nat1, true_or, or_true, false_or, or_false, true_and, and_true, false_and, and_false, Int.reduceEq, Int.reduceNeg, Int.reduceLT, Int.reduceLE, or_self, and_self]
    · clear e1 e2
      rw [mv_out (by omega)]
      exact oS
    · clear e1 e2
      omega
    · clear e1 e2
      omega
    · clear e1 e2
      show hS.2.1 ≤ _
      omega
    · clear e1 e2
      show hS.2.2.1 ≤ _
      omega
/-- one call -/
theorem lw_one (g1 : x + 107 ≤ mo) (g2 : mo + 15 ≤ o) (g3 : o < lo) (ht : t < 512) (hi : i + 7 ≤ L.1) (hL : L.1 ≤ 3584) (st : ST x mo o lo c0 L t H) (y5 y6 : am_V) : ∃ z5 z6 H2, am_run am_ms 304 40 [am_K 2, am_R x, am_R mo, am_R o, am_I i, y5, y6] [am_I (am_and (L.2 i) 63)] H = am_run am_ms 304 1939 [am_K 2, am_R x, am_R mo, am_R o, am_I i, z5, z6] [] H2 ∧ ST x mo o lo c0 L (t + 1) H2 := by
  rw [bk_304_40]
  have hr : 0 ≤ am_and (L.2 i) 63 ∧ am_and (L.2 i) 63 ≤ 63 := and63 _
  obtain ⟨k, hk⟩ : ∃ k : Nat, am_and (L.2 i) 63 = k := ⟨(am_and (L.2 i) 63).toNat, by omega⟩
  rw [hk]
  by_cases h46 : k < 46
  · rcases (show k = 0 ∨ k = 1 ∨ k = 2 ∨ k = 3 ∨ k = 4 ∨ k = 5 ∨ k = 6 ∨ k = 7 ∨ k = 8 ∨ k = 9 ∨ k = 10 ∨ k = 11 ∨ k = 12 ∨ k = 13 ∨ k = 14 ∨ k = 15 ∨ k = 16 ∨ k = 17 ∨ k = 18 ∨ k = 19 ∨ k = 20 ∨ k = 21 ∨ k = 22 ∨ k = 23 ∨ k = 24 ∨ k = 25 ∨ k = 26 ∨ k = 27 ∨ k = 28 ∨ k = 29 ∨ k = 30 ∨ k = 31 ∨ k = 32 ∨ k = 33 ∨ k = 34 ∨ k = 35 ∨ k = 36 ∨ k = 37 ∨ k = 38 ∨ k = 39 ∨ k = 40 ∨ k = 41 ∨ k = 42 ∨ k = 43 ∨ k = 44 ∨ k = 45 by omega) with e | e | e | e | e | e | e | e | e | e | e | e | e | e | e | e | e | e | e | e | e | e | e | e | e | e | e | e | e | e | e | e | e | e | e | e | e | e | e | e | e | e | e | e | e | e
    · rw [e, show am_tsw 40 1899 0 45 #[200, 273, 298, 323, 348, 373, 441, 490, 515, 552, 577, 626, 651, 688, 713, 726, 739, 764, 789, 814, 839, 864, 933, 958, 971, 1008, 1057, 1094, 1119, 1156, 1193, 1230, 1255, 1348, 1417, 1524, 1617, 1686, 1723, 1748, 1761, 1786, 1823, 1848, 1861, 1874] ((0 : Nat) : Int) = 240 from rfl]
      obtain ⟨H2, e1, s2⟩ := lw_0 g1 g2 g3 ht hi hL st y5 y6
      exact ⟨y5, y6, H2, e1, s2⟩
    · rw [e, show am_tsw 40 1899 0 45 #[200, 273, 298, 323, 348, 373, 441, 490, 515, 552, 577, 626, 651, 688, 713, 726, 739, 764, 789, 814, 839, 864, 933, 958, 971, 1008, 1057, 1094, 1119, 1156, 1193, 1230, 1255, 1348, 1417, 1524, 1617, 1686, 1723, 1748, 1761, 1786, 1823, 1848, 1861, 1874] ((1 : Nat) : Int) = 313 from rfl]
      obtain ⟨H2, e1, s2⟩ := lw_1 g1 g2 g3 ht hi hL st y5 y6
      exact ⟨y5, y6, H2, e1, s2⟩
    · rw [e, show am_tsw 40 1899 0 45 #[200, 273, 298, 323, 348, 373, 441, 490, 515, 552, 577, 626, 651, 688, 713, 726, 739, 764, 789, 814, 839, 864, 933, 958, 971, 1008, 1057, 1094, 1119, 1156, 1193, 1230, 1255, 1348, 1417, 1524, 1617, 1686, 1723, 1748, 1761, 1786, 1823, 1848, 1861, 1874] ((2 : Nat) : Int) = 338 from rfl]
      obtain ⟨H2, e1, s2⟩ := lw_2 g1 g2 g3 ht hi hL st y5 y6
      exact ⟨y5, y6, H2, e1, s2⟩
    · rw [e, show am_tsw 40 1899 0 45 #[200, 273, 298, 323, 348, 373, 441, 490, 515, 552, 577, 626, 651, 688, 713, 726, 739, 764, 789, 814, 839, 864, 933, 958, 971, 1008, 1057, 1094, 1119, 1156, 1193, 1230, 1255, 1348, 1417, 1524, 1617, 1686, 1723, 1748, 1761, 1786, 1823, 1848, 1861, 1874] ((3 : Nat) : Int) = 363 from rfl]
      obtain ⟨H2, e1, s2⟩ := lw_3 g1 g2 g3 ht hi hL st y5 y6
      exact ⟨y5, y6, H2, e1, s2⟩
    · rw [e, show am_tsw 40 1899 0 45 #[200, 273, 298, 323, 348, 373, 441, 490, 515, 552, 577, 626, 651, 688, 713, 726, 739, 764, 789, 814, 839, 864, 933, 958, 971, 1008, 1057, 1094, 1119, 1156, 1193, 1230, 1255, 1348, 1417, 1524, 1617, 1686, 1723, 1748, 1761, 1786, 1823, 1848, 1861, 1874] ((4 : Nat) : Int) = 388 from rfl]
      obtain ⟨H2, e1, s2⟩ := lw_4 g1 g2 g3 ht hi hL st y5 y6
      exact ⟨y5, y6, H2, e1, s2⟩
    · rw [e, show am_tsw 40 1899 0 45 #[200, 273, 298, 323, 348, 373, 441, 490, 515, 552, 577, 626, 651, 688, 713, 726, 739, 764, 789, 814, 839, 864, 933, 958, 971, 1008, 1057, 1094, 1119, 1156, 1193, 1230, 1255, 1348, 1417, 1524, 1617, 1686, 1723, 1748, 1761, 1786, 1823, 1848, 1861, 1874] ((5 : Nat) : Int) = 413 from rfl]
      obtain ⟨z5, z6, H2, e1, s2⟩ := lw_5 g1 g2 g3 ht hi hL st y5 y6
      exact ⟨z5, z6, H2, e1, s2⟩
    · rw [e, show am_tsw 40 1899 0 45 #[200, 273, 298, 323, 348, 373, 441, 490, 515, 552, 577, 626, 651, 688, 713, 726, 739, 764, 789, 814, 839, 864, 933, 958, 971, 1008, 1057, 1094, 1119, 1156, 1193, 1230, 1255, 1348, 1417, 1524, 1617, 1686, 1723, 1748, 1761, 1786, 1823, 1848, 1861, 1874] ((6 : Nat) : Int) = 481 from rfl]
      obtain ⟨H2, e1, s2⟩ := lw_6 g1 g2 g3 ht hi hL st y5 y6
      exact ⟨y5, y6, H2, e1, s2⟩
    · rw [e, show am_tsw 40 1899 0 45 #[200, 273, 298, 323, 348, 373, 441, 490, 515, 552, 577, 626, 651, 688, 713, 726, 739, 764, 789, 814, 839, 864, 933, 958, 971, 1008, 1057, 1094, 1119, 1156, 1193, 1230, 1255, 1348, 1417, 1524, 1617, 1686, 1723, 1748, 1761, 1786, 1823, 1848, 1861, 1874] ((7 : Nat) : Int) = 530 from rfl]
      obtain ⟨H2, e1, s2⟩ := lw_7 g1 g2 g3 ht hi hL st y5 y6
      exact ⟨y5, y6, H2, e1, s2⟩
    · rw [e, show am_tsw 40 1899 0 45 #[200, 273, 298, 323, 348, 373, 441, 490, 515, 552, 577, 626, 651, 688, 713, 726, 739, 764, 789, 814, 839, 864, 933, 958, 971, 1008, 1057, 1094, 1119, 1156, 1193, 1230, 1255, 1348, 1417, 1524, 1617, 1686, 1723, 1748, 1761, 1786, 1823, 1848, 1861, 1874] ((8 : Nat) : Int) = 555 from rfl]
      obtain ⟨H2, e1, s2⟩ := lw_8 g1 g2 g3 ht hi hL st y5 y6
      exact ⟨y5, y6, H2, e1, s2⟩
    · rw [e, show am_tsw 40 1899 0 45 #[200, 273, 298, 323, 348, 373, 441, 490, 515, 552, 577, 626, 651, 688, 713, 726, 739, 764, 789, 814, 839, 864, 933, 958, 971, 1008, 1057, 1094, 1119, 1156, 1193, 1230, 1255, 1348, 1417, 1524, 1617, 1686, 1723, 1748, 1761, 1786, 1823, 1848, 1861, 1874] ((9 : Nat) : Int) = 592 from rfl]
      obtain ⟨H2, e1, s2⟩ := lw_9 g1 g2 g3 ht hi hL st y5 y6
      exact ⟨y5, y6, H2, e1, s2⟩
    · rw [e, show am_tsw 40 1899 0 45 #[200, 273, 298, 323, 348, 373, 441, 490, 515, 552, 577, 626, 651, 688, 713, 726, 739, 764, 789, 814, 839, 864, 933, 958, 971, 1008, 1057, 1094, 1119, 1156, 1193, 1230, 1255, 1348, 1417, 1524, 1617, 1686, 1723, 1748, 1761, 1786, 1823, 1848, 1861, 1874] ((10 : Nat) : Int) = 617 from rfl]
      obtain ⟨H2, e1, s2⟩ := lw_10 g1 g2 g3 ht hi hL st y5 y6
      exact ⟨y5, y6, H2, e1, s2⟩
    · rw [e, show am_tsw 40 1899 0 45 #[200, 273, 298, 323, 348, 373, 441, 490, 515, 552, 577, 626, 651, 688, 713, 726, 739, 764, 789, 814, 839, 864, 933, 958, 971, 1008, 1057, 1094, 1119, 1156, 1193, 1230, 1255, 1348, 1417, 1524, 1617, 1686, 1723, 1748, 1761, 1786, 1823, 1848, 1861, 1874] ((11 : Nat) : Int) = 666 from rfl]
      obtain ⟨H2, e1, s2⟩ := lw_11 g1 g2 g3 ht hi hL st y5 y6
      exact ⟨y5, y6, H2, e1, s2⟩
    · rw [e, show am_tsw 40 1899 0 45 #[200, 273, 298, 323, 348, 373, 441, 490, 515, 552, 577, 626, 651, 688, 713, 726, 739, 764, 789, 814, 839, 864, 933, 958, 971, 1008, 1057, 1094, 1119, 1156, 1193, 1230, 1255, 1348, 1417, 1524, 1617, 1686, 1723, 1748, 1761, 1786, 1823, 1848, 1861, 1874] ((12 : Nat) : Int) = 691 from rfl]
      obtain ⟨H2, e1, s2⟩ := lw_12 g1 g2 g3 ht hi hL st y5 y6
      exact ⟨y5, y6, H2, e1, s2⟩
    · rw [e, show am_tsw 40 1899 0 45 #[200, 273, 298, 323, 348, 373, 441, 490, 515, 552, 577, 626, 651, 688, 713, 726, 739, 764, 789, 814, 839, 864, 933, 958, 971, 1008, 1057, 1094, 1119, 1156, 1193, 1230, 1255, 1348, 1417, 1524, 1617, 1686, 1723, 1748, 1761, 1786, 1823, 1848, 1861, 1874] ((13 : Nat) : Int) = 728 from rfl]
      obtain ⟨H2, e1, s2⟩ := lw_13 g1 g2 g3 ht hi hL st y5 y6
      exact ⟨y5, y6, H2, e1, s2⟩
    · rw [e, show am_tsw 40 1899 0 45 #[200, 273, 298, 323, 348, 373, 441, 490, 515, 552, 577, 626, 651, 688, 713, 726, 739, 764, 789, 814, 839, 864, 933, 958, 971, 1008, 1057, 1094, 1119, 1156, 1193, 1230, 1255, 1348, 1417, 1524, 1617, 1686, 1723, 1748, 1761, 1786, 1823, 1848, 1861, 1874] ((14 : Nat) : Int) = 753 from rfl]
      obtain ⟨H2, e1, s2⟩ := lw_14 g1 g2 g3 ht hi hL st y5 y6
      exact ⟨y5, y6, H2, e1, s2⟩
    · rw [e, show am_tsw 40 1899 0 45 #[200, 273, 298, 323, 348, 373, 441, 490, 515, 552, 577, 626, 651, 688, 713, 726, 739, 764, 789, 814, 839, 864, 933, 958, 971, 1008, 1057, 1094, 1119, 1156, 1193, 1230, 1255, 1348, 1417, 1524, 1617, 1686, 1723, 1748, 1761, 1786, 1823, 1848, 1861, 1874] ((15 : Nat) : Int) = 766 from rfl]
      obtain ⟨H2, e1, s2⟩ := lw_15 g1 g2 g3 ht hi hL st y5 y6
      exact ⟨y5, y6, H2, e1, s2⟩
    · rw [e, show am_tsw 40 1899 0 45 #[200, 273, 298, 323, 348, 373, 441, 490, 515, 552, 577, 626, 651, 688, 713, 726, 739, 764, 789, 814, 839, 864, 933, 958, 971, 1008, 1057, 1094, 1119, 1156, 1193, 1230, 1255, 1348, 1417, 1524, 1617, 1686, 1723, 1748, 1761, 1786, 1823, 1848, 1861, 1874] ((16 : Nat) : Int) = 779 from rfl]
      obtain ⟨H2, e1, s2⟩ := lw_16 g1 g2 g3 ht hi hL st y5 y6
      exact ⟨y5, y6, H2, e1, s2⟩
    · rw [e, show am_tsw 40 1899 0 45 #[200, 273, 298, 323, 348, 373, 441, 490, 515, 552, 577, 626, 651, 688, 713, 726, 739, 764, 789, 814, 839, 864, 933, 958, 971, 1008, 1057, 1094, 1119, 1156, 1193, 1230, 1255, 1348, 1417, 1524, 1617, 1686, 1723, 1748, 1761, 1786, 1823, 1848, 1861, 1874] ((17 : Nat) : Int) = 804 from rfl]
      obtain ⟨H2, e1, s2⟩ := lw_17 g1 g2 g3 ht hi hL st y5 y6
      exact ⟨y5, y6, H2, e1, s2⟩
    · rw [e, show am_tsw 40 1899 0 45 #[200, 273, 298, 323, 348, 373, 441, 490, 515, 552, 577, 626, 651, 688, 713, 726, 739, 764, 789, 814, 839, 864, 933, 958, 971, 1008, 1057, 1094, 1119, 1156, 1193, 1230, 1255, 1348, 1417, 1524, 1617, 1686, 1723, 1748, 1761, 1786, 1823, 1848, 1861, 1874] ((18 : Nat) : Int) = 829 from rfl]
      obtain ⟨H2, e1, s2⟩ := lw_18 g1 g2 g3 ht hi hL st y5 y6
      exact ⟨y5, y6, H2, e1, s2⟩
    · rw [e, show am_tsw 40 1899 0 45 #[200, 273, 298, 323, 348, 373, 441, 490, 515, 552, 577, 626, 651, 688, 713, 726, 739, 764, 789, 814, 839, 864, 933, 958, 971, 1008, 1057, 1094, 1119, 1156, 1193, 1230, 1255, 1348, 1417, 1524, 1617, 1686, 1723, 1748, 1761, 1786, 1823, 1848, 1861, 1874] ((19 : Nat) : Int) = 854 from rfl]
      obtain ⟨H2, e1, s2⟩ := lw_19 g1 g2 g3 ht hi hL st y5 y6
      exact ⟨y5, y6, H2, e1, s2⟩
    · rw [e, show am_tsw 40 1899 0 45 #[200, 273, 298, 323, 348, 373, 441, 490, 515, 552, 577, 626, 651, 688, 713, 726, 739, 764, 789, 814, 839, 864, 933, 958, 971, 1008, 1057, 1094, 1119, 1156, 1193, 1230, 1255, 1348, 1417, 1524, 1617, 1686, 1723, 1748, 1761, 1786, 1823, 1848, 1861, 1874] ((20 : Nat) : Int) = 879 from rfl]
      obtain ⟨H2, e1, s2⟩ := lw_20 g1 g2 g3 ht hi hL st y5 y6
      exact ⟨y5, y6, H2, e1, s2⟩
    · rw [e, show am_tsw 40 1899 0 45 #[200, 273, 298, 323, 348, 373, 441, 490, 515, 552, 577, 626, 651, 688, 713, 726, 739, 764, 789, 814, 839, 864, 933, 958, 971, 1008, 1057, 1094, 1119, 1156, 1193, 1230, 1255, 1348, 1417, 1524, 1617, 1686, 1723, 1748, 1761, 1786, 1823, 1848, 1861, 1874] ((21 : Nat) : Int) = 904 from rfl]
      obtain ⟨H2, e1, s2⟩ := lw_21 g1 g2 g3 ht hi hL st y5 y6
      exact ⟨y5, y6, H2, e1, s2⟩
    · rw [e, show am_tsw 40 1899 0 45 #[200, 273, 298, 323, 348, 373, 441, 490, 515, 552, 577, 626, 651, 688, 713, 726, 739, 764, 789, 814, 839, 864, 933, 958, 971, 1008, 1057, 1094, 1119, 1156, 1193, 1230, 1255, 1348, 1417, 1524, 1617, 1686, 1723, 1748, 1761, 1786, 1823, 1848, 1861, 1874] ((22 : Nat) : Int) = 973 from rfl]
      obtain ⟨H2, e1, s2⟩ := lw_22 g1 g2 g3 ht hi hL st y5 y6
      exact ⟨y5, y6, H2, e1, s2⟩
    · rw [e, show am_tsw 40 1899 0 45 #[200, 273, 298, 323, 348, 373, 441, 490, 515, 552, 577, 626, 651, 688, 713, 726, 739, 764, 789, 814, 839, 864, 933, 958, 971, 1008, 1057, 1094, 1119, 1156, 1193, 1230, 1255, 1348, 1417, 1524, 1617, 1686, 1723, 1748, 1761, 1786, 1823, 1848, 1861, 1874] ((23 : Nat) : Int) = 998 from rfl]
      obtain ⟨H2, e1, s2⟩ := lw_23 g1 g2 g3 ht hi hL st y5 y6
      exact ⟨y5, y6, H2, e1, s2⟩
    · rw [e, show am_tsw 40 1899 0 45 #[200, 273, 298, 323, 348, 373, 441, 490, 515, 552, 577, 626, 651, 688, 713, 726, 739, 764, 789, 814, 839, 864, 933, 958, 971, 1008, 1057, 1094, 1119, 1156, 1193, 1230, 1255, 1348, 1417, 1524, 1617, 1686, 1723, 1748, 1761, 1786, 1823, 1848, 1861, 1874] ((24 : Nat) : Int) = 1011 from rfl]
      obtain ⟨H2, e1, s2⟩ := lw_24 g1 g2 g3 ht hi hL st y5 y6
      exact ⟨y5, y6, H2, e1, s2⟩
    · rw [e, show am_tsw 40 1899 0 45 #[200, 273, 298, 323, 348, 373, 441, 490, 515, 552, 577, 626, 651, 688, 713, 726, 739, 764, 789, 814, 839, 864, 933, 958, 971, 1008, 1057, 1094, 1119, 1156, 1193, 1230, 1255, 1348, 1417, 1524, 1617, 1686, 1723, 1748, 1761, 1786, 1823, 1848, 1861, 1874] ((25 : Nat) : Int) = 1048 from rfl]
      obtain ⟨H2, e1, s2⟩ := lw_25 g1 g2 g3 ht hi hL st y5 y6
      exact ⟨y5, y6, H2, e1, s2⟩
    · rw [e, show am_tsw 40 1899 0 45 #[200, 273, 298, 323, 348, 373, 441, 490, 515, 552, 577, 626, 651, 688, 713, 726, 739, 764, 789, 814, 839, 864, 933, 958, 971, 1008, 1057, 1094, 1119, 1156, 1193, 1230, 1255, 1348, 1417, 1524, 1617, 1686, 1723, 1748, 1761, 1786, 1823, 1848, 1861, 1874] ((26 : Nat) : Int) = 1097 from rfl]
      obtain ⟨H2, e1, s2⟩ := lw_26 g1 g2 g3 ht hi hL st y5 y6
      exact ⟨y5, y6, H2, e1, s2⟩
    · rw [e, show am_tsw 40 1899 0 45 #[200, 273, 298, 323, 348, 373, 441, 490, 515, 552, 577, 626, 651, 688, 713, 726, 739, 764, 789, 814, 839, 864, 933, 958, 971, 1008, 1057, 1094, 1119, 1156, 1193, 1230, 1255, 1348, 1417, 1524, 1617, 1686, 1723, 1748, 1761, 1786, 1823, 1848, 1861, 1874] ((27 : Nat) : Int) = 1134 from rfl]
      obtain ⟨H2, e1, s2⟩ := lw_27 g1 g2 g3 ht hi hL st y5 y6
      exact ⟨y5, y6, H2, e1, s2⟩
    · rw [e, show am_tsw 40 1899 0 45 #[200, 273, 298, 323, 348, 373, 441, 490, 515, 552, 577, 626, 651, 688, 713, 726, 739, 764, 789, 814, 839, 864, 933, 958, 971, 1008, 1057, 1094, 1119, 1156, 1193, 1230, 1255, 1348, 1417, 1524, 1617, 1686, 1723, 1748, 1761, 1786, 1823, 1848, 1861, 1874] ((28 : Nat) : Int) = 1159 from rfl]
      obtain ⟨H2, e1, s2⟩ := lw_28 g1 g2 g3 ht hi hL st y5 y6
      exact ⟨y5, y6, H2, e1, s2⟩
    · rw [e, show am_tsw 40 1899 0 45 #[200, 273, 298, 323, 348, 373, 441, 490, 515, 552, 577, 626, 651, 688, 713, 726, 739, 764, 789, 814, 839, 864, 933, 958, 971, 1008, 1057, 1094, 1119, 1156, 1193, 1230, 1255, 1348, 1417, 1524, 1617, 1686, 1723, 1748, 1761, 1786, 1823, 1848, 1861, 1874] ((29 : Nat) : Int) = 1196 from rfl]
      obtain ⟨H2, e1, s2⟩ := lw_29 g1 g2 g3 ht hi hL st y5 y6
      exact ⟨y5, y6, H2, e1, s2⟩
    · rw [e, show am_tsw 40 1899 0 45 #[200, 273, 298, 323, 348, 373, 441, 490, 515, 552, 577, 626, 651, 688, 713, 726, 739, 764, 789, 814, 839, 864, 933, 958, 971, 1008, 1057, 1094, 1119, 1156, 1193, 1230, 1255, 1348, 1417, 1524, 1617, 1686, 1723, 1748, 1761, 1786, 1823, 1848, 1861, 1874] ((30 : Nat) : Int) = 1233 from rfl]
      obtain ⟨H2, e1, s2⟩ := lw_30 g1 g2 g3 ht hi hL st y5 y6
      exact ⟨y5, y6, H2, e1, s2⟩
    · rw [e, show am_tsw 40 1899 0 45 #[200, 273, 298, 323, 348, 373, 441, 490, 515, 552, 577, 626, 651, 688, 713, 726, 739, 764, 789, 814, 839, 864, 933, 958, 971, 1008, 1057, 1094, 1119, 1156, 1193, 1230, 1255, 1348, 1417, 1524, 1617, 1686, 1723, 1748, 1761, 1786, 1823, 1848, 1861, 1874] ((31 : Nat) : Int) = 1270 from rfl]
      obtain ⟨H2, e1, s2⟩ := lw_31 g1 g2 g3 ht hi hL st y5 y6
      exact ⟨y5, y6, H2, e1, s2⟩
    · rw [e, show am_tsw 40 1899 0 45 #[200, 273, 298, 323, 348, 373, 441, 490, 515, 552, 577, 626, 651, 688, 713, 726, 739, 764, 789, 814, 839, 864, 933, 958, 971, 1008, 1057, 1094, 1119, 1156, 1193, 1230, 1255, 1348, 1417, 1524, 1617, 1686, 1723, 1748, 1761, 1786, 1823, 1848, 1861, 1874] ((32 : Nat) : Int) = 1295 from rfl]
      obtain ⟨H2, e1, s2⟩ := lw_32 g1 g2 g3 ht hi hL st y5 y6
      exact ⟨y5, y6, H2, e1, s2⟩
    · rw [e, show am_tsw 40 1899 0 45 #[200, 273, 298, 323, 348, 373, 441, 490, 515, 552, 577, 626, 651, 688, 713, 726, 739, 764, 789, 814, 839, 864, 933, 958, 971, 1008, 1057, 1094, 1119, 1156, 1193, 1230, 1255, 1348, 1417, 1524, 1617, 1686, 1723, 1748, 1761, 1786, 1823, 1848, 1861, 1874] ((33 : Nat) : Int) = 1388 from rfl]
      obtain ⟨H2, e1, s2⟩ := lw_33 g1 g2 g3 ht hi hL st y5 y6
      exact ⟨y5, y6, H2, e1, s2⟩
    · rw [e, show am_tsw 40 1899 0 45 #[200, 273, 298, 323, 348, 373, 441, 490, 515, 552, 577, 626, 651, 688, 713, 726, 739, 764, 789, 814, 839, 864, 933, 958, 971, 1008, 1057, 1094, 1119, 1156, 1193, 1230, 1255, 1348, 1417, 1524, 1617, 1686, 1723, 1748, 1761, 1786, 1823, 1848, 1861, 1874] ((34 : Nat) : Int) = 1457 from rfl]
      obtain ⟨H2, e1, s2⟩ := lw_34 g1 g2 g3 ht hi hL st y5 y6
      exact ⟨y5, y6, H2, e1, s2⟩
    · rw [e, show am_tsw 40 1899 0 45 #[200, 273, 298, 323, 348, 373, 441, 490, 515, 552, 577, 626, 651, 688, 713, 726, 739, 764, 789, 814, 839, 864, 933, 958, 971, 1008, 1057, 1094, 1119, 1156, 1193, 1230, 1255, 1348, 1417, 1524, 1617, 1686, 1723, 1748, 1761, 1786, 1823, 1848, 1861, 1874] ((35 : Nat) : Int) = 1564 from rfl]
      obtain ⟨H2, e1, s2⟩ := lw_35 g1 g2 g3 ht hi hL st y5 y6
      exact ⟨y5, y6, H2, e1, s2⟩
    · rw [e, show am_tsw 40 1899 0 45 #[200, 273, 298, 323, 348, 373, 441, 490, 515, 552, 577, 626, 651, 688, 713, 726, 739, 764, 789, 814, 839, 864, 933, 958, 971, 1008, 1057, 1094, 1119, 1156, 1193, 1230, 1255, 1348, 1417, 1524, 1617, 1686, 1723, 1748, 1761, 1786, 1823, 1848, 1861, 1874] ((36 : Nat) : Int) = 1657 from rfl]
      obtain ⟨H2, e1, s2⟩ := lw_36 g1 g2 g3 ht hi hL st y5 y6
      exact ⟨y5, y6, H2, e1, s2⟩
    · rw [e, show am_tsw 40 1899 0 45 #[200, 273, 298, 323, 348, 373, 441, 490, 515, 552, 577, 626, 651, 688, 713, 726, 739, 764, 789, 814, 839, 864, 933, 958, 971, 1008, 1057, 1094, 1119, 1156, 1193, 1230, 1255, 1348, 1417, 1524, 1617, 1686, 1723, 1748, 1761, 1786, 1823, 1848, 1861, 1874] ((37 : Nat) : Int) = 1726 from rfl]
      obtain ⟨H2, e1, s2⟩ := lw_37 g1 g2 g3 ht hi hL st y5 y6
      exact ⟨y5, y6, H2, e1, s2⟩
    · rw [e, show am_tsw 40 1899 0 45 #[200, 273, 298, 323, 348, 373, 441, 490, 515, 552, 577, 626, 651, 688, 713, 726, 739, 764, 789, 814, 839, 864, 933, 958, 971, 1008, 1057, 1094, 1119, 1156, 1193, 1230, 1255, 1348, 1417, 1524, 1617, 1686, 1723, 1748, 1761, 1786, 1823, 1848, 1861, 1874] ((38 : Nat) : Int) = 1763 from rfl]
      obtain ⟨H2, e1, s2⟩ := lw_38 g1 g2 g3 ht hi hL st y5 y6
      exact ⟨y5, y6, H2, e1, s2⟩
    · rw [e, show am_tsw 40 1899 0 45 #[200, 273, 298, 323, 348, 373, 441, 490, 515, 552, 577, 626, 651, 688, 713, 726, 739, 764, 789, 814, 839, 864, 933, 958, 971, 1008, 1057, 1094, 1119, 1156, 1193, 1230, 1255, 1348, 1417, 1524, 1617, 1686, 1723, 1748, 1761, 1786, 1823, 1848, 1861, 1874] ((39 : Nat) : Int) = 1788 from rfl]
      obtain ⟨H2, e1, s2⟩ := lw_39 g1 g2 g3 ht hi hL st y5 y6
      exact ⟨y5, y6, H2, e1, s2⟩
    · rw [e, show am_tsw 40 1899 0 45 #[200, 273, 298, 323, 348, 373, 441, 490, 515, 552, 577, 626, 651, 688, 713, 726, 739, 764, 789, 814, 839, 864, 933, 958, 971, 1008, 1057, 1094, 1119, 1156, 1193, 1230, 1255, 1348, 1417, 1524, 1617, 1686, 1723, 1748, 1761, 1786, 1823, 1848, 1861, 1874] ((40 : Nat) : Int) = 1801 from rfl]
      obtain ⟨H2, e1, s2⟩ := lw_40 g1 g2 g3 ht hi hL st y5 y6
      exact ⟨y5, y6, H2, e1, s2⟩
    · rw [e, show am_tsw 40 1899 0 45 #[200, 273, 298, 323, 348, 373, 441, 490, 515, 552, 577, 626, 651, 688, 713, 726, 739, 764, 789, 814, 839, 864, 933, 958, 971, 1008, 1057, 1094, 1119, 1156, 1193, 1230, 1255, 1348, 1417, 1524, 1617, 1686, 1723, 1748, 1761, 1786, 1823, 1848, 1861, 1874] ((41 : Nat) : Int) = 1826 from rfl]
      obtain ⟨H2, e1, s2⟩ := lw_41 g1 g2 g3 ht hi hL st y5 y6
      exact ⟨y5, y6, H2, e1, s2⟩
    · rw [e, show am_tsw 40 1899 0 45 #[200, 273, 298, 323, 348, 373, 441, 490, 515, 552, 577, 626, 651, 688, 713, 726, 739, 764, 789, 814, 839, 864, 933, 958, 971, 1008, 1057, 1094, 1119, 1156, 1193, 1230, 1255, 1348, 1417, 1524, 1617, 1686, 1723, 1748, 1761, 1786, 1823, 1848, 1861, 1874] ((42 : Nat) : Int) = 1863 from rfl]
      obtain ⟨H2, e1, s2⟩ := lw_42 g1 g2 g3 ht hi hL st y5 y6
      exact ⟨y5, y6, H2, e1, s2⟩
    · rw [e, show am_tsw 40 1899 0 45 #[200, 273, 298, 323, 348, 373, 441, 490, 515, 552, 577, 626, 651, 688, 713, 726, 739, 764, 789, 814, 839, 864, 933, 958, 971, 1008, 1057, 1094, 1119, 1156, 1193, 1230, 1255, 1348, 1417, 1524, 1617, 1686, 1723, 1748, 1761, 1786, 1823, 1848, 1861, 1874] ((43 : Nat) : Int) = 1888 from rfl]
      obtain ⟨H2, e1, s2⟩ := lw_43 g1 g2 g3 ht hi hL st y5 y6
      exact ⟨y5, y6, H2, e1, s2⟩
    · rw [e, show am_tsw 40 1899 0 45 #[200, 273, 298, 323, 348, 373, 441, 490, 515, 552, 577, 626, 651, 688, 713, 726, 739, 764, 789, 814, 839, 864, 933, 958, 971, 1008, 1057, 1094, 1119, 1156, 1193, 1230, 1255, 1348, 1417, 1524, 1617, 1686, 1723, 1748, 1761, 1786, 1823, 1848, 1861, 1874] ((44 : Nat) : Int) = 1901 from rfl]
      obtain ⟨H2, e1, s2⟩ := lw_44 g1 g2 g3 ht hi hL st y5 y6
      exact ⟨y5, y6, H2, e1, s2⟩
    · rw [e, show am_tsw 40 1899 0 45 #[200, 273, 298, 323, 348, 373, 441, 490, 515, 552, 577, 626, 651, 688, 713, 726, 739, 764, 789, 814, 839, 864, 933, 958, 971, 1008, 1057, 1094, 1119, 1156, 1193, 1230, 1255, 1348, 1417, 1524, 1617, 1686, 1723, 1748, 1761, 1786, 1823, 1848, 1861, 1874] ((45 : Nat) : Int) = 1914 from rfl]
      obtain ⟨H2, e1, s2⟩ := lw_45 g1 g2 g3 ht hi hL st y5 y6
      exact ⟨y5, y6, H2, e1, s2⟩
  · have ed : am_tsw 40 1899 0 45 #[200, 273, 298, 323, 348, 373, 441, 490, 515, 552, 577, 626, 651, 688, 713, 726, 739, 764, 789, 814, 839, 864, 933, 958, 971, 1008, 1057, 1094, 1119, 1156, 1193, 1230, 1255, 1348, 1417, 1524, 1617, 1686, 1723, 1748, 1761, 1786, 1823, 1848, 1861, 1874] (k : Int) = 1939 := by unfold am_tsw; rw [if_pos (by omega)]; rfl
    rw [ed]
    refine ⟨y5, y6, H, rfl, ?_⟩
    obtain ⟨N, P, K, T, S, M, m, A, HD, h, n, eH, im, ho, w, hs, hn, hL1, hc1, hc2⟩ := st
    exact ⟨N, P, K, T, S, M, m, A, HD, h, n, eH, im, ho, w, hs, by omega, hL1, by omega, by omega⟩
theorem w_i7 {i : Nat} (hi : i < 100000) : am_w ((i : Int) + 7) = ((i + 7 : Nat) : Int) := w_ik hi 7 (by decide)
theorem w_l7 {i : Nat} (hi : i < 100000) : am_w ((i : Int) - 7) = (i : Int) - 7 := am_w_id (by omega) (by omega)
theorem len_L (hL : H.2.2.2 = L) : am_lenk H 2 = some (L.1 : Int) := by
  unfold am_lenk
  rw [if_pos rfl, hL]
theorem ST_L (st : ST x mo o lo c0 L t H) : H.2.2.2 = L := by
  obtain ⟨N, P, K, T, S, M, m, A, HD, h, n, eH, im, ho, w, hs, hn, hL1, hc1, hc2⟩ := st
  rw [eH]
  exact hL1
theorem ST_c (st : ST x mo o lo c0 L t H) : H.2.1 ≤ lo + 738 + t ∧ H.2.2.1 ≤ c0 + 29889 + 6 * t := by
  obtain ⟨N, P, K, T, S, M, m, A, HD, h, n, eH, im, ho, w, hs, hn, hL1, hc1, hc2⟩ := st
  have h41 := hs.1
  have e1 : H.2.1 = h.2.1 := by rw [eH]; rfl
  have e2 : H.2.2.1 = h.2.2.1 := by rw [eH]; rfl
  omega
theorem lw_loop (g1 : x + 107 ≤ mo) (g2 : mo + 15 ≤ o) (g3 : o < lo) (hL : L.1 ≤ 3584) : ∀ (r t : Nat) (H : am_H) (y5 y6 : am_V), 7 * (t + r) ≤ L.1 → L.1 < 7 * (t + r) + 7 → ST x mo o lo c0 L t H → ∃ H', am_run am_ms 304 23 [am_K 2, am_R x, am_R mo, am_R o, am_I ((7 * t : Nat) : Int), y5, y6] [] H = some (some (am_I 1), H') ∧ H'.2.1 ≤ lo + 738 + 512 ∧ H'.2.2.1 ≤ c0 + 29889 + 3072 := by
  intro r
  induction r with
  | zero =>
    intro t H y5 y6 h1 h2 st
    have hb : Nat.beq 2 1 = false := rfl
    have hl := len_L (ST_L st)
    have hc := ST_c st
    have hlt : ((L.1 : Nat) : Int) - 7 < ((7 * t : Nat) : Int) := by omega
    refine ⟨H, ?_, by omega, by omega⟩
    rw [bk_304_23]
    simp only [hb, hl, w_l7 (show L.1 < 100000 by omega), hlt, bk_304_1945, Option.bind_some, Bool.cond_decide, am_oI_some, am_oV_some, am_oI_ite, am_oV_ite, am_bind_ite, Int.toNat_natCast, Int.toNat_zero, Int.reduceToNat, ite_true, ite_false, not_true_eq_false, not_false_eq_true, decide_true, decide_false, decide_eq_true_eq, Bool.false_eq_true, Nat.add_zero, am_rok1_0, am_rok1_1, cond_true, cond_false, am_w_nat1, true_or, or_true, false_or, or_false, true_and, and_true, false_and, and_false, Int.reduceEq, Int.reduceNeg, Int.reduceLT, Int.reduceLE, or_self, and_self]
  | succ r ih =>
    intro t H y5 y6 h1 h2 st
    have hb : Nat.beq 2 1 = false := rfl
    have hl := len_L (ST_L st)
    have hi7 : 7 * t + 7 ≤ L.1 := by omega
    have hlt : ¬ ((L.1 : Nat) : Int) - 7 < ((7 * t : Nat) : Int) := by omega
    have rk := rk_L (ST_L st) (j := 7 * t) (by omega)
    obtain ⟨z5, z6, H2, e1, st2⟩ := lw_one g1 g2 g3 (by omega) hi7 hL st y5 y6
    obtain ⟨H', e2, b1, b2⟩ := ih (t + 1) H2 z5 z6 (by omega) (by omega) st2
    refine ⟨H', ?_, b1, b2⟩
    rw [show 7 * (t + 1) = 7 * t + 7 by omega] at e2
    rw [bk_304_23]
    simp only [hb, hl, w_l7 (show L.1 < 100000 by omega), hlt, rk, e1, bk_304_1939, w_i7 (show 7 * t < 100000 by omega), e2, Option.bind_some, Bool.cond_decide, am_oI_some, am_oV_some, am_oI_ite, am_oV_ite, am_bind_ite, Int.toNat_natCast, Int.toNat_zero, Int.reduceToNat, ite_true, ite_false, not_true_eq_false, not_false_eq_true, decide_true, decide_false, decide_eq_true_eq, Bool.false_eq_true, Nat.add_zero, am_rok1_0, am_rok1_1, cond_true, cond_false, am_w_nat1, true_or, or_true, false_or, or_false, true_and, and_true, false_and, and_false, Int.reduceEq, Int.reduceNeg, Int.reduceLT, Int.reduceLE, or_self, and_self]
def hp0 (h0 : am_H) : am_H := am_push (mv (h0.2.1 + 107) Dz (grw (grw h0 107 3559) 15 27522)) (am_ar 2 1 (fun _ => 0)) 1
theorem hp0_n (h0 : am_H) : (hp0 h0).2.1 = h0.2.1 + 107 + 15 + 1 := rfl
theorem hp0_k (h0 : am_H) : (hp0 h0).2.2.1 = h0.2.2.1 + 3559 + 27522 + 1 := rfl
theorem hp0_L (h0 : am_H) : (hp0 h0).2.2.2 = h0.2.2.2 := rfl
theorem hp0_im (h0 : am_H) : Im (h0.2.1 + 107) Dz (hp0 h0) := fun j hj => by
  show (if h0.2.1 + 107 + j = h0.2.1 + 107 + 15 then am_ar 2 1 (fun _ => 0) else (mv (h0.2.1 + 107) Dz (grw (grw h0 107 3559) 15 27522)).1 (h0.2.1 + 107 + j)) = _
  rw [if_neg (by omega)]
  exact mv_in hj
theorem hp0_o (h0 : am_H) : (hp0 h0).1 (h0.2.1 + 107 + 15) = am_ar 2 1 (fun _ => 0) := if_pos rfl
theorem wr_0 : WR 0 0 Dz Dz Dz (fun _ => Dz) Dz := by
  refine ⟨⟨⟨Int.le_refl 0, by show (0 : Int) ≤ 240; omega, rfl⟩, fun j hj => absurd hj (by show ¬ (j : Int) < 0; omega)⟩, ⟨⟨Int.le_refl 0, by show (0 : Int) ≤ 4; omega, rfl⟩, fun s hs => absurd hs (by show ¬ (s : Int) < 0; omega)⟩, fun _ _ => rfl, ⟨⟨Int.le_refl 0, by show (0 : Int) ≤ 40; omega⟩, ⟨Int.le_refl 0, by show (0 : Int) ≤ 40; omega, rfl⟩, ⟨Int.le_refl 0, by show (0 : Int) ≤ 39; omega⟩, Or.inr ⟨rfl, by show (0 : Int) ≤ ((0 : Nat) : Int); omega⟩, Or.inl rfl, rfl⟩, Or.inl ⟨rfl, ⟨rfl, rfl, rfl, ⟨Int.le_refl 0, by show (0 : Int) ≤ 60; omega⟩, Int.le_refl 0, by show (0 : Int) ≤ 60; omega⟩, rfl, rfl, rfl⟩⟩
theorem st_0 (h0 : am_H) : ST h0.2.1 (h0.2.1 + 107) (h0.2.1 + 107 + 15) (h0.2.1 + 107 + 15 + 1) (h0.2.2.1 + 31082) h0.2.2.2 0 (zv h0.2.1 Dz Dz Dz Dz Dz 0 (fun _ => 0) (hp0 h0)) :=
  ⟨Dz, Dz, Dz, Dz, Dz, Dz, 0, fun _ => 0, fun _ => Dz, hp0 h0, 0, rfl, hp0_im h0, ⟨fun _ => 0, hp0_o h0⟩, wr_0, ⟨by omega, fun j hj => absurd hj (by omega), fun i j hi => absurd hi (by omega), by rw [hp0_n]; exact Nat.le_refl _⟩, by omega, hp0_L h0, by rw [hp0_n]; omega, by rw [hp0_k]; omega⟩
theorem lw_new (h0 : am_H) : am_run am_ms 304 0 [am_K 2, am_K 1, am_K 1, am_K 1, am_K 1, am_K 1, am_K 1] [] h0 = am_run am_ms 304 23 [am_K 2, am_R h0.2.1, am_R (h0.2.1 + 107), am_R (h0.2.1 + 107 + 15), am_I 0, am_K 1, am_K 1] [] (zv h0.2.1 Dz Dz Dz Dz Dz 0 (fun _ => 0) (hp0 h0)) := by
  have z := i_zone h0 (fun _ => 0)
  have md := i_model (zv h0.2.1 Dz Dz Dz Dz Dz 0 (fun _ => 0) (grw h0 107 3559))
  have e1 : (zv h0.2.1 Dz Dz Dz Dz Dz 0 (fun _ => 0) (grw h0 107 3559)).2.1 = h0.2.1 + 107 := rfl
  rw [e1] at md
  have eg : mv (h0.2.1 + 107) Dz (grw (zv h0.2.1 Dz Dz Dz Dz Dz 0 (fun _ => 0) (grw h0 107 3559)) 15 27522) = zv h0.2.1 Dz Dz Dz Dz Dz 0 (fun _ => 0) (mv (h0.2.1 + 107) Dz (grw (grw h0 107 3559) 15 27522)) := by
    rw [show grw (zv h0.2.1 Dz Dz Dz Dz Dz 0 (fun _ => 0) (grw h0 107 3559)) 15 27522 = zv h0.2.1 Dz Dz Dz Dz Dz 0 (fun _ => 0) (grw (grw h0 107 3559) 15 27522) from rfl]
    exact (zv_mv (Nat.le_refl _)).symm
  rw [eg] at md
  have e2 : (zv h0.2.1 Dz Dz Dz Dz Dz 0 (fun _ => 0) (mv (h0.2.1 + 107) Dz (grw (grw h0 107 3559) 15 27522))).2.1 = h0.2.1 + 107 + 15 := rfl
  have e3 : (mv (h0.2.1 + 107) Dz (grw (grw h0 107 3559) 15 27522)).2.1 = h0.2.1 + 107 + 15 := rfl
  have hp := zv_push (x := h0.2.1) (N := Dz) (P := Dz) (K := Dz) (T := Dz) (S := Dz) (m := 0) (A := fun _ => 0) (h := mv (h0.2.1 + 107) Dz (grw (grw h0 107 3559) 15 27522)) (by rw [e3]; omega) (am_ar 2 1 (fun _ => 0)) 1
  rw [bk_304_0]
  simp only [z, e1, md, e2, Option.bind_some, Int.reduceToNat, hp]
  rw [if_pos ⟨by decide, by decide⟩]
  rfl
theorem dv7 (n : Nat) : 7 * (0 + n / 7) ≤ n ∧ n < 7 * (0 + n / 7) + 7 := by omega
/-- the law's run, as a whole -/
theorem lw_run (h0 : am_H) (hL : h0.2.2.2.1 ≤ 3584) : ∃ H', am_run am_ms 304 0 [am_K 2, am_K 1, am_K 1, am_K 1, am_K 1, am_K 1, am_K 1] [] h0 = some (some (am_I 1), H') ∧ H'.2.1 ≤ h0.2.1 + 107 + 15 + 1 + 738 + 512 ∧ H'.2.2.1 ≤ h0.2.2.1 + 31082 + 29889 + 3072 := by
  rw [lw_new]
  exact lw_loop (Nat.le_refl _) (Nat.le_refl _) (Nat.lt_succ_self _) hL (h0.2.2.2.1 / 7) 0 _ (am_K 1) (am_K 1) (dv7 _).1 (dv7 _).2 (st_0 h0)
end LWZ
