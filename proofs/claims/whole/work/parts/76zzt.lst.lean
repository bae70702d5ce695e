/-! ===== THE LAW: the state between calls ===== -/
def Im (mo : Nat) (M : Nat → Nat → Int) (h : am_H) : Prop := ∀ i, i < 15 → h.1 (mo + i) = mvc mo M i
theorem Im_mv {mo : Nat} {M : Nat → Nat → Int} {h : am_H} (w : Im mo M h) : mv mo M h = h := by
  show (_, _) = (h.1, h.2)
  congr 1
  funext k
  by_cases e : mo ≤ k ∧ k < mo + 15
  · rw [if_pos e]
    have := w (k - mo) (by omega)
    rw [show mo + (k - mo) = k by omega] at this
    exact this.symm
  · rw [if_neg e]
theorem Im_self (mo : Nat) (M : Nat → Nat → Int) (h : am_H) : Im mo M (mv mo M h) := fun i hi => mv_in hi
theorem HS_of {lo m : Nat} {A : Nat → Nat} {HD : Nat → Nat → Nat → Int} {h h' : am_H} (w : HS lo m A HD h) (hc : ∀ q, lo ≤ q → q < h.2.1 → h'.1 q = h.1 q) (hn : h.2.1 ≤ h'.2.1) : HS lo m A HD h' := by
  obtain ⟨w1, w2, w3, w4⟩ := w
  refine ⟨w1, fun j hj => ⟨(w2 j hj).1, Nat.le_trans (w2 j hj).2.1 hn, fun i hi => ?_⟩, w3, Nat.le_trans w4 hn⟩
  have h1 := (w2 j hj).1
  have h2 := (w2 j hj).2.1
  rw [hc _ (by omega) (by omega)]
  exact (w2 j hj).2.2 i hi
def ST (x mo o lo c0 : Nat) (L : Nat × (Nat → Int)) (t : Nat) (H : am_H) : Prop := ∃ (N P K T S M : Nat → Nat → Int) (m : Nat) (A : Nat → Nat) (HD : Nat → Nat → Nat → Int) (h : am_H) (n : Nat), H = zv x N P K T S m A h ∧ Im mo M h ∧ (∃ f, h.1 o = am_ar 2 1 f) ∧ WR n m N K S HD M ∧ HS lo m A HD h ∧ n ≤ 120000 * t ∧ h.2.2.2 = L ∧ h.2.1 ≤ lo + 18 * m + t ∧ h.2.2.1 ≤ c0 + 729 * m + 6 * t
section LST
variable {x mo o lo c0 t : Nat} {L : Nat × (Nat → Int)} {H : am_H}
theorem CL_mono {cy my : Nat} {as : List am_V} {n n' m : Nat} {A : Nat → Nat} {N P K T S M : Nat → Nat → Int} {h g : am_H} (c : CL cy my as x mo lo n m A N P K T S M h g) (hn : n ≤ n') : CL cy my as x mo lo n' m A N P K T S M h g := by
  obtain ⟨v, N', P', K', T', S', M', m', A', h', HD', c1, c2, w, r⟩ := c
  exact ⟨v, N', P', K', T', S', M', m', A', h', HD', c1, c2, WR_mono w hn, r⟩
theorem st_call (g1 : x + 107 ≤ mo) (g2 : mo + 15 ≤ o) (g3 : o < lo) (cy my : Nat) (as : List am_V) (st : ST x mo o lo c0 L t H) (hcl : ∀ (N P K T S M : Nat → Nat → Int) (m : Nat) (A : Nat → Nat) (HD : Nat → Nat → Nat → Int) (h : am_H) (n : Nat) (g : am_H), WR n m N K S HD M → HS lo m A HD h → n ≤ 120000 * t → CL cy my as x mo lo (n + 120000) m A N P K T S M h g) : ∃ v H1 H2, am_cI cy (am_R x :: as) H = some (v, H1) ∧ am_cI my (am_R mo :: as) H1 = some (v, H2) ∧ ST x mo o lo c0 L (t + 1) H2 ∧ am_isc H x 8 = some () ∧ am_isc H1 mo 9 = some () ∧ H.2.2.2 = L ∧ H1.2.2.2 = L := by
  obtain ⟨N, P, K, T, S, M, m, A, HD, h, n, eH, im, ⟨f, ho⟩, w, hs, hn, hL, hc1, hc2⟩ := st
  obtain ⟨v, N1, P1, K1, T1, S1, M1, m1, A1, h1, HD1, c1, _⟩ := hcl N P K T S M m A HD h n h w hs hn
  obtain ⟨v2, N2, P2, K2, T2, S2, M2, m2, A2, h2, HD2, c1', c2, w2, hs2, fr⟩ := hcl N P K T S M m A HD h n (zv x N1 P1 K1 T1 S1 m1 A1 h1) w hs hn
  have c1'' := c1'
  rw [c1] at c1''
  obtain ⟨ev, ez⟩ := Prod.mk.inj (Option.some.inj c1'')
  rw [ez] at c2
  have im2 : Im mo M h2 := fun i hi => (fr.1 (mo + i) (by omega)).trans (im i hi)
  have em : mv mo M (zv x N2 P2 K2 T2 S2 m2 A2 h2) = zv x N2 P2 K2 T2 S2 m2 A2 h2 := by rw [← zv_mv g1, Im_mv im2]
  rw [em] at c2
  obtain ⟨fr1, ⟨fr2, fr3, fr4⟩, fr5⟩ := fr
  refine ⟨v2, zv x N2 P2 K2 T2 S2 m2 A2 h2, mv mo M2 (zv x N2 P2 K2 T2 S2 m2 A2 h2), by rw [eH]; exact c1', c2, ⟨N2, P2, K2, T2, S2, M2, m2, A2, HD2, mv mo M2 h2, n + 120000, (zv_mv g1).symm, Im_self _ _ _, ⟨f, ?_⟩, w2, HS_of hs2 (fun q hq _ => mv_out (by omega)) (Nat.le_refl _), by omega, fr4.trans hL, ?_, ?_⟩, by rw [eH]; exact zv_c0, by rw [← em]; exact mv_c0, by rw [eH]; exact hL, fr4.trans hL⟩
  · rw [mv_out (by omega), fr1 o g3]
    exact ho
  · show h2.2.1 ≤ _
    omega
  · show h2.2.2.1 ≤ _
    omega
theorem rk_L (hL : H.2.2.2 = L) {j : Nat} (hj : j < L.1) : am_rk H 2 0 (j : Int) = some (L.2 j) := by
  unfold am_rk
  rw [if_pos rfl, hL, if_pos ⟨rfl, by omega, by omega⟩, Int.toNat_natCast]
theorem w_ik {i : Nat} (hi : i < 100000) (k : Nat) (hk : k < 10) : am_w ((i : Int) + (k : Int)) = ((i + k : Nat) : Int) := by
  rw [am_w_id (by omega) (by omega)]
  omega
theorem and63 (y : Int32) : 0 ≤ (y &&& Int32.ofInt 63).toInt ∧ (y &&& Int32.ofInt 63).toInt ≤ 63 := by
  have h1 : (y &&& Int32.ofInt 63).toBitVec.toNat ≤ 63 := by
    show (y.toBitVec &&& 63#32).toNat ≤ 63
    rw [BitVec.toNat_and]
    exact Nat.and_le_right
  have h2 : (y &&& Int32.ofInt 63).toInt = ((y &&& Int32.ofInt 63).toBitVec.toNat : Int) := by
    show (y &&& Int32.ofInt 63).toBitVec.toInt = _
    exact BitVec.toInt_eq_toNat_of_lt (by omega)
  omega
end LST
