/-! ===== THE ABSTRACT MACHINE'S RUNS ARE THE MACHINE'S ===== -/
def am_OK : Prop := ∀ (y : Nat) (m : am_M), am_ms[y]? = some m → am_all (am_lkr m) m.2.2.2.2.2.2.2 ∧ am_dec m = true ∧ m.2.2.2.2.1 ≤ 11 ∧ (m.2.2.2.2.1 < 11 → am_own m)
/-- a row that calls the law's zone stands in the law alone -/
def am_r20 (r : Nat × Instr × Nat × List Int) : Bool := match r.2.1 with
  | .invokestatic _ => Nat.beq (am_n r.2.2.2 0) 20
  | _ => false
theorem am_k20_all : (am_ms.all fun m => (Nat.beq m.2.2.2.2.1 11 && Nat.beq m.2.2.2.2.2.1 271) || m.2.2.2.2.2.2.2.all (fun r => !(am_r20 r))) = true := by decide +kernel
theorem am_k20 {y pc : Nat} {m : am_M} (hy : am_ms[y]? = some m) {idx len : Nat} {hn : List Int} (h : am_code am_ms y pc = some (.invokestatic idx, len, hn)) (h0 : am_n hn 0 = 20) : m.2.2.2.2.1 = 11 ∧ m.2.2.2.2.2.1 = 271 := by
  have h1 := List.all_eq_true.mp am_k20_all m (List.mem_of_getElem? hy)
  rcases Bool.or_eq_true_iff.mp h1 with h2 | h2
  · have h3 := Bool.and_eq_true_iff.mp h2
    exact ⟨Nat.eq_of_beq_eq_true h3.1, Nat.eq_of_beq_eq_true h3.2⟩
  · exfalso
    unfold am_code at h
    rw [hy] at h
    obtain ⟨⟨pc', r'⟩, f1, f2⟩ := Option.map_eq_some_iff.mp (show (List.find? _ _).map _ = some _ from h)
    have h3 := List.all_eq_true.mp h2 _ (List.mem_of_find?_eq_some f1)
    have e : r' = (.invokestatic idx, len, hn) := f2
    subst e
    have h4 : (!(Nat.beq (am_n hn 0) 20)) = true := h3
    rw [h0] at h4
    cases h4
/-- the law's call of the class's zone, which may throw: shown by hand -/
def am_ZL (l : Launch) (D : va_G) (ca : Nat → ClassId) (base : Nat) (KV : Nat → Value) (sc : Nat × (Nat → Int)) : Prop :=
  ∀ (p : Program) (e : Env) (R : Room) (s : State) (mi : MethodId) (args : Array Value) (below : List Frame) (meth : Method) (c : Code) (Q : State → Prop) (n0 s0 : Nat) (m : am_M), am_Cx p R s mi args meth c D ca base KV sc m → 11 ≤ R.frames → 271 ≤ R.locals →
  ∀ (pc : Nat) (ls st : List am_V) (h : am_H) (idx x o : Nat) (q : Int) (z w : Int), decode m.2.1 pc = .ok (.invokestatic idx, 3) → am_W q (.methodLink m.1.cls idx ⟨"ZoneLedgerLaw", "zone", "(LZoneLedger;II[J)I"⟩) → (st.map am_cat).sum ≤ 8 → n0 ≤ h.2.1 → s0 ≤ h.2.2.1 →
    (∀ (mz : am_M) (v : Int) (h1 h2 : am_H), am_ms[305]? = some mz → am_Mt l D ca base KV sc mz [am_R x, am_I z, am_I w] h (some (am_I v)) h1 → am_wr h1 o 2 0 v = some h2 → am_zk h x z w = some true → am_ge h h1 → h2.2.1 - n0 ≤ R.cells → h2.2.2.1 - s0 ≤ R.slots → am_Wt p l e R s mi args below meth c Q D ca base KV n0 s0 sc (pc + 3) ls (am_I 0 :: st) h2 → am_Wt p l e R s mi args below meth c Q D ca base KV n0 s0 sc pc ls (am_R o :: am_I w :: am_I z :: am_R x :: st) h) ∧
    (am_zk h x z w = some false → h.2.1 + 1 - n0 ≤ R.cells → h.2.2.1 + 6 - s0 ≤ R.slots → am_Wt p l e R s mi args below meth c Q D ca base KV n0 s0 sc (pc + 3) ls (am_I 1 :: st) (am_push h am_no 6) → am_Wt p l e R s mi args below meth c Q D ca base KV n0 s0 sc pc ls (am_R o :: am_I w :: am_I z :: am_R x :: st) h)
theorem am_gfI_inv {h : am_H} {a ci k : Nat} {x : Int} (e : am_gfI h a ci k = some x) : ∃ fs, h.1 a = am_ob ci fs ∧ fs[k]? = some (am_I x) := by
  unfold am_gfI at e
  split at e
  · rename_i c fs hc
    split at e
    · rename_i hci
      subst hci
      split at e
      · rename_i y hy
        cases e
        exact ⟨fs, hc, hy⟩
      · cases e
    · cases e
  · cases e
theorem am_gfL_inv {h : am_H} {a ci k : Nat} {x : Int} (e : am_gfL h a ci k = some x) : ∃ fs, h.1 a = am_ob ci fs ∧ fs[k]? = some (am_L x) := by
  unfold am_gfL at e
  split at e
  · rename_i c fs hc
    split at e
    · rename_i hci
      subst hci
      split at e
      · rename_i y hy
        cases e
        exact ⟨fs, hc, hy⟩
      · cases e
    · cases e
  · cases e
theorem am_gfR_inv {h : am_H} {a ci k : Nat} {x : Nat} (e : am_gfR h a ci k = some x) : ∃ fs, h.1 a = am_ob ci fs ∧ fs[k]? = some (am_R x) := by
  unfold am_gfR at e
  split at e
  · rename_i c fs hc
    split at e
    · rename_i hci
      subst hci
      split at e
      · rename_i y hy
        cases e
        exact ⟨fs, hc, hy⟩
      · cases e
    · cases e
  · cases e
theorem am_pf_inv {h h1 : am_H} {a ci k : Nat} {v : am_V} (e : am_pf h a ci k v = some h1) : ∃ fs, h.1 a = am_ob ci fs ∧ h1 = am_set h a (am_ob ci (fs.set k v)) := by
  unfold am_pf at e
  split at e
  · rename_i c fs hc
    split at e
    · rename_i hci
      subst hci
      cases e
      exact ⟨fs, hc, rfl⟩
    · cases e
  · cases e
theorem am_rd_inv {h : am_H} {a ty : Nat} {j x : Int} (e : am_rd h a ty j = some x) : ∃ n f, h.1 a = am_ar ty n f ∧ 0 ≤ j ∧ j < (n : Nat) ∧ x = f j.toNat := by
  unfold am_rd at e
  split at e
  · rename_i t n f hc
    split at e
    · rename_i hh
      obtain ⟨rfl, h1, h2⟩ := hh
      cases e
      exact ⟨n, f, hc, h1, h2, rfl⟩
    · cases e
  · cases e
theorem am_wr_inv {h h1 : am_H} {a ty : Nat} {j x : Int} (e : am_wr h a ty j x = some h1) : ∃ n f, h.1 a = am_ar ty n f ∧ 0 ≤ j ∧ j < (n : Nat) ∧ h1 = am_set h a (am_ar ty n (va_up f j.toNat x)) := by
  unfold am_wr at e
  split at e
  · rename_i t n f hc
    split at e
    · rename_i hh
      obtain ⟨rfl, h1, h2⟩ := hh
      cases e
      exact ⟨n, f, hc, h1, h2, rfl⟩
    · cases e
  · cases e
theorem am_rr_inv {h : am_H} {a : Nat} {j : Int} {r : Option Nat} (e : am_rr h a j = some r) : ∃ ty n f, h.1 a = am_ra ty n f ∧ 0 ≤ j ∧ j < (n : Nat) ∧ r = f j.toNat := by
  unfold am_rr at e
  split at e
  · rename_i t n f hc
    split at e
    · rename_i hh
      cases e
      exact ⟨t, n, f, hc, hh.1, hh.2, rfl⟩
    · cases e
  · cases e
theorem am_wrr_inv {h h1 : am_H} {a b : Nat} {j : Int} (e : am_wrr h a j b = some h1) : ∃ ty n f fs, h.1 a = am_ra ty n f ∧ h.1 b = am_ob (am_ofc ty) fs ∧ 0 ≤ j ∧ j < (n : Nat) ∧ h1 = am_set h a (am_ra ty n (va_up f j.toNat (some b))) := by
  unfold am_wrr at e
  split at e
  · rename_i t n f hc
    split at e
    · rename_i c fs hb
      split at e
      · rename_i hh
        obtain ⟨rfl, h1, h2⟩ := hh
        cases e
        exact ⟨t, n, f, fs, hc, hb, h1, h2, rfl⟩
      · cases e
    · cases e
  · cases e
theorem am_len_inv {h : am_H} {a : Nat} {x : Int} (e : am_len h a = some x) : ∃ n : Nat, x = (n : Int) ∧ n < 1000000 ∧ ((∃ ty f, h.1 a = am_ar ty n f) ∨ ∃ ty f, h.1 a = am_ra ty n f) := by
  unfold am_len at e
  split at e
  · rename_i t n f hc
    split at e
    · rename_i hn
      cases e
      exact ⟨n, rfl, hn, Or.inl ⟨t, f, hc⟩⟩
    · cases e
  · rename_i t n f hc
    split at e
    · rename_i hn
      cases e
      exact ⟨n, rfl, hn, Or.inr ⟨t, f, hc⟩⟩
    · cases e
  · cases e
theorem am_isc_inv {h : am_H} {a ci : Nat} {u : Unit} (e : am_isc h a ci = some u) : ∃ fs, h.1 a = am_ob ci fs := by
  unfold am_isc at e
  split at e
  · rename_i c fs hc
    split at e
    · rename_i hci
      subst hci
      exact ⟨fs, hc⟩
    · cases e
  · cases e
theorem am_cp_inv {h h1 : am_H} {f : Nat → Int} {n d : Nat} {sp dp k : Int} (e : am_cp h f n sp d dp k = some h1) : ∃ m g, h.1 d = am_ar 0 m g ∧ 0 ≤ sp ∧ 0 ≤ dp ∧ 0 ≤ k ∧ sp + k ≤ (n : Nat) ∧ dp + k ≤ (m : Nat) ∧ h1 = am_set h d (am_ar 0 m (va_cpy f g sp.toNat dp.toNat k.toNat)) := by
  unfold am_cp at e
  split at e
  · rename_i t m g hc
    split at e
    · rename_i hh
      obtain ⟨rfl, h1, h2, h3, h4, h5⟩ := hh
      cases e
      exact ⟨m, g, hc, h1, h2, h3, h4, h5, rfl⟩
    · cases e
  · cases e
theorem am_cl_inv {ρ : Type} {Cl : Nat → Nat → List am_V → Nat → List am_V → List am_V → am_H → Option ρ} {rk n z pc : Nat} {ls st : List am_V} {h : am_H} {r : ρ} (e : am_cl Cl rk n z pc ls st h = some r) : n ≤ st.length ∧ ((st.drop n).map am_cat).sum ≤ 8 ∧ Cl rk z (st.take n).reverse (pc + 3) ls (st.drop n) h = some r := by
  unfold am_cl at e
  obtain ⟨e1, e2⟩ := am_bif e
  simp only [Bool.and_eq_true] at e1
  exact ⟨Nat.le_of_ble_eq_true e1.1, Nat.le_of_ble_eq_true e1.2, e2⟩
theorem am_cc_inv {C : Nat → List am_V → am_H → Option am_Res} {K : Nat → List am_V → List am_V → am_H → Option am_Res} {rk z pc : Nat} {as ls st : List am_V} {h : am_H} {r : am_Res} (hrk : rk = 0 ∨ rk = 1) (e : am_cc C K rk z as pc ls st h = some r) : ∃ v h2, C z as h = some (v, h2) ∧ K pc ls (v.toList ++ st) h2 = some r ∧ (rk = 0 → v = none) := by
  rcases hrk with rfl | rfl
  · obtain ⟨h1, e1, e2⟩ := Option.bind_eq_some_iff.mp (show (am_oV (C z as h)).bind _ = some r from e)
    obtain ⟨⟨v, h2⟩, f1, f2⟩ := Option.bind_eq_some_iff.mp e1
    cases v with
    | none => cases f2; exact ⟨none, h2, f1, e2, fun _ => rfl⟩
    | some v => cases f2
  · obtain ⟨⟨x, h1⟩, e1, e2⟩ := Option.bind_eq_some_iff.mp (show (am_oI (C z as h)).bind _ = some r from e)
    obtain ⟨⟨v, h2⟩, f1, f2⟩ := Option.bind_eq_some_iff.mp e1
    cases v with
    | none => cases f2
    | some v =>
      rcases v with y | y | y | y
      · cases f2; exact ⟨some (am_I _), _, f1, e2, fun q => by cases q⟩
      · cases f2
      · cases f2
      · cases f2
theorem am_ckm_rk {m z : am_M} {rk : Nat} (h : am_ckm m z rk = true) : (rk = 0 ∧ z.2.2.2.1 = none) ∨ (rk = 1 ∧ ∃ t, z.2.2.2.1 = some t) := by
  simp only [am_ckm, Bool.and_eq_true] at h
  have h2 := h.2
  cases hz : z.2.2.2.1 with
  | none => rw [hz] at h2; exact Or.inl ⟨Nat.eq_of_beq_eq_true h2, rfl⟩
  | some t => rw [hz] at h2; exact Or.inr ⟨Nat.eq_of_beq_eq_true h2, t, rfl⟩
theorem am_ckm_fr {m z : am_M} {rk : Nat} (h : am_ckm m z rk = true) : z.2.2.2.2.1 + 1 ≤ m.2.2.2.2.1 := by
  simp only [am_ckm, Bool.and_eq_true] at h
  exact Nat.le_of_ble_eq_true h.1.1
theorem am_F_idx {n z pc : Nat} {ls st : List am_V} {h : am_H} {r : am_Res} (e : am_F am_ms n z pc ls st h = some r) : ∃ mz, am_ms[z]? = some mz := by
  cases n with
  | zero => cases e
  | succ n =>
    rw [am_F_succ] at e
    obtain ⟨row, e1, -⟩ := Option.bind_eq_some_iff.mp e
    obtain ⟨mz, e2, -⟩ := Option.bind_eq_some_iff.mp e1
    exact ⟨mz, e2⟩
theorem am_maxL_of {z : Nat} {mz : am_M} (h : am_ms[z]? = some mz) : am_maxL am_ms z = mz.2.2.1 := by
  unfold am_maxL
  rw [h]
  rfl
theorem am_getD_of {z : Nat} {mz d : am_M} (h : am_ms[z]? = some mz) : am_ms.getD z d = mz := by
  rw [List.getD_eq_getElem?_getD, h]
  rfl
theorem am_split_at {st : List am_V} {n : Nat} {w : am_V} (h0 : 0 < n) (h : st[n - 1]? = some w) : (st.take n).reverse = w :: (st.take (n - 1)).reverse ∧ (st.take (n - 1)).reverse.reverse ++ w :: st.drop n = st ∧ (st.take (n - 1)).reverse.length = n - 1 := by
  obtain ⟨k, rfl⟩ : ∃ k, n = k + 1 := ⟨n - 1, by omega⟩
  rw [Nat.add_sub_cancel] at h ⊢
  obtain ⟨hk, hw⟩ := List.getElem?_eq_some_iff.mp h
  refine ⟨?_, ?_, ?_⟩
  · rw [List.take_succ, h]
    simp
  · rw [List.reverse_reverse]
    have e2 : w :: st.drop (k + 1) = st.drop k := by
      rw [List.drop_eq_getElem_cons hk, hw]
    rw [e2, List.take_append_drop]
  · rw [List.length_reverse, List.length_take]
    omega
theorem am_lso {d x : Int} {pc : Nat} (hd : 0 ≤ (pc : Int) + d) : ∀ (ps : List (Int × Int)), (∀ o ∈ ps, 0 ≤ (pc : Int) + o.2) → 0 ≤ (pc : Int) + Op.lookupswitch.offset ps d x
  | [], _ => hd
  | (a, o) :: r, hp => by
    show 0 ≤ (pc : Int) + (if a = x then o else Op.lookupswitch.offset r d x)
    split
    · exact hp (a, o) List.mem_cons_self
    · exact am_lso hd r (fun q hq => hp q (List.mem_cons_of_mem _ hq))
