/-! ===== what is counted only grows ===== -/
def am_ge (h h1 : am_H) : Prop := h.2.1 ≤ h1.2.1 ∧ h.2.2.1 ≤ h1.2.2.1
theorem am_ge.rf (h : am_H) : am_ge h h := ⟨Nat.le_refl _, Nat.le_refl _⟩
theorem am_ge.tr {h h1 h2 : am_H} (a : am_ge h h1) (b : am_ge h1 h2) : am_ge h h2 := ⟨Nat.le_trans a.1 b.1, Nat.le_trans a.2 b.2⟩
theorem am_ge_set (h : am_H) (a : Nat) (c : am_C) : am_ge h (am_set h a c) := am_ge.rf h
theorem am_ge_push (h : am_H) (c : am_C) (k : Nat) : am_ge h (am_push h c k) := ⟨Nat.le_succ _, Nat.le_add_right _ _⟩
theorem am_ge_pf {h h1 : am_H} {a ci k : Nat} {v : am_V} (q : am_pf h a ci k v = some h1) : am_ge h h1 := by
  unfold am_pf at q
  split at q
  · split at q
    · cases q; exact am_ge_set _ _ _
    · cases q
  · cases q
theorem am_ge_wr {h h1 : am_H} {a ty : Nat} {j x : Int} (q : am_wr h a ty j x = some h1) : am_ge h h1 := by
  unfold am_wr at q
  split at q
  · split at q
    · cases q; exact am_ge_set _ _ _
    · cases q
  · cases q
theorem am_ge_wrr {h h1 : am_H} {a b : Nat} {j : Int} (q : am_wrr h a j b = some h1) : am_ge h h1 := by
  unfold am_wrr at q
  split at q
  · split at q
    · split at q
      · cases q; exact am_ge_set _ _ _
      · cases q
    · cases q
  · cases q
theorem am_ge_cpy {h h1 : am_H} {s : am_V} {sp dp k : Int} {d : Nat} (q : am_cpy h s sp d dp k = some h1) : am_ge h h1 := by
  have key : ∀ (f : Nat → Int) (n : Nat), am_cp h f n sp d dp k = some h1 → am_ge h h1 := by
    intro f n q
    unfold am_cp at q
    split at q
    · split at q
      · cases q; exact am_ge_set _ _ _
      · cases q
    · cases q
  unfold am_cpy at q
  split at q
  · split at q
    · split at q
      · exact key _ _ q
      · cases q
    · cases q
  · split at q
    · exact key _ _ q
    · cases q
  · cases q
/-- the heap with which an instruction goes on -/
def am_ah (a : am_A) : am_H := match a with
  | .inl (_, _, _, h) => h
  | .inr (.inl (_, h)) => h
  | .inr (.inr (.inl (_, _, _, _, _, h))) => h
  | .inr (.inr (.inr (_, _, _, _, _, _, h))) => h
set_option maxHeartbeats 4000000 in
theorem am_st_ge {i : Instr} {len : Nat} {hn : List Int} {pc : Nat} {ls st : List am_V} {h : am_H} {a : am_A} (q : am_st i len hn pc ls st h = some a) : am_ge h (am_ah a) := by
  unfold am_st at q
  cases i <;> simp only [am_ex, am_iv, am_cl, am_ldI, am_ldL, am_ldA, am_stI, am_stA, am_b2, am_d2, am_l2, am_e2, am_s2, cond_eq_ite] at q
  all_goals (repeat' (split at q))
  all_goals first | (cases q; done) | (cases q; exact am_ge.rf h) | (cases q; exact am_ge_push _ _ _) | skip
  all_goals (obtain ⟨x, e1, e2⟩ := Option.bind_eq_some_iff.mp q)
  all_goals (repeat' (split at e2))
  all_goals first | (cases e2; done) | (cases e2; exact am_ge.rf h) | (cases e2; exact am_ge_push _ _ _) | (cases e2; exact am_ge_pf e1) | (cases e2; exact am_ge_wr e1) | (cases e2; exact am_ge_wrr e1) | (cases e2; exact am_ge_cpy e1)
theorem am_F_ge : ∀ (n y pc : Nat) (ls st : List am_V) (h : am_H) (r : am_Res), am_F am_ms n y pc ls st h = some r → am_ge h r.2
  | 0, y, pc, ls, st, h, r, q => by cases q
  | n + 1, y, pc, ls, st, h, r, q => by
    rw [am_F_succ] at q
    obtain ⟨row, e1, e2⟩ := Option.bind_eq_some_iff.mp q
    obtain ⟨a, f1, f2⟩ := Option.bind_eq_some_iff.mp e2
    have g := am_st_ge f1
    refine g.tr ?_
    rcases a with ⟨pc, ls, st, h1⟩ | ⟨v, h1⟩ | ⟨b, p, q2, ls, st, h1⟩ | ⟨rk, z, as, pc, ls, st, h1⟩
    · exact am_F_ge n y _ _ _ _ _ f2
    · cases f2; exact am_ge.rf _
    · cases b
      · exact am_F_ge n y _ _ _ _ _ f2
      · exact am_F_ge n y _ _ _ _ _ f2
    · have hV : ∀ (as : List am_V) (h2 : am_H), am_oV (am_en am_ms z as (am_F am_ms n z 0 (am_pad (am_maxL am_ms z) as) [] h1)) = some h2 → am_ge h1 h2 := by
        intro as h2 u
        obtain ⟨x, v1, v2⟩ := Option.bind_eq_some_iff.mp u
        have g2 := am_F_ge n z 0 _ [] h1 x ((am_en_some am_ms).mp v1).2
        split at v2
        · cases v2; exact g2
        · cases v2
      have hI : ∀ (as : List am_V) (h2 : Int × am_H), am_oI (am_en am_ms z as (am_F am_ms n z 0 (am_pad (am_maxL am_ms z) as) [] h1)) = some h2 → am_ge h1 h2.2 := by
        intro as h2 u
        obtain ⟨x, v1, v2⟩ := Option.bind_eq_some_iff.mp u
        have g2 := am_F_ge n z 0 _ [] h1 x ((am_en_some am_ms).mp v1).2
        split at v2
        · cases v2; exact g2
        · cases v2
      match rk, f2 with
      | 0, f2 =>
        obtain ⟨h2, u1, u2⟩ := Option.bind_eq_some_iff.mp f2
        exact (hV _ _ u1).tr (am_F_ge n y _ _ _ _ _ u2)
      | 1, f2 =>
        obtain ⟨h2, u1, u2⟩ := Option.bind_eq_some_iff.mp f2
        exact (hI _ _ u1).tr (am_F_ge n y _ _ _ _ _ u2)
      | 2, f2 =>
        obtain ⟨h2, u1, u2⟩ := Option.bind_eq_some_iff.mp f2
        obtain ⟨o, u3, u4⟩ := Option.bind_eq_some_iff.mp u2
        obtain ⟨h3, u5, u6⟩ := Option.bind_eq_some_iff.mp u4
        exact (hI _ _ u1).tr ((am_ge_wr u5).tr (am_F_ge n y _ _ _ _ _ u6))
      | k + 3, f2 =>
        obtain ⟨h2, u1, u2⟩ := Option.bind_eq_some_iff.mp f2
        exact (hI _ _ u1).tr (am_F_ge n y _ _ _ _ _ u2)
/-! ===== the beginning of a method ===== -/
theorem am_lay_len {base : Nat} {KV : Nat → Value} (hKV : ∀ k, KV k = .null ∨ ∃ a, KV k = .ref a) (as : List am_V) : (lg_sl (as.map (am_cv base KV))).length = (am_lay as).length := by
  induction as with
  | nil => rfl
  | cons v as ih =>
    have hc := am_cat_cv (base := base) hKV v
    rcases v with x | x | x | x
    · show (lg_sl (_ :: _)).length = (am_lay as).length + 1
      rw [← ih]; unfold lg_sl; rw [List.flatMap_cons, List.length_append, hc]; simp [am_cat]; omega
    · show (lg_sl (_ :: _)).length = (am_lay as).length + 1 + 1
      rw [← ih]; unfold lg_sl; rw [List.flatMap_cons, List.length_append, hc]; simp [am_cat]; omega
    · show (lg_sl (_ :: _)).length = (am_lay as).length + 1
      rw [← ih]; unfold lg_sl; rw [List.flatMap_cons, List.length_append, hc]; simp [am_cat]; omega
    · show (lg_sl (_ :: _)).length = (am_lay as).length + 1
      rw [← ih]; unfold lg_sl; rw [List.flatMap_cons, List.length_append, hc]; simp [am_cat]; omega
theorem am_lay_at {base : Nat} {KV : Nat → Value} (hKV : ∀ k, KV k = .null ∨ ∃ a, KV k = .ref a) : ∀ (as : List am_V) (k i : Nat) (v : am_V), (am_lay as)[i]? = some v → v ≠ am_K 1 → (k + i, am_cv base KV v) ∈ lv_args k (as.map (am_cv base KV))
  | [], k, i, v, h, _ => by simp [am_lay] at h
  | u :: as, k, i, v, h, hv => by
    have hc := am_cat_cv (base := base) hKV u
    have one : am_cat u = 1 → am_lay (u :: as) = u :: am_lay as → (k + i, am_cv base KV v) ∈ lv_args k ((u :: as).map (am_cv base KV)) := by
      intro h1 h2
      rw [h2] at h
      cases i with
      | zero => cases h; exact List.mem_cons_self
      | succ i =>
        have := am_lay_at (base := base) hKV as (k + 1) i v h hv
        show _ ∈ (k, _) :: lv_args _ _
        rw [hc, h1, if_neg (by decide)]
        refine List.mem_cons_of_mem _ ?_
        rw [show k + (i + 1) = k + 1 + i by omega]
        exact this
    rcases u with x | x | x | x
    · exact one rfl rfl
    · match i, h with
      | 0, h => cases h; exact List.mem_cons_self
      | 1, h => cases h; exact absurd rfl hv
      | i + 2, h =>
        have := am_lay_at (base := base) hKV as (k + 2) i v h hv
        show _ ∈ (k, _) :: lv_args _ _
        rw [hc, if_pos (show am_cat (Sum.inr (Sum.inl x)) = 2 from rfl)]
        refine List.mem_cons_of_mem _ ?_
        rw [show k + (i + 2) = k + 2 + i by omega]
        exact this
    · exact one rfl rfl
    · exact one rfl rfl
theorem am_entry {base : Nat} {KV : Nat → Value} (hKV : ∀ k, KV k = .null ∨ ∃ a, KV k = .ref a) (as : List am_V) {n : Nat} (hn : (am_lay as).length ≤ n) : am_LR base KV (am_pad n as) ((lg_sl (as.map (am_cv base KV)) ++ List.replicate (n - (lg_sl (as.map (am_cv base KV))).length) Slot.unset).toArray) n := by
  have h := lv_entry (as.map (am_cv base KV)) (n := n) (by rw [am_lay_len hKV]; exact hn)
  refine ⟨h.1, ?_, h.2.1, fun i v hi hv => ?_⟩
  · unfold am_pad
    rw [List.length_append, List.length_replicate]
    omega
  · unfold am_pad at hi
    by_cases hl : i < (am_lay as).length
    · rw [List.getElem?_append_left hl] at hi
      have := am_lay_at (base := base) hKV as 0 i v hi hv
      rw [Nat.zero_add] at this
      exact h.2.2 _ this
    · rw [List.getElem?_append_right (by omega)] at hi
      have := List.eq_of_mem_replicate (List.mem_of_getElem? hi)
      exact absurd this hv
theorem am_lay_wf {as : List am_V} (h : ∀ v ∈ as, am_wv v) : ∀ v ∈ am_lay as, am_wv v := by
  induction as with
  | nil => intro v hv; cases hv
  | cons u as ih =>
    have h2 := ih (fun v hv => h v (List.mem_cons_of_mem _ hv))
    have h1 := h u List.mem_cons_self
    rcases u with x | x | x | x
    · exact List.forall_mem_cons.mpr ⟨h1, h2⟩
    · exact List.forall_mem_cons.mpr ⟨h1, List.forall_mem_cons.mpr ⟨trivial, h2⟩⟩
    · exact List.forall_mem_cons.mpr ⟨h1, h2⟩
    · exact List.forall_mem_cons.mpr ⟨h1, h2⟩
theorem am_pad_wf {as : List am_V} (h : ∀ v ∈ as, am_wv v) (n : Nat) : ∀ v ∈ am_pad n as, am_wv v := by
  intro v hv
  rcases List.mem_append.mp hv with q | q
  · exact am_lay_wf h v q
  · rw [List.eq_of_mem_replicate q]; trivial
