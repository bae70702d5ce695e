/-! ===== the classes' own words ===== -/
theorem uw_0 : am_all (fun k => am_W ((am_p0.getD k 0 : Nat) : Int) (u_lay (am_cl0 0) (am_clT 0) k)) (List.range 1) := And.intro rfl (trivial)
theorem nm_0 : ∀ a, a < 1 → ∀ b, b < 1 → a ≠ b → (am_T0 a).2.1 ≠ (am_T0 b).2.1 := by decide +kernel
theorem ty_0 : ∀ k, k < 1 → parseFieldDescriptor (am_T0 k).2.2.1 = some (am_t0 k) := by decide +kernel
theorem uw_1 : am_all (fun k => am_W ((am_p1.getD k 0 : Nat) : Int) (u_lay (am_cl0 1) (am_clT 1) k)) (List.range 14) := And.intro rfl (And.intro rfl (And.intro rfl (And.intro rfl (And.intro rfl (And.intro rfl (And.intro rfl (And.intro rfl (And.intro rfl (And.intro rfl (And.intro rfl (And.intro rfl (And.intro rfl (And.intro rfl (trivial))))))))))))))
theorem nm_1 : ∀ a, a < 14 → ∀ b, b < 14 → a ≠ b → (am_T1 a).2.1 ≠ (am_T1 b).2.1 := by decide +kernel
theorem ty_1 : ∀ k, k < 14 → parseFieldDescriptor (am_T1 k).2.2.1 = some (am_t1 k) := by decide +kernel
theorem uw_2 : am_all (fun k => am_W ((am_p2.getD k 0 : Nat) : Int) (u_lay (am_cl0 2) (am_clT 2) k)) (List.range 3) := And.intro rfl (And.intro rfl (And.intro rfl (trivial)))
theorem nm_2 : ∀ a, a < 3 → ∀ b, b < 3 → a ≠ b → (am_T2 a).2.1 ≠ (am_T2 b).2.1 := by decide +kernel
theorem ty_2 : ∀ k, k < 3 → parseFieldDescriptor (am_T2 k).2.2.1 = some (am_t2 k) := by decide +kernel
theorem uw_3 : am_all (fun k => am_W ((am_p3.getD k 0 : Nat) : Int) (u_lay (am_cl0 3) (am_clT 3) k)) (List.range 5) := And.intro rfl (And.intro rfl (And.intro rfl (And.intro rfl (And.intro rfl (trivial)))))
theorem nm_3 : ∀ a, a < 5 → ∀ b, b < 5 → a ≠ b → (am_T3 a).2.1 ≠ (am_T3 b).2.1 := by decide +kernel
theorem ty_3 : ∀ k, k < 5 → parseFieldDescriptor (am_T3 k).2.2.1 = some (am_t3 k) := by decide +kernel
theorem uw_4 : am_all (fun k => am_W ((am_p4.getD k 0 : Nat) : Int) (u_lay (am_cl0 4) (am_clT 4) k)) (List.range 10) := And.intro rfl (And.intro rfl (And.intro rfl (And.intro rfl (And.intro rfl (And.intro rfl (And.intro rfl (And.intro rfl (And.intro rfl (And.intro rfl (trivial))))))))))
theorem nm_4 : ∀ a, a < 10 → ∀ b, b < 10 → a ≠ b → (am_T4 a).2.1 ≠ (am_T4 b).2.1 := by decide +kernel
theorem ty_4 : ∀ k, k < 10 → parseFieldDescriptor (am_T4 k).2.2.1 = some (am_t4 k) := by decide +kernel
theorem uw_5 : am_all (fun k => am_W ((am_p5.getD k 0 : Nat) : Int) (u_lay (am_cl0 5) (am_clT 5) k)) (List.range 4) := And.intro rfl (And.intro rfl (And.intro rfl (And.intro rfl (trivial))))
theorem nm_5 : ∀ a, a < 4 → ∀ b, b < 4 → a ≠ b → (am_T5 a).2.1 ≠ (am_T5 b).2.1 := by decide +kernel
theorem ty_5 : ∀ k, k < 4 → parseFieldDescriptor (am_T5 k).2.2.1 = some (am_t5 k) := by decide +kernel
theorem uw_6 : am_all (fun k => am_W ((am_p6.getD k 0 : Nat) : Int) (u_lay (am_cl0 6) (am_clT 6) k)) (List.range 2) := And.intro rfl (And.intro rfl (trivial))
theorem nm_6 : ∀ a, a < 2 → ∀ b, b < 2 → a ≠ b → (am_T6 a).2.1 ≠ (am_T6 b).2.1 := by decide +kernel
theorem ty_6 : ∀ k, k < 2 → parseFieldDescriptor (am_T6 k).2.2.1 = some (am_t6 k) := by decide +kernel
theorem uw_7 : am_all (fun k => am_W ((am_p7.getD k 0 : Nat) : Int) (u_lay (am_cl0 7) (am_clT 7) k)) (List.range 8) := And.intro rfl (And.intro rfl (And.intro rfl (And.intro rfl (And.intro rfl (And.intro rfl (And.intro rfl (And.intro rfl (trivial))))))))
theorem nm_7 : ∀ a, a < 8 → ∀ b, b < 8 → a ≠ b → (am_T7 a).2.1 ≠ (am_T7 b).2.1 := by decide +kernel
theorem ty_7 : ∀ k, k < 8 → parseFieldDescriptor (am_T7 k).2.2.1 = some (am_t7 k) := by decide +kernel
theorem uw_8 : am_all (fun k => am_W ((am_p8.getD k 0 : Nat) : Int) (u_lay (am_cl0 8) (am_clT 8) k)) (List.range 12) := And.intro rfl (And.intro rfl (And.intro rfl (And.intro rfl (And.intro rfl (And.intro rfl (And.intro rfl (And.intro rfl (And.intro rfl (And.intro rfl (And.intro rfl (And.intro rfl (trivial))))))))))))
theorem nm_8 : ∀ a, a < 12 → ∀ b, b < 12 → a ≠ b → (am_T8 a).2.1 ≠ (am_T8 b).2.1 := by decide +kernel
theorem ty_8 : ∀ k, k < 12 → parseFieldDescriptor (am_T8 k).2.2.1 = some (am_t8 k) := by decide +kernel
theorem uw_9 : am_all (fun k => am_W ((am_p9.getD k 0 : Nat) : Int) (u_lay (am_cl0 9) (am_clT 9) k)) (List.range 31) := And.intro rfl (And.intro rfl (And.intro rfl (And.intro rfl (And.intro rfl (And.intro rfl (And.intro rfl (And.intro rfl (And.intro rfl (And.intro rfl (And.intro rfl (And.intro rfl (And.intro rfl (And.intro rfl (And.intro rfl (And.intro rfl (And.intro rfl (And.intro rfl (And.intro rfl (And.intro rfl (And.intro rfl (And.intro rfl (And.intro rfl (And.intro rfl (And.intro rfl (And.intro rfl (And.intro rfl (And.intro rfl (And.intro rfl (And.intro rfl (And.intro rfl (trivial)))))))))))))))))))))))))))))))
theorem nm_9 : ∀ a, a < 31 → ∀ b, b < 31 → a ≠ b → (am_T9 a).2.1 ≠ (am_T9 b).2.1 := by decide +kernel
theorem ty_9 : ∀ k, k < 31 → parseFieldDescriptor (am_T9 k).2.2.1 = some (am_t9 k) := by decide +kernel
theorem am_cl_at {ci : Nat} (hci : ci < 10) : am_cls[ci]? = some (am_cl0 ci, am_clT ci, am_clN ci) := by
  match ci, hci with
  | 0, _ => exact rfl
  | 1, _ => exact rfl
  | 2, _ => exact rfl
  | 3, _ => exact rfl
  | 4, _ => exact rfl
  | 5, _ => exact rfl
  | 6, _ => exact rfl
  | 7, _ => exact rfl
  | 8, _ => exact rfl
  | 9, _ => exact rfl
  | n + 10, h => exact absurd h (by omega)

theorem am_nmok {ci : Nat} (hci : ci < 10) : ∀ a, a < am_clN ci → ∀ b, b < am_clN ci → a ≠ b → (am_clT ci a).2.1 ≠ (am_clT ci b).2.1 := by
  match ci, hci with
  | 0, _ => exact nm_0
  | 1, _ => exact nm_1
  | 2, _ => exact nm_2
  | 3, _ => exact nm_3
  | 4, _ => exact nm_4
  | 5, _ => exact nm_5
  | 6, _ => exact nm_6
  | 7, _ => exact nm_7
  | 8, _ => exact nm_8
  | 9, _ => exact nm_9
  | n + 10, h => exact absurd h (by omega)

theorem am_tyok {ci : Nat} (hci : ci < 10) : ∀ k, k < am_clN ci → parseFieldDescriptor (am_clT ci k).2.2.1 = some (am_ft ci k) := by
  match ci, hci with
  | 0, _ => exact ty_0
  | 1, _ => exact ty_1
  | 2, _ => exact ty_2
  | 3, _ => exact ty_3
  | 4, _ => exact ty_4
  | 5, _ => exact ty_5
  | 6, _ => exact ty_6
  | 7, _ => exact ty_7
  | 8, _ => exact ty_8
  | 9, _ => exact ty_9
  | n + 10, h => exact absurd h (by omega)

theorem am_good_lay (C : String) (T : u_T) (k : Nat) : goodWord (u_lay C T k) = true := by
  unfold u_lay
  split <;> rfl
theorem am_uws_of {C : String} {T : u_T} {N : Nat} {P : Nat → Int} (h : am_all (fun k => am_W (P k) (u_lay C T k)) (List.range N)) : ∀ w ∈ u_ws C T N, w ∈ am_lwg := by
  intro w hw
  obtain ⟨k, hk, rfl⟩ := List.mem_map.mp hw
  exact List.mem_filter.mpr ⟨am_W_mem (am_all_mem h k hk), am_good_lay C T k⟩
theorem am_uws {ci : Nat} (hci : ci < 10) : ∀ w ∈ u_ws (am_cl0 ci) (am_clT ci) (am_clN ci), w ∈ am_lwg := by
  match ci, hci with
  | 0, _ => exact am_uws_of uw_0
  | 1, _ => exact am_uws_of uw_1
  | 2, _ => exact am_uws_of uw_2
  | 3, _ => exact am_uws_of uw_3
  | 4, _ => exact am_uws_of uw_4
  | 5, _ => exact am_uws_of uw_5
  | 6, _ => exact am_uws_of uw_6
  | 7, _ => exact am_uws_of uw_7
  | 8, _ => exact am_uws_of uw_8
  | 9, _ => exact am_uws_of uw_9
  | n + 10, h => exact absurd h (by omega)

def am_okty (t : FieldType) : Bool := match t with
  | .int => true
  | .boolean => true
  | .long => true
  | .object _ => true
  | .array _ => true
  | _ => false
theorem ot_0 : ∀ k, k < 1 → am_okty (am_t0 k) = true := by decide +kernel
theorem ot_1 : ∀ k, k < 14 → am_okty (am_t1 k) = true := by decide +kernel
theorem ot_2 : ∀ k, k < 3 → am_okty (am_t2 k) = true := by decide +kernel
theorem ot_3 : ∀ k, k < 5 → am_okty (am_t3 k) = true := by decide +kernel
theorem ot_4 : ∀ k, k < 10 → am_okty (am_t4 k) = true := by decide +kernel
theorem ot_5 : ∀ k, k < 4 → am_okty (am_t5 k) = true := by decide +kernel
theorem ot_6 : ∀ k, k < 2 → am_okty (am_t6 k) = true := by decide +kernel
theorem ot_7 : ∀ k, k < 8 → am_okty (am_t7 k) = true := by decide +kernel
theorem ot_8 : ∀ k, k < 12 → am_okty (am_t8 k) = true := by decide +kernel
theorem ot_9 : ∀ k, k < 31 → am_okty (am_t9 k) = true := by decide +kernel
theorem am_otok {ci : Nat} (hci : ci < 10) : ∀ k, k < am_clN ci → am_okty (am_ft ci k) = true := by
  match ci, hci with
  | 0, _ => exact ot_0
  | 1, _ => exact ot_1
  | 2, _ => exact ot_2
  | 3, _ => exact ot_3
  | 4, _ => exact ot_4
  | 5, _ => exact ot_5
  | 6, _ => exact ot_6
  | 7, _ => exact ot_7
  | 8, _ => exact ot_8
  | 9, _ => exact ot_9
  | n + 10, h => exact absurd h (by omega)

theorem df_0 : ∀ (base : Nat) (KV : Nat → Value), KV 0 = .null → ∀ j, j < 1 → defaultValue (am_t0 j) = vp_V ((am_dfl 0).map (am_cv base KV)) j := by
  intro base KV h0 j hj
  rcases (show j = 0 by omega) with rfl <;> first | rfl | exact h0.symm
theorem df_1 : ∀ (base : Nat) (KV : Nat → Value), KV 0 = .null → ∀ j, j < 14 → defaultValue (am_t1 j) = vp_V ((am_dfl 1).map (am_cv base KV)) j := by
  intro base KV h0 j hj
  rcases (show j = 0 ∨ j = 1 ∨ j = 2 ∨ j = 3 ∨ j = 4 ∨ j = 5 ∨ j = 6 ∨ j = 7 ∨ j = 8 ∨ j = 9 ∨ j = 10 ∨ j = 11 ∨ j = 12 ∨ j = 13 by omega) with rfl | rfl | rfl | rfl | rfl | rfl | rfl | rfl | rfl | rfl | rfl | rfl | rfl | rfl <;> first | rfl | exact h0.symm
theorem df_2 : ∀ (base : Nat) (KV : Nat → Value), KV 0 = .null → ∀ j, j < 3 → defaultValue (am_t2 j) = vp_V ((am_dfl 2).map (am_cv base KV)) j := by
  intro base KV h0 j hj
  rcases (show j = 0 ∨ j = 1 ∨ j = 2 by omega) with rfl | rfl | rfl <;> first | rfl | exact h0.symm
theorem df_3 : ∀ (base : Nat) (KV : Nat → Value), KV 0 = .null → ∀ j, j < 5 → defaultValue (am_t3 j) = vp_V ((am_dfl 3).map (am_cv base KV)) j := by
  intro base KV h0 j hj
  rcases (show j = 0 ∨ j = 1 ∨ j = 2 ∨ j = 3 ∨ j = 4 by omega) with rfl | rfl | rfl | rfl | rfl <;> first | rfl | exact h0.symm
theorem df_4 : ∀ (base : Nat) (KV : Nat → Value), KV 0 = .null → ∀ j, j < 10 → defaultValue (am_t4 j) = vp_V ((am_dfl 4).map (am_cv base KV)) j := by
  intro base KV h0 j hj
  rcases (show j = 0 ∨ j = 1 ∨ j = 2 ∨ j = 3 ∨ j = 4 ∨ j = 5 ∨ j = 6 ∨ j = 7 ∨ j = 8 ∨ j = 9 by omega) with rfl | rfl | rfl | rfl | rfl | rfl | rfl | rfl | rfl | rfl <;> first | rfl | exact h0.symm
theorem df_5 : ∀ (base : Nat) (KV : Nat → Value), KV 0 = .null → ∀ j, j < 4 → defaultValue (am_t5 j) = vp_V ((am_dfl 5).map (am_cv base KV)) j := by
  intro base KV h0 j hj
  rcases (show j = 0 ∨ j = 1 ∨ j = 2 ∨ j = 3 by omega) with rfl | rfl | rfl | rfl <;> first | rfl | exact h0.symm
theorem df_6 : ∀ (base : Nat) (KV : Nat → Value), KV 0 = .null → ∀ j, j < 2 → defaultValue (am_t6 j) = vp_V ((am_dfl 6).map (am_cv base KV)) j := by
  intro base KV h0 j hj
  rcases (show j = 0 ∨ j = 1 by omega) with rfl | rfl <;> first | rfl | exact h0.symm
theorem df_7 : ∀ (base : Nat) (KV : Nat → Value), KV 0 = .null → ∀ j, j < 8 → defaultValue (am_t7 j) = vp_V ((am_dfl 7).map (am_cv base KV)) j := by
  intro base KV h0 j hj
  rcases (show j = 0 ∨ j = 1 ∨ j = 2 ∨ j = 3 ∨ j = 4 ∨ j = 5 ∨ j = 6 ∨ j = 7 by omega) with rfl | rfl | rfl | rfl | rfl | rfl | rfl | rfl <;> first | rfl | exact h0.symm
theorem df_8 : ∀ (base : Nat) (KV : Nat → Value), KV 0 = .null → ∀ j, j < 12 → defaultValue (am_t8 j) = vp_V ((am_dfl 8).map (am_cv base KV)) j := by
  intro base KV h0 j hj
  rcases (show j = 0 ∨ j = 1 ∨ j = 2 ∨ j = 3 ∨ j = 4 ∨ j = 5 ∨ j = 6 ∨ j = 7 ∨ j = 8 ∨ j = 9 ∨ j = 10 ∨ j = 11 by omega) with rfl | rfl | rfl | rfl | rfl | rfl | rfl | rfl | rfl | rfl | rfl | rfl <;> first | rfl | exact h0.symm
theorem df_9 : ∀ (base : Nat) (KV : Nat → Value), KV 0 = .null → ∀ j, j < 31 → defaultValue (am_t9 j) = vp_V ((am_dfl 9).map (am_cv base KV)) j := by
  intro base KV h0 j hj
  rcases (show j = 0 ∨ j = 1 ∨ j = 2 ∨ j = 3 ∨ j = 4 ∨ j = 5 ∨ j = 6 ∨ j = 7 ∨ j = 8 ∨ j = 9 ∨ j = 10 ∨ j = 11 ∨ j = 12 ∨ j = 13 ∨ j = 14 ∨ j = 15 ∨ j = 16 ∨ j = 17 ∨ j = 18 ∨ j = 19 ∨ j = 20 ∨ j = 21 ∨ j = 22 ∨ j = 23 ∨ j = 24 ∨ j = 25 ∨ j = 26 ∨ j = 27 ∨ j = 28 ∨ j = 29 ∨ j = 30 by omega) with rfl | rfl | rfl | rfl | rfl | rfl | rfl | rfl | rfl | rfl | rfl | rfl | rfl | rfl | rfl | rfl | rfl | rfl | rfl | rfl | rfl | rfl | rfl | rfl | rfl | rfl | rfl | rfl | rfl | rfl | rfl <;> first | rfl | exact h0.symm
theorem am_dfok {ci : Nat} (hci : ci < 10) {base : Nat} {KV : Nat → Value} (h0 : KV 0 = .null) : ∀ j, j < am_clN ci → defaultValue (am_ft ci j) = vp_V ((am_dfl ci).map (am_cv base KV)) j := by
  match ci, hci with
  | 0, _ => exact df_0 base KV h0
  | 1, _ => exact df_1 base KV h0
  | 2, _ => exact df_2 base KV h0
  | 3, _ => exact df_3 base KV h0
  | 4, _ => exact df_4 base KV h0
  | 5, _ => exact df_5 base KV h0
  | 6, _ => exact df_6 base KV h0
  | 7, _ => exact df_7 base KV h0
  | 8, _ => exact df_8 base KV h0
  | 9, _ => exact df_9 base KV h0
  | n + 10, h => exact absurd h (by omega)

theorem am_dfl_len {ci : Nat} (hci : ci < 10) : (am_dfl ci).length = am_clN ci := by
  match ci, hci with
  | 0, _ => exact rfl
  | 1, _ => exact rfl
  | 2, _ => exact rfl
  | 3, _ => exact rfl
  | 4, _ => exact rfl
  | 5, _ => exact rfl
  | 6, _ => exact rfl
  | 7, _ => exact rfl
  | 8, _ => exact rfl
  | 9, _ => exact rfl
  | n + 10, h => exact absurd h (by omega)

def am_okd (v : am_V) : Bool := match v with
  | .inl x => decide (x = 0)
  | .inr (.inl x) => decide (x = 0)
  | .inr (.inr (.inl _)) => false
  | _ => true
theorem am_dfl_okd (ci : Nat) : (am_dfl ci).all am_okd = true := by
  unfold am_dfl
  split <;> rfl
theorem am_dfl_wf (ci : Nat) : ∀ v ∈ am_dfl ci, am_wv v := by
  intro v hv
  have h := List.all_eq_true.mp (am_dfl_okd ci) v hv
  rcases v with x | x | x | x
  · have e : x = 0 := of_decide_eq_true h
    rw [e]; exact am_i32_0
  · have e : x = 0 := of_decide_eq_true h
    rw [e]; exact am_i64_0
  · trivial
  · trivial
theorem am_fits {base : Nat} {KV : Nat → Value} (hKV : ∀ k, KV k = .null ∨ ∃ a, KV k = .ref a) {ty : FieldType} (ht : am_okty ty = true) {v : am_V} (h : am_fit (am_tkf ty) v = true) : narrow ty (am_cv base KV v) = am_cv base KV v ∧ fits ty (am_cv base KV v) = true := by
  cases ty with
  | int =>
    rcases v with x | x | x | x
    · exact ⟨rfl, rfl⟩
    · cases h
    · cases h
    · simp [am_fit, am_tkf] at h
  | boolean =>
    rcases v with x | x | x | x
    · simp only [am_fit, am_tkf, Bool.or_eq_true, decide_eq_true_eq] at h
      rcases h with rfl | rfl
      · exact ⟨rfl, rfl⟩
      · exact ⟨rfl, rfl⟩
    · cases h
    · cases h
    · simp [am_fit, am_tkf] at h
  | long =>
    rcases v with x | x | x | x
    · cases h
    · exact ⟨rfl, rfl⟩
    · cases h
    · simp [am_fit, am_tkf] at h
  | object n =>
    rcases v with x | x | x | x
    · cases h
    · cases h
    · exact ⟨rfl, rfl⟩
    · show narrow _ (KV x) = KV x ∧ fits _ (KV x) = true
      rcases hKV x with q | ⟨a, q⟩ <;> rw [q] <;> exact ⟨rfl, rfl⟩
  | array t =>
    rcases v with x | x | x | x
    · cases h
    · cases h
    · exact ⟨rfl, rfl⟩
    · show narrow _ (KV x) = KV x ∧ fits _ (KV x) = true
      rcases hKV x with q | ⟨a, q⟩ <;> rw [q] <;> exact ⟨rfl, rfl⟩
  | _ => cases ht
section AMSTEP3
variable {p : Program} {l : Launch} {e : Env} {R : Room} {s : State} {mi : MethodId} {args : Array Value} {below : List Frame} {meth : Method} {c : Code} {Q : State → Prop} {D : va_G} {ca : Nat → ClassId} {base : Nat} {KV : Nat → Value} {sc : Nat × (Nat → Int)} {n0 s0 : Nat} {m : am_M}
variable {pc : Nat} {ls st : List am_V} {h : am_H}
theorem am_Rep.ob {H : Heap} (hR : am_Rep D ca base KV sc h H) {a ci : Nat} {fs : List am_V} (hc : h.1 a = am_ob ci fs) : ci < 10 ∧ fs.length = am_clN ci ∧ t_OB (base + a) (D.1 ci) (am_clN ci) (D.2 ci) H (vp_V (fs.map (am_cv base KV))) ∧ ∀ v ∈ fs, am_wv v := by
  have h1 := hR.2.2.2.2 a
  have h2 := hR.2.2.1 a
  rw [hc] at h1 h2
  exact ⟨h1.1, h1.2.1, h1.2.2, h2⟩
theorem am_Rep.ar {H : Heap} (hR : am_Rep D ca base KV sc h H) {a ty n : Nat} {f : Nat → Int} (hc : h.1 a = am_ar ty n f) : ty < 3 ∧ H[base + a]? = some (arrV (ca ty) n (fun j => am_el ty (f j))) ∧ ∀ j, am_wk ty (f j) := by
  have h1 := hR.2.2.2.2 a
  have h2 := hR.2.2.1 a
  rw [hc] at h1 h2
  exact ⟨h1.1, h1.2, h2⟩
theorem am_Rep.ra {H : Heap} (hR : am_Rep D ca base KV sc h H) {a ty n : Nat} {f : Nat → Option Nat} (hc : h.1 a = am_ra ty n f) : (ty = 3 ∨ ty = 4) ∧ H[base + a]? = some (arrV (ca ty) n (fun j => am_er base (f j))) := by
  have h1 := hR.2.2.2.2 a
  rw [hc] at h1
  exact h1
theorem am_Cx.arr (C : am_Cx p R s mi args meth c D ca base KV sc m) {ty : Nat} {t : FieldType} (ht : (am_tys ca)[ty]? = some (ca ty, t)) : ArrOfT s (ca ty) t := (C.2.2.2.2.2.1.2 ty _ ht).1
theorem am_ne_no {c : am_C} {a : Nat} (hc : h.1 a = c) (hn : c ≠ am_no) : h.1 a ≠ am_no := by rw [hc]; exact hn
theorem am_s_getf (C : am_Cx p R s mi args meth c D ca base KV sc m) {idx ci k : Nat} {q : Int} (hd : decode m.2.1 pc = .ok (.getfield idx, 3)) (hk : k < am_clN ci) (hw : am_W q (.fieldLink m.1.cls idx (am_cl0 ci) (am_clT ci k).2.1 (am_clT ci k).2.2.1)) (hT : (am_clT ci k).1 = am_cl0 ci) {a : Nat} {fs : List am_V} {v : am_V} (hc : h.1 a = am_ob ci fs) (hv : fs[k]? = some v) (kk : am_Wt p l e R s mi args below meth c Q D ca base KV n0 s0 sc (pc + 3) ls (v :: st) h) : am_Wt p l e R s mi args below meth c Q D ca base KV n0 s0 sc pc ls (am_R a :: st) h :=
  fun wl ws H locs lc hR hS hL => by
    obtain ⟨hci, hlen, hob, hwf⟩ := hR.ob hc
    have hP : va_P D am_cls [(base + a, .inr (ci, fs.map (am_cv base KV)))] H := by
      intro j x hx
      cases j with
      | zero => cases hx; exact ⟨_, am_cl_at hci, hob⟩
      | succ j => simp at hx
    refine va_get C.1 C.2.1 C.2.2.2.2.1 (am_uws hci) C.2.2.2.1 C.2.2.2.2.2.1 hP 0 rfl (am_cl_at hci) k hk (C.word hw rfl) (fun x hx => by rw [hT] at hx; exact hx) (v := am_cv base KV v) (by rw [List.getElem?_map, hv]; rfl) hd ?_
    exact kk wl (am_w1 ws (hwf v (List.mem_of_getElem? hv))) H locs lc hR hS hL
theorem am_s_putf (C : am_Cx p R s mi args meth c D ca base KV sc m) {idx ci k : Nat} {q : Int} (hd : decode m.2.1 pc = .ok (.putfield idx, 3)) (hk : k < am_clN ci) (hw : am_W q (.fieldLink m.1.cls idx (am_cl0 ci) (am_clT ci k).2.1 (am_clT ci k).2.2.1)) (hT : (am_clT ci k).1 = am_cl0 ci) (hfin : (am_clT ci k).2.2.2 = false ∨ (am_cl0 ci = m.1.cls ∧ m.1.name = "<init>")) {a : Nat} {fs : List am_V} {v : am_V} (hc : h.1 a = am_ob ci fs) (hfit : am_fit (am_tkf (am_ft ci k)) v = true) (kk : am_Wt p l e R s mi args below meth c Q D ca base KV n0 s0 sc (pc + 3) ls st (am_set h a (am_ob ci (fs.set k v)))) : am_Wt p l e R s mi args below meth c Q D ca base KV n0 s0 sc pc ls (v :: am_R a :: st) h :=
  fun wl ws H locs lc hR hS hL => by
    obtain ⟨hci, hlen, ⟨cell, q1, q2, q3, q4⟩, hwf⟩ := hR.ob hc
    have hts := C.2.2.2.2.1
    have hin := am_uws hci
    have hK : va_K D am_cls (am_tys ca) s := C.2.2.2.2.2.1
    have hcl := am_cl_at hci
    have hap := va_apart (own := m.1.cls) hts hin (am_ft ci) (am_tyok hci) (am_nmok hci) hK hcl
    obtain ⟨hSl, hfc, kC, hkC, hkind⟩ := hK.1 ci _ hcl
    obtain ⟨cf, kf, fi, f, hi, hsl⟩ := hSl k hk
    have hlay := hts _ (hin _ (u_in_lay hk))
    unfold u_lay at hlay
    have hst := (u_facts hfc hkC (u_lays hts hin hk) hi).1
    obtain ⟨hn, hft⟩ := am_fits (base := base) C.kv (am_otok hci k hk) hfit
    have hsame : ∀ x, s.fieldFound? (am_clT ci k).1 (am_clT ci k).2.1 (am_clT ci k).2.2.1 = some x → s.fieldFound? (am_cl0 ci) (am_clT ci k).2.1 (am_clT ci k).2.2.1 = some x := fun x hx => by rw [hT] at hx; exact hx
    have ha : a < h.2.1 := hR.lt (am_ne_no hc (fun q => by cases q))
    have go : ∀ H' : Heap, H'[base + a]? = some (cell.setSlot f.slot (am_cv base KV v)) → H'.size = H.size → (∀ q, q ≠ base + a → H'[q]? = H[q]?) → W p l e R s mi args below meth c H' (locs ++ [⟨base + a, f.slot⟩]) (h.2.1 - n0) (h.2.2.1 - s0) Q (F0 mi (pc + 3) lc (st.map (am_cv base KV))) := by
      intro H' e1 e2 e3
      rw [hsl] at e1
      have hob' : t_OB (base + a) (D.1 ci) (am_clN ci) (D.2 ci) H' (vp_V ((fs.set k v).map (am_cv base KV))) := by
        rw [List.map_set]
        exact t_OB.to (V := updV (vp_V (fs.map (am_cv base KV))) k (am_cv base KV v)) ⟨_, e1, q2, q3, t_set q4 hap hk _⟩ (fun j _ => vp_updV_set (by rw [List.length_map]; omega) _ j)
      have hR' : am_Rep D ca base KV sc (am_set h a (am_ob ci (fs.set k v))) H' := hR.set ha (c := am_ob ci (fs.set k v)) (am_wset hwf (am_wh0 ws)) ⟨hci, by rw [List.length_set]; exact hlen, hob'⟩ e2 e3
      exact kk wl (am_wd (am_wd ws)) H' _ lc hR' (hS.put e2 e3 (by omega)) hL
    by_cases hf : (am_clT ci k).2.2.2 = true
    · rw [if_pos hf] at hlay
      obtain ⟨hown1, hini⟩ : am_cl0 ci = m.1.cls ∧ m.1.name = "<init>" := by
        rcases hfin with z | z
        · rw [hf] at z; cases z
        · exact z
      have hcf : mi.cls = cf := by
        obtain ⟨_, _, c', _, _, _, -, -, hf', -, -, -, hown2, -⟩ := Cond.laysFinal_spec hlay
        have e1 : c' = cf := by have := hi.symm.trans hf'; simp at this; exact this.1.symm
        rw [hT, hown1] at hown2
        rw [← e1]; exact Option.some.inj (C.2.2.2.1.symm.trans hown2)
      have h6 := u_fits hfc hkC hkind (Or.inr hlay) hi (am_tyok hci k hk) hn hft
      exact W.putFinK C.1 C.2.1 C.2.2.2.1 (C.word hw rfl) (hsame _ hi) hst hcf (C.2.2.2.2.2.2.2.2.2.1 hini) (by rw [q2]; exact h6) q1 q3 (by rw [hsl]; exact k2_hasslot (q4 k hk)) rfl rfl hd go
    · rw [if_neg hf] at hlay
      have h6 := u_store hfc hkC hkind hlay hi (am_tyok hci k hk) hn hft
      exact W.putK C.1 C.2.1 (f := f) ⟨C.2.2.2.1, C.word hw rfl, ⟨_, _, _, hsame _ hi⟩, hst⟩ (by rw [q2]; exact h6) q1 q3 (by rw [hsl]; exact k2_hasslot (q4 k hk)) rfl rfl hd go
/-- a text's fields -/
theorem am_s_getk (C : am_Cx p R s mi args meth c D ca base KV sc m) {idx k : Nat} {q : Int} {t : Nat} (hd : decode m.2.1 pc = .ok (.getfield idx, 3)) (hw : am_W q (.fieldLink m.1.cls idx "java/lang/String" (am_sf k).1 (am_sf k).2)) (hk : k = 0 ∨ k = 1) (hq : am_istx t = true) (k0 : k = 0 → am_Wt p l e R s mi args below meth c Q D ca base KV n0 s0 sc (pc + 3) ls (am_K (t + 16) :: st) h) (k1 : k = 1 → am_Wt p l e R s mi args below meth c Q D ca base KV n0 s0 sc (pc + 3) ls (am_I 0 :: st) h) : am_Wt p l e R s mi args below meth c Q D ca base KV n0 s0 sc pc ls (am_K t :: st) h :=
  fun wl ws H locs lc hR hS hL => by
    obtain ⟨a, e1, -, -, e4, e5⟩ := C.2.2.2.2.2.2.1.2.2.2.2.2.2.2.2.1 t hq
    show W p l e R s mi args below meth c H locs (h.2.1 - n0) (h.2.2.1 - s0) Q (F0 mi pc lc (KV t :: st.map (am_cv base KV)))
    rw [e1]
    rcases hk with rfl | rfl
    · exact vk_getf C.1 C.2.1 e4 hS C.2.2.2.1 (C.word hw rfl) (fun x hx => hx) hd (k0 rfl wl (am_w1 ws trivial) H locs lc hR hS hL)
    · exact vk_getf C.1 C.2.1 e5 hS C.2.2.2.1 (C.word hw rfl) (fun x hx => hx) hd (k1 rfl wl (am_w1 ws am_i32_0) H locs lc hR hS hL)
theorem am_s_gets (C : am_Cx p R s mi args meth c D ca base KV sc m) {idx t : Nat} {q : Int} (hd : decode m.2.1 pc = .ok (.getstatic idx, 3)) (hw : am_W q (.fieldLink m.1.cls idx (am_sn t).1 (am_sn t).2.1 (am_sn t).2.2)) (ht : t = 40 ∨ 3 ≤ t ∧ t ≤ 7) (k : am_Wt p l e R s mi args below meth c Q D ca base KV n0 s0 sc (pc + 3) ls (am_K t :: st) h) : am_Wt p l e R s mi args below meth c Q D ca base KV n0 s0 sc pc ls st h :=
  fun wl ws H locs lc hR hS hL => va_gets C.1 C.2.1 (C.2.2.2.2.2.2.1.2.2.2.2.2.2.2.2.2.1 t ht) hS C.2.2.2.1 (C.word hw rfl) (fun x hx => hx) hd (k wl (List.forall_mem_cons.mpr ⟨trivial, ws⟩) H locs lc hR hS hL)
theorem am_s_getz (C : am_Cx p R s mi args meth c D ca base KV sc m) {idx : Nat} {q : Int} (hd : decode m.2.1 pc = .ok (.getstatic idx, 3)) (hw : am_W q (.fieldLink m.1.cls idx "java/lang/String" "COMPACT_STRINGS" "Z")) (k : am_Wt p l e R s mi args below meth c Q D ca base KV n0 s0 sc (pc + 3) ls (am_I 1 :: st) h) : am_Wt p l e R s mi args below meth c Q D ca base KV n0 s0 sc pc ls st h :=
  fun wl ws H locs lc hR hS hL => va_gets C.1 C.2.1 C.2.2.2.2.2.2.1.2.2.2.2.2.2.2.2.2.2.1 hS C.2.2.2.1 (C.word hw rfl) (fun x hx => hx) hd (k wl (List.forall_mem_cons.mpr ⟨(⟨by omega, by omega⟩ : am_i32 1), ws⟩) H locs lc hR hS hL)
end AMSTEP3
