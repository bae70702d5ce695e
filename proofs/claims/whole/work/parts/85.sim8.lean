/-! ===== calls by their kinds ===== -/
section AMCALL2
variable {p : Program} {l : Launch} {e : Env} {R : Room} {s : State} {mi : MethodId} {args : Array Value} {below : List Frame} {meth : Method} {c : Code} {Q : State → Prop} {D : va_G} {ca : Nat → ClassId} {base : Nat} {KV : Nat → Value} {sc : Nat × (Nat → Int)} {n0 s0 : Nat} {m : am_M} {rk : Nat}
variable {pc : Nat} {ls : List am_V} {h : am_H}
variable {idx n : Nat} {z : am_M} {q1 q2 q3 : Int} {As rest : List am_V} {v : Option am_V} {h1 : am_H}
theorem am_stk {a : Nat} : (As.reverse ++ am_R a :: rest).map (am_cv base KV) = (As.map (am_cv base KV)).reverse ++ .ref (base + a) :: rest.map (am_cv base KV) := by
  rw [List.map_append, List.map_reverse]
  rfl
theorem am_s_callV (C : am_Cx p R s mi args meth c D ca base KV sc m) {ci b : Nat} {fs : List am_V} (hd : decode m.2.1 pc = .ok (.invokevirtual idx, 3)) (ho : am_own z) (hk : am_ckm m z rk = true) (ha : (parseMethodDescriptor z.1.desc).map (fun d => d.parameters.length) = some n) (w1 : am_W q1 (.methodLink m.1.cls idx z.1)) (w2 : am_W q2 (.instanceMethod z.1)) (w3 : am_W q3 (.selects z.1.cls z.1 z.1)) (hcl : z.1.cls = am_cl0 ci) (hb : h.1 b = am_ob ci fs) (hn : As.length = n)
    (hM : am_Mt l D ca base KV sc z (am_R b :: As) h v h1) (hsum : (rest.map am_cat).sum ≤ 8) (hg : am_ge h h1) (hn0 : n0 ≤ h.2.1) (hs0 : s0 ≤ h.2.2.1) (hcells : h1.2.1 - n0 ≤ R.cells) (hslots : h1.2.2.1 - s0 ≤ R.slots) (k : am_Wt p l e R s mi args below meth c Q D ca base KV n0 s0 sc (pc + 3) ls (v.toList ++ rest) h1) : am_Wt p l e R s mi args below meth c Q D ca base KV n0 s0 sc pc ls (As.reverse ++ am_R b :: rest) h := by
  refine am_s_call C (as := am_R b :: As) (rest := rest) hg hn0 hs0 (fun H locs lc hR hS hz hw => ⟨_, va_runV (As := As.map (am_cv base KV)) (rest := rest.map (am_cv base KV)) (b := base + b) ⟨C.1, C.2.1, rfl, C.2.2.2.1, C.2.2.2.2.1⟩ hM ⟨am_callB C ho hk ha w1, C.word w2 rfl, C.word w3 rfl⟩ ⟨am_blind, ?_, am_pre C hR hS (as := am_R b :: As) hw⟩ rfl (by rw [List.length_map]; exact hn) hz am_stk (am_roomW C.kv hsum) hd ⟨?_, ?_⟩⟩) (by simp) k
  · obtain ⟨hci, -, ⟨cell, b1, b2, b3, -⟩, -⟩ := hR.ob hb
    have hK : va_K D am_cls (am_tys ca) s := C.2.2.2.2.2.1
    exact ⟨cell, b1, by rw [b3]; rfl, by rw [b2, hcl]; exact (hK.1 _ _ (am_cl_at hci)).2.1⟩
  · have := hg.1; omega
  · have := hg.2; omega
theorem am_s_callT (C : am_Cx p R s mi args meth c D ca base KV sc m) {b : Nat} (hd : decode m.2.1 pc = .ok (.invokevirtual idx, 3)) (ho : am_own z) (hk : am_ckm m z rk = true) (ha : (parseMethodDescriptor z.1.desc).map (fun d => d.parameters.length) = some n) (w1 : am_W q1 (.methodLink m.1.cls idx z.1)) (w2 : am_W q2 (.instanceMethod z.1)) (w3 : am_W q3 (.selects z.1.cls z.1 z.1)) (hcl : z.1.cls = "java/lang/String") (hb : am_istx b = true) (hn : As.length = n)
    (hM : am_Mt l D ca base KV sc z (am_K b :: As) h v h1) (hsum : (rest.map am_cat).sum ≤ 8) (hg : am_ge h h1) (hn0 : n0 ≤ h.2.1) (hs0 : s0 ≤ h.2.2.1) (hcells : h1.2.1 - n0 ≤ R.cells) (hslots : h1.2.2.1 - s0 ≤ R.slots) (k : am_Wt p l e R s mi args below meth c Q D ca base KV n0 s0 sc (pc + 3) ls (v.toList ++ rest) h1) : am_Wt p l e R s mi args below meth c Q D ca base KV n0 s0 sc pc ls (As.reverse ++ am_K b :: rest) h := by
  obtain ⟨t, e1, -, e3, -⟩ := C.2.2.2.2.2.2.1.2.2.2.2.2.2.2.2.1 b hb
  have est : (As.reverse ++ am_K b :: rest).map (am_cv base KV) = (As.map (am_cv base KV)).reverse ++ .ref t :: rest.map (am_cv base KV) := by
    rw [List.map_append, List.map_reverse]
    show _ ++ KV b :: _ = _
    rw [e1]
  have eas : (am_K b :: As).map (am_cv base KV) = .ref t :: As.map (am_cv base KV) := by
    show KV b :: _ = _
    rw [e1]
  refine am_s_call C (as := am_K b :: As) (rest := rest) hg hn0 hs0 (fun H locs lc hR hS hz hw => ⟨_, va_runV (As := As.map (am_cv base KV)) (rest := rest.map (am_cv base KV)) (b := t) ⟨C.1, C.2.1, rfl, C.2.2.2.1, C.2.2.2.2.1⟩ hM ⟨am_callB C ho hk ha w1, C.word w2 rfl, C.word w3 rfl⟩ ⟨am_blind, ?_, by have := am_pre C hR hS (as := am_K b :: As) hw; rw [eas] at this; exact this⟩ rfl (by rw [List.length_map]; exact hn) hz est (am_roomW C.kv hsum) hd ⟨?_, ?_⟩⟩) (by simp) k
  · obtain ⟨cell, b1, b2, b3, b4⟩ := e3
    exact ⟨cell, by rw [hS.2.1 t (Array.getElem?_eq_some_iff.mp b1).1 b4]; exact b1, b2, by rw [hcl]; exact b3⟩
  · have := hg.1; omega
  · have := hg.2; omega
theorem am_s_callS (C : am_Cx p R s mi args meth c D ca base KV sc m) (hd : decode m.2.1 pc = .ok (.invokestatic idx, 3)) (ho : am_own z) (hk : am_ckm m z rk = true) (ha : (parseMethodDescriptor z.1.desc).map (fun d => d.parameters.length) = some n) (w1 : am_W q1 (.methodLink m.1.cls idx z.1)) (w2 : am_W q2 (.static z.1)) (hn : As.length = n)
    (hM : am_Mt l D ca base KV sc z As h v h1) (hsum : (rest.map am_cat).sum ≤ 8) (hg : am_ge h h1) (hn0 : n0 ≤ h.2.1) (hs0 : s0 ≤ h.2.2.1) (hcells : h1.2.1 - n0 ≤ R.cells) (hslots : h1.2.2.1 - s0 ≤ R.slots) (k : am_Wt p l e R s mi args below meth c Q D ca base KV n0 s0 sc (pc + 3) ls (v.toList ++ rest) h1) : am_Wt p l e R s mi args below meth c Q D ca base KV n0 s0 sc pc ls (As.reverse ++ rest) h := by
  refine am_s_call C (as := As) (rest := rest) hg hn0 hs0 (fun H locs lc hR hS hz hw => ⟨_, va_runS (As := As.map (am_cv base KV)) (rest := rest.map (am_cv base KV)) ⟨C.1, C.2.1, rfl, C.2.2.2.1, C.2.2.2.2.1⟩ hM ⟨am_callB C ho hk ha w1, C.word w2 rfl⟩ ⟨am_blind, am_pre C hR hS (as := As) hw⟩ rfl (by rw [List.length_map]; exact hn) hz (by rw [← List.map_reverse, ← List.map_append]) (am_roomW C.kv hsum) hd ⟨?_, ?_⟩⟩) rfl k
  · have := hg.1; omega
  · have := hg.2; omega
theorem am_s_callSN (C : am_Cx p R s mi args meth c D ca base KV sc m) {host : String} (hd : decode m.2.1 pc = .ok (.invokestatic idx, 3)) (ho : am_own z) (hk : am_ckm m z rk = true) (ha : (parseMethodDescriptor z.1.desc).map (fun d => d.parameters.length) = some n) (w1 : am_W q1 (.methodLinkNest m.1.cls idx z.1 host)) (w2 : am_W q2 (.static z.1)) (hn : As.length = n)
    (hM : am_Mt l D ca base KV sc z As h v h1) (hsum : (rest.map am_cat).sum ≤ 8) (hg : am_ge h h1) (hn0 : n0 ≤ h.2.1) (hs0 : s0 ≤ h.2.2.1) (hcells : h1.2.1 - n0 ≤ R.cells) (hslots : h1.2.2.1 - s0 ≤ R.slots) (k : am_Wt p l e R s mi args below meth c Q D ca base KV n0 s0 sc (pc + 3) ls (v.toList ++ rest) h1) : am_Wt p l e R s mi args below meth c Q D ca base KV n0 s0 sc pc ls (As.reverse ++ rest) h := by
  refine am_s_call C (as := As) (rest := rest) hg hn0 hs0 (fun H locs lc hR hS hz hw => ⟨_, va_runSN (As := As.map (am_cv base KV)) (rest := rest.map (am_cv base KV)) ⟨C.1, C.2.1, rfl, C.2.2.2.1, C.2.2.2.2.1⟩ hM ⟨am_callN C ho hk ha w1, C.word w2 rfl, trivial⟩ ⟨am_blind, am_pre C hR hS (as := As) hw⟩ rfl (by rw [List.length_map]; exact hn) hz (by rw [← List.map_reverse, ← List.map_append]) (am_roomW C.kv hsum) hd ⟨?_, ?_⟩⟩) rfl k
  · have := hg.1; omega
  · have := hg.2; omega
theorem am_s_callI (C : am_Cx p R s mi args meth c D ca base KV sc m) {b : Nat} (hd : decode m.2.1 pc = .ok (.invokespecial idx, 3)) (ho : am_own z) (hk : am_ckm m z rk = true) (hret : z.2.2.2.1 = none) (ha : (parseMethodDescriptor z.1.desc).map (fun d => d.parameters.length) = some n) (w1 : am_W q1 (.methodLink m.1.cls idx z.1)) (w2 : am_W q2 (.instanceMethod z.1)) (hini : z.1.name = "<init>") (hn : As.length = n)
    (hM : am_Mt l D ca base KV sc z (am_R b :: As) h v h1) (hsum : (rest.map am_cat).sum ≤ 8) (hg : am_ge h h1) (hn0 : n0 ≤ h.2.1) (hs0 : s0 ≤ h.2.2.1) (hcells : h1.2.1 - n0 ≤ R.cells) (hslots : h1.2.2.1 - s0 ≤ R.slots) (k : am_Wt p l e R s mi args below meth c Q D ca base KV n0 s0 sc (pc + 3) ls (v.toList ++ rest) h1) : am_Wt p l e R s mi args below meth c Q D ca base KV n0 s0 sc pc ls (As.reverse ++ am_R b :: rest) h := by
  refine am_s_call C (as := am_R b :: As) (rest := rest) hg hn0 hs0 (fun H locs lc hR hS hz hw => ⟨_, va_runI (As := As.map (am_cv base KV)) (rest := rest.map (am_cv base KV)) (b := base + b) ⟨C.1, C.2.1, rfl, C.2.2.2.1, C.2.2.2.2.1⟩ hM ⟨by have cb := am_callB (h := h) (h1 := h1) C ho hk ha w1; rw [hret] at cb; exact cb, hini, C.word w2 rfl⟩ ⟨am_blind, am_pre C hR hS (as := am_R b :: As) hw⟩ rfl (by rw [List.length_map]; exact hn) hz am_stk (am_roomW C.kv hsum) hd ⟨?_, ?_⟩⟩) (by simp) k
  · have := hg.1; omega
  · have := hg.2; omega
theorem am_s_callIN (C : am_Cx p R s mi args meth c D ca base KV sc m) {b : Nat} {host : String} (hd : decode m.2.1 pc = .ok (.invokespecial idx, 3)) (ho : am_own z) (hk : am_ckm m z rk = true) (hret : z.2.2.2.1 = none) (ha : (parseMethodDescriptor z.1.desc).map (fun d => d.parameters.length) = some n) (w1 : am_W q1 (.methodLinkNest m.1.cls idx z.1 host)) (w2 : am_W q2 (.instanceMethod z.1)) (hini : z.1.name = "<init>") (hn : As.length = n)
    (hM : am_Mt l D ca base KV sc z (am_R b :: As) h v h1) (hsum : (rest.map am_cat).sum ≤ 8) (hg : am_ge h h1) (hn0 : n0 ≤ h.2.1) (hs0 : s0 ≤ h.2.2.1) (hcells : h1.2.1 - n0 ≤ R.cells) (hslots : h1.2.2.1 - s0 ≤ R.slots) (k : am_Wt p l e R s mi args below meth c Q D ca base KV n0 s0 sc (pc + 3) ls (v.toList ++ rest) h1) : am_Wt p l e R s mi args below meth c Q D ca base KV n0 s0 sc pc ls (As.reverse ++ am_R b :: rest) h := by
  refine am_s_call C (as := am_R b :: As) (rest := rest) hg hn0 hs0 (fun H locs lc hR hS hz hw => ⟨_, va_runIN (As := As.map (am_cv base KV)) (rest := rest.map (am_cv base KV)) (b := base + b) ⟨C.1, C.2.1, rfl, C.2.2.2.1, C.2.2.2.2.1⟩ hM ⟨by have cb := am_callN (h := h) (h1 := h1) C ho hk ha w1; rw [hret] at cb; exact cb, hini, C.word w2 rfl⟩ ⟨am_blind, am_pre C hR hS (as := am_R b :: As) hw⟩ rfl (by rw [List.length_map]; exact hn) hz am_stk (am_roomW C.kv hsum) hd ⟨?_, ?_⟩⟩) (by simp) k
  · have := hg.1; omega
  · have := hg.2; omega
end AMCALL2
/-! ===== what an instruction's answer says of the stack ===== -/
section AMINV
variable {ρ : Type} {K : Nat → List am_V → List am_V → am_H → Option ρ} {q k : Nat} {ls st : List am_V} {h : am_H} {r : ρ} {f : Int → Int → Int}
theorem am_b2_inv (e : am_b2 K f q ls st h = some r) : ∃ x y st', st = am_I y :: am_I x :: st' ∧ K q ls (am_I (f x y) :: st') h = some r := by
  unfold am_b2 at e
  split at e
  · exact ⟨_, _, _, rfl, e⟩
  · cases e
theorem am_d2_inv (e : am_d2 K f q ls st h = some r) : ∃ x y st', st = am_I y :: am_I x :: st' ∧ ¬ y = 0 ∧ K q ls (am_I (f x y) :: st') h = some r := by
  unfold am_d2 at e
  split at e
  · split at e
    · cases e
    · rename_i h0
      exact ⟨_, _, _, rfl, h0, e⟩
  · cases e
theorem am_l2_inv (e : am_l2 K f q ls st h = some r) : ∃ x y st', st = am_L y :: am_L x :: st' ∧ K q ls (am_L (f x y) :: st') h = some r := by
  unfold am_l2 at e
  split at e
  · exact ⟨_, _, _, rfl, e⟩
  · cases e
theorem am_e2_inv (e : am_e2 K f q ls st h = some r) : ∃ x y st', st = am_L y :: am_L x :: st' ∧ ¬ y = 0 ∧ K q ls (am_L (f x y) :: st') h = some r := by
  unfold am_e2 at e
  split at e
  · split at e
    · cases e
    · rename_i h0
      exact ⟨_, _, _, rfl, h0, e⟩
  · cases e
theorem am_s2_inv (e : am_s2 K f q ls st h = some r) : ∃ x y st', st = am_I y :: am_L x :: st' ∧ K q ls (am_L (f x y) :: st') h = some r := by
  unfold am_s2 at e
  split at e
  · exact ⟨_, _, _, rfl, e⟩
  · cases e
theorem am_ldI_inv (e : am_ldI K q k ls st h = some r) : ∃ x, ls[k]? = some (am_I x) ∧ K q ls (am_I x :: st) h = some r := by
  unfold am_ldI at e
  split at e
  · rename_i x hx
    exact ⟨x, hx, e⟩
  · cases e
theorem am_ldL_inv (e : am_ldL K q k ls st h = some r) : ∃ x, ls[k]? = some (am_L x) ∧ K q ls (am_L x :: st) h = some r := by
  unfold am_ldL at e
  split at e
  · rename_i x hx
    exact ⟨x, hx, e⟩
  · cases e
theorem am_ldA_inv (e : am_ldA K q k ls st h = some r) : (∃ x, ls[k]? = some (am_R x) ∧ K q ls (am_R x :: st) h = some r) ∨ ∃ x, ls[k]? = some (am_K x) ∧ x ≠ 1 ∧ K q ls (am_K x :: st) h = some r := by
  unfold am_ldA at e
  split at e
  · rename_i x hx
    exact Or.inl ⟨x, hx, e⟩
  · rename_i x hx
    cases hb : Nat.beq x 1 with
    | true => rw [hb] at e; cases e
    | false =>
      rw [hb] at e
      exact Or.inr ⟨x, hx, (fun z => by rw [z] at hb; cases hb), e⟩
  · cases e
theorem am_bif {b : Bool} {x : Option ρ} (e : (bif b then x else none) = some r) : b = true ∧ x = some r := by
  cases b
  · cases e
  · exact ⟨rfl, e⟩
theorem am_stI_inv (e : am_stI K q k ls st h = some r) : ∃ x st', st = am_I x :: st' ∧ am_okst ls k = true ∧ K q (ls.set k (am_I x)) st' h = some r := by
  unfold am_stI at e
  split at e
  · obtain ⟨e1, e2⟩ := am_bif e
    exact ⟨_, _, rfl, e1, e2⟩
  · cases e
theorem am_stA_inv (e : am_stA K q k ls st h = some r) : (∃ x st', st = am_R x :: st' ∧ am_okst ls k = true ∧ K q (ls.set k (am_R x)) st' h = some r) ∨ ∃ x st', st = am_K x :: st' ∧ am_okst ls k = true ∧ K q (ls.set k (am_K x)) st' h = some r := by
  unfold am_stA at e
  split at e
  · obtain ⟨e1, e2⟩ := am_bif e
    exact Or.inl ⟨_, _, rfl, e1, e2⟩
  · obtain ⟨e1, e2⟩ := am_bif e
    simp only [Bool.and_eq_true] at e1
    exact Or.inr ⟨_, _, rfl, e1.1.1, e2⟩
  · cases e
end AMINV
