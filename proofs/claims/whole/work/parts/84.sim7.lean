/-! ===== contracts of the table's methods, and calls of them ===== -/
def am_Pc (D : va_G) (ca : Nat → ClassId) (base : Nat) (KV : Nat → Value) (sc : Nat × (Nat → Int)) (as : List am_V) (h : am_H) : Array Value → State → Prop := fun vs U => vs = (as.map (am_cv base KV)).toArray ∧ am_Rep D ca base KV sc h U.heap ∧ am_Kn D ca U ∧ am_Gv base KV sc U ∧ ∀ v ∈ as, am_wv v
def am_Qc (D : va_G) (ca : Nat → ClassId) (base : Nat) (KV : Nat → Value) (sc : Nat × (Nat → Int)) (v : Option am_V) (h1 : am_H) : Array Value → State → Outcome → State → Prop := fun _ st o t => o = .returned (v.map (am_cv base KV)) ∧ am_Rep D ca base KV sc h1 t.heap ∧ va_F (fun q => base ≤ q) st t ∧ ∀ x, v = some x → am_wv x
def am_wsm (m : am_M) : List Jvm.Cond := .code m.1 m.2.1 m.2.2.1 m.2.2.2.1 :: am_lwg
def am_rm (m : am_M) (h h1 : am_H) : Room := { frames := m.2.2.2.2.1, cells := h1.2.1 - h.2.1, slots := h1.2.2.1 - h.2.2.1, locals := m.2.2.2.2.2.1 }
/-- what the table says of a method's call, proved for a fuel -/
def am_Mt (l : Launch) (D : va_G) (ca : Nat → ClassId) (base : Nat) (KV : Nat → Value) (sc : Nat × (Nat → Int)) (m : am_M) (as : List am_V) (h : am_H) (v : Option am_V) (h1 : am_H) : Prop :=
  Met l m.1 (am_wsm m) (am_rm m h h1) (am_Pc D ca base KV sc as h) (am_Qc D ca base KV sc v h1) (h1.2.1 - h.2.1) (h1.2.2.1 - h.2.2.1) (fun q => base ≤ q)
theorem am_blind {D : va_G} {ca : Nat → ClassId} {base : Nat} {KV : Nat → Value} {sc : Nat × (Nat → Int)} {as : List am_V} {h : am_H} : FrameBlind (am_Pc D ca base KV sc as h) :=
  fun a U g mk q => ⟨q.1, q.2.1, va_K.moved (u := U) (U := U.calling g mk a) (Vm.Alike.refl U.vm) q.2.2.1, q.2.2.2.1.moved (U := U.calling g mk a) (State.WarmedH.refl U) (fun _ _ _ => rfl), q.2.2.2.2⟩
/-- the end of a method -/
def am_Ret (p : Program) (l : Launch) (e : Env) (R : Room) (s : State) (mi : MethodId) (args : Array Value) (below : List Frame) (meth : Method) (c : Code) (Q : State → Prop) (D : va_G) (ca : Nat → ClassId) (base : Nat) (KV : Nat → Value) (n0 s0 : Nat) (sc : Nat × (Nat → Int)) (m : am_M) (v : Option am_V) (h1 : am_H) : Prop :=
  ∀ (H : Heap) (locs : List Loc) (lc : Array Slot) (pc : Nat), am_Rep D ca base KV sc h1 H → va_S (fun q => base ≤ q) s.heap H locs →
    (v = none → decode m.2.1 pc = .ok (.return_, 1) → m.2.2.2.1 = none → W p l e R s mi args below meth c H locs (h1.2.1 - n0) (h1.2.2.1 - s0) Q (F0 mi pc lc [])) ∧
    (∀ (x : Int) (ty : FieldType), v = some (am_I x) → decode m.2.1 pc = .ok (.ireturn, 1) → m.2.2.2.1 = some ty → narrow ty (.int (Int32.ofInt x)) = .int (Int32.ofInt x) → am_i32 x → W p l e R s mi args below meth c H locs (h1.2.1 - n0) (h1.2.2.1 - s0) Q (F0 mi pc lc [.int (Int32.ofInt x)]))
section AMCALL
variable {p : Program} {l : Launch} {e : Env} {R : Room} {s : State} {mi : MethodId} {args : Array Value} {below : List Frame} {meth : Method} {c : Code} {Q : State → Prop} {D : va_G} {ca : Nat → ClassId} {base : Nat} {KV : Nat → Value} {sc : Nat × (Nat → Int)} {n0 s0 : Nat} {m : am_M} {rk : Nat}
variable {pc : Nat} {ls st : List am_V} {h : am_H}
theorem am_call_run {H : Heap} {locs : List Loc} {cells slots mc ms : Nat} {lc : Array Slot} {st0 rest : List Value} {v : Option am_V} {h1 : am_H} {a : Array Value} (hr : va_Run p l e R s mi args below meth c H locs cells slots mc ms (F0 mi pc lc st0) rest (am_Qc D ca base KV sc v h1 a) (fun q => base ≤ q)) (hS : va_S (fun q => base ≤ q) s.heap H locs)
    (kk : ∀ (H1 : Heap) (locs1 : List Loc), am_Rep D ca base KV sc h1 H1 → va_S (fun q => base ≤ q) s.heap H1 locs1 → (∀ x, v = some x → am_wv x) → W p l e R s mi args below meth c H1 locs1 (cells + mc) (slots + ms) Q (F0 mi (pc + 3) lc ((v.map (am_cv base KV)).toList ++ rest))) : W p l e R s mi args below meth c H locs cells slots Q (F0 mi pc lc st0) := by
  intro T hT X
  obtain ⟨v', st₀, t, T', L, h0, X', hL, e1, e2, ⟨hv, hR, ⟨hz, hk⟩, hw⟩, st⟩ := hr T hT X
  cases hv
  rw [h0] at hz hk
  obtain ⟨t2, a1, b1⟩ := kk T'.heap (locs ++ L) (by rw [e1]; exact hR)
    ⟨Nat.le_trans hS.1 (by rw [e1]; exact hz), fun q g1 g2 => by rw [e1, hk q (Nat.lt_of_lt_of_le g1 hS.1) g2]; exact hS.2.1 q g1 g2, fun q hq => by
      rcases List.mem_append.mp hq with z | z
      · exact hS.2.2 q z
      · exact hL q z⟩ hw T' rfl X'
  exact ⟨t2, st t2 a1, b1⟩
theorem am_good_lwg {w : Jvm.Cond} (h : w ∈ am_lwg) : (w.onTables && w.keeps) = true ∨ ∃ ty, w = .arrayClass ty := good_of_word (List.mem_filter.mp h).2
/-- what every call asks -/
theorem am_callB (C : am_Cx p R s mi args meth c D ca base KV sc m) {idx n : Nat} {z : am_M} {q1 : Int} {h1 : am_H} (ho : am_own z) (hk : am_ckm m z rk = true) (ha : (parseMethodDescriptor z.1.desc).map (fun d => d.parameters.length) = some n) (hl : am_W q1 (.methodLink m.1.cls idx z.1)) :
    CallB R s args m.1.cls idx z.1 z.2.1 z.2.2.1 z.2.2.2.1 (am_wsm z) (am_rm z h h1) (h1.2.1 - h.2.1) (h1.2.2.1 - h.2.2.1) n := by
  simp only [am_ckm, Bool.and_eq_true] at hk
  have hfr := Nat.le_of_ble_eq_true hk.1.1
  have hlo := Nat.le_of_ble_eq_true hk.1.2
  have hcode : Cond.code z.1 z.2.1 z.2.2.1 z.2.2.2.1 ∈ am_lwg := List.mem_filter.mpr ⟨am_W_mem ho.2.1, rfl⟩
  refine ⟨rfl, rfl, Nat.le_trans hfr C.2.2.2.2.2.2.2.2.2.2.1, Nat.le_trans hlo C.2.2.2.2.2.2.2.2.2.2.2, pay_in C.2.2.2.2.1 (fun w hw => ?_), List.mem_cons_self, C.2.2.2.2.1 _ hcode, C.word ho.2.2.1 rfl, ⟨ho.2.2.2.1, ho.2.2.2.2⟩, fun sig hs => ?_, C.word hl rfl⟩
  · rcases List.mem_cons.mp hw with rfl | hw
    · exact ⟨hcode, am_good_lwg hcode⟩
    · exact ⟨hw, am_good_lwg hw⟩
  · rw [hs] at ha
    exact (Option.some.inj ha).symm
theorem am_callN (C : am_Cx p R s mi args meth c D ca base KV sc m) {idx n : Nat} {z : am_M} {q1 : Int} {h1 : am_H} {host : String} (ho : am_own z) (hk : am_ckm m z rk = true) (ha : (parseMethodDescriptor z.1.desc).map (fun d => d.parameters.length) = some n) (hl : am_W q1 (.methodLinkNest m.1.cls idx z.1 host)) :
    va_CN R s args m.1.cls idx z.1 host z.2.1 z.2.2.1 z.2.2.2.1 (am_wsm z) (am_rm z h h1) (h1.2.1 - h.2.1) (h1.2.2.1 - h.2.2.1) n := by
  simp only [am_ckm, Bool.and_eq_true] at hk
  have hfr := Nat.le_of_ble_eq_true hk.1.1
  have hlo := Nat.le_of_ble_eq_true hk.1.2
  have hcode : Cond.code z.1 z.2.1 z.2.2.1 z.2.2.2.1 ∈ am_lwg := List.mem_filter.mpr ⟨am_W_mem ho.2.1, rfl⟩
  refine ⟨⟨rfl, rfl, Nat.le_trans hfr C.2.2.2.2.2.2.2.2.2.2.1, Nat.le_trans hlo C.2.2.2.2.2.2.2.2.2.2.2, pay_in C.2.2.2.2.1 (fun w hw => ?_), List.mem_cons_self⟩, C.2.2.2.2.1 _ hcode, C.word ho.2.2.1 rfl, ⟨ho.2.2.2.1, ho.2.2.2.2⟩, fun sig hs => ?_, va_Nw.use rfl (C.2.2.2.2.2.2.1.2.2.1 _ (am_W_mem hl) rfl)⟩
  · rcases List.mem_cons.mp hw with rfl | hw
    · exact ⟨hcode, am_good_lwg hcode⟩
    · exact ⟨hw, am_good_lwg hw⟩
  · rw [hs] at ha
    exact (Option.some.inj ha).symm
theorem am_pre (C : am_Cx p R s mi args meth c D ca base KV sc m) {H : Heap} {locs : List Loc} (hR : am_Rep D ca base KV sc h H) (hS : va_S (fun q => base ≤ q) s.heap H locs) {as : List am_V} (hw : ∀ v ∈ as, am_wv v) : ∀ U : State, U.heap = H → s.WarmedH U.vm → am_Pc D ca base KV sc as h (as.map (am_cv base KV)).toArray U :=
  fun U hU hW => ⟨rfl, by rw [hU]; exact hR, va_K.moved hW.alike C.2.2.2.2.2.1, C.2.2.2.2.2.2.1.moved hW (fun a g1 g2 => by rw [hU]; exact hS.2.1 a g1 g2), hw⟩
theorem am_take_split {st : List am_V} {n : Nat} : (st.take n).reverse.reverse ++ st.drop n = st := by rw [List.reverse_reverse, List.take_append_drop]
/-- a call of any kind, its run given -/
theorem am_s_call (C : am_Cx p R s mi args meth c D ca base KV sc m) {as rest : List am_V} {v : Option am_V} {h1 : am_H} (hg : am_ge h h1) (hn0 : n0 ≤ h.2.1) (hs0 : s0 ≤ h.2.2.1)
    (hrun : ∀ (H : Heap) (locs : List Loc) (lc : Array Slot), am_Rep D ca base KV sc h H → va_S (fun q => base ≤ q) s.heap H locs → lc.size = c.maxLocals → (∀ x ∈ as, am_wv x) → ∃ a, va_Run p l e R s mi args below meth c H locs (h.2.1 - n0) (h.2.2.1 - s0) (h1.2.1 - h.2.1) (h1.2.2.1 - h.2.2.1) (F0 mi pc lc (st.map (am_cv base KV))) (rest.map (am_cv base KV)) (am_Qc D ca base KV sc v h1 a) (fun q => base ≤ q))
    (hst : as.reverse ++ rest = st) (k : am_Wt p l e R s mi args below meth c Q D ca base KV n0 s0 sc (pc + 3) ls (v.toList ++ rest) h1) : am_Wt p l e R s mi args below meth c Q D ca base KV n0 s0 sc pc ls st h :=
  fun wl ws H locs lc hR hS hL => by
    have hwa : ∀ x ∈ as, am_wv x := fun x hx => ws x (by rw [← hst]; exact List.mem_append_left _ (List.mem_reverse.mpr hx))
    have hwr : ∀ x ∈ rest, am_wv x := fun x hx => ws x (by rw [← hst]; exact List.mem_append_right _ hx)
    obtain ⟨a, hr⟩ := hrun H locs lc hR hS hL.1 hwa
    refine am_call_run hr hS (fun H1 locs1 hR1 hS1 hw1 => ?_)
    have kk := k wl (fun x hx => (List.mem_append.mp hx).elim (fun q => hw1 x (Option.mem_toList.mp q)) (hwr x)) H1 locs1 lc hR1 hS1 hL
    rw [show h1.2.1 - n0 = h.2.1 - n0 + (h1.2.1 - h.2.1) by have := hg.1; omega, show h1.2.2.1 - s0 = h.2.2.1 - s0 + (h1.2.2.1 - h.2.2.1) by have := hg.2; omega] at kk
    have e : (v.toList ++ rest).map (am_cv base KV) = (v.map (am_cv base KV)).toList ++ rest.map (am_cv base KV) := by rw [List.map_append]; cases v <;> rfl
    rw [e] at kk
    exact kk
theorem am_roomW {lc : Array Slot} {rest : List am_V} (hKV : ∀ k, KV k = .null ∨ ∃ a, KV k = .ref a) (h : (rest.map am_cat).sum ≤ 8) : 2 * (F0 mi pc lc (st.map (am_cv base KV))).monitorRoom + ((rest.map (am_cv base KV)).map fun v => v.category).sum ≤ 8 := by
  show 2 * 0 + _ ≤ 8
  rw [am_sum_cv hKV]
  omega
end AMCALL
