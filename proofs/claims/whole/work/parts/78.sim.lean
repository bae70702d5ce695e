/-! ===== what holds of the machine throughout: tables, constants, and the place of the locals ===== -/
def am_lwg : List Jvm.Cond := lw_tbl.filter goodWord
def am_tys (ca : Nat → ClassId) : List (ClassId × FieldType) := [(ca 0, .int), (ca 1, .byte), (ca 2, .long), (ca 3, .object "ZoneLedger$Script"), (ca 4, .object "ZoneLedger$Drive")]
def am_Kn (D : va_G) (ca : Nat → ClassId) (s : State) : Prop := va_K D am_cls (am_tys ca) s
def am_isN (w : Jvm.Cond) : Bool := match w with
  | .methodLinkNest .. => true
  | .castable .. => true
  | .declares .. => true
  | _ => false
def am_Gv (base : Nat) (KV : Nat → Value) (sc : Nat × (Nat → Int)) (s : State) : Prop :=
  (∀ k, KV k = .null ∨ ∃ a, KV k = .ref a) ∧ KV 0 = .null ∧ (∀ w ∈ lw_tbl, am_isN w = true → va_Nw w s) ∧ va_AO "ZoneLedger$Script" s ∧ va_AO "ZoneLedger$Drive" s ∧
  (sc.1 < 2 ^ 31 ∧ (∀ j, am_i32 (sc.2 j)) ∧ ∃ t, KV 2 = .ref t ∧ va_T .int t sc.1 (fun j => .int (Int32.ofInt (sc.2 j))) (fun q => base ≤ q) s s.heap) ∧
  (∀ q, (am_kar q).1 = 0 → ∃ t, KV q = .ref t ∧ va_T .int t (am_kar q).2.length (fun j => .int (Int32.ofInt ((am_kar q).2.getD j 0))) (fun q => base ≤ q) s s.heap) ∧
  (∀ q, (am_kar q).1 = 1 → ∃ t, KV q = .ref t ∧ va_T .byte t (am_kar q).2.length (fun j => .int (Int32.ofInt ((am_kar q).2.getD j 0))) (fun q => base ≤ q) s s.heap) ∧
  (∀ q, am_istx q = true → ∃ t, KV q = .ref t ∧ (∃ tx, vk_R (am_tn q).1 (am_tn q).2 tx t s) ∧ va_O "java/lang/String" t (fun q => base ≤ q) s s.heap ∧ va_OF "java/lang/String" "value" "[B" (KV (q + 16)) t (fun q => base ≤ q) s s.heap ∧ va_OF "java/lang/String" "coder" "B" (.int 0) t (fun q => base ≤ q) s s.heap) ∧
  (∀ q, (q = 40 ∨ 3 ≤ q ∧ q ≤ 7) → va_Z (am_sn q).1 (am_sn q).2.1 (am_sn q).2.2 (KV q) (fun q => base ≤ q) s s.heap) ∧ va_Z "java/lang/String" "COMPACT_STRINGS" "Z" (.int 1) (fun q => base ≤ q) s s.heap ∧
  vx_Zq Bundle.tN "UNASSIGNED_STACK" Bundle.steD (fun q => base ≤ q) s s.heap ∧ vx_Zq Bundle.tN "SUPPRESSED_SENTINEL" Bundle.listD (fun q => base ≤ q) s s.heap
theorem am_Gv.moved {base : Nat} {KV : Nat → Value} {sc : Nat × (Nat → Int)} {s U : State} (hW : s.WarmedH U.vm) (hq : ∀ a : Nat, a < s.heap.size → ¬ base ≤ a → U.heap[a]? = s.heap[a]?) (h : am_Gv base KV sc s) : am_Gv base KV sc U := by
  obtain ⟨h1, h2, h3, h4, h5, ⟨h6, h6b, t6, h6c, h6d⟩, h7, h8, h9, h10, h11, h12, h13⟩ := h
  have hA := hW.alike
  refine ⟨h1, h2, fun w hw hn => ?_, h4.moved hA, h5.moved hA, ⟨h6, h6b, t6, h6c, (h6d.moved hA).kept hq⟩, fun q h => ?_, fun q h => ?_, fun q h => ?_, fun q h => ((h10 q h).moved hA).kept hq, (h11.moved hA).kept hq, (vx_Zq.moved hA h12).kept hq, (vx_Zq.moved hA h13).kept hq⟩
  · have := h3 w hw hn
    cases w <;> first | exact va_Nw.warmM hW this | exact va_Nw.warmC hW this | exact va_Nw.warmD hW this | cases hn
  · obtain ⟨t, e1, e2⟩ := h7 q h
    exact ⟨t, e1, (e2.moved hA).kept hq⟩
  · obtain ⟨t, e1, e2⟩ := h8 q h
    exact ⟨t, e1, (e2.moved hA).kept hq⟩
  · obtain ⟨t, e1, ⟨tx, e2⟩, e3, e4, e5⟩ := h9 q h
    exact ⟨t, e1, ⟨tx, e2.warm hW⟩, (e3.moved hA).kept hq, (e4.moved hA).kept hq, (e5.moved hA).kept hq⟩
/-- the locals -/
def am_LR (base : Nat) (KV : Nat → Value) (ls : List am_V) (lc : Array Slot) (n : Nat) : Prop := lc.size = n ∧ ls.length = n ∧ lv_wf lc ∧ ∀ (i : Nat) (v : am_V), ls[i]? = some v → v ≠ am_K 1 → lc[i]? = some (.val (am_cv base KV v))
def am_lvs (base : Nat) (KV : Nat → Value) (ls : List am_V) : List (Nat × Value) := (List.range ls.length).filterMap fun i => (ls[i]?).bind fun v => if v = am_K 1 then none else some (i, am_cv base KV v)
theorem am_lvs_mem {base : Nat} {KV : Nat → Value} {ls : List am_V} {q : Nat × Value} : q ∈ am_lvs base KV ls ↔ ∃ v, ls[q.1]? = some v ∧ v ≠ am_K 1 ∧ q.2 = am_cv base KV v := by
  unfold am_lvs
  rw [List.mem_filterMap]
  constructor
  · rintro ⟨i, hi, h⟩
    obtain ⟨v, h1, h2⟩ := Option.bind_eq_some_iff.mp h
    split at h2
    · cases h2
    · rename_i hne
      cases h2
      exact ⟨v, h1, hne, rfl⟩
  · rintro ⟨v, h1, h2, h3⟩
    refine ⟨q.1, List.mem_range.mpr (List.getElem?_eq_some_iff.mp h1).1, Option.bind_eq_some_iff.mpr ⟨v, h1, ?_⟩⟩
    rw [if_neg h2, ← h3]
theorem am_LR.has {base : Nat} {KV : Nat → Value} {ls : List am_V} {lc : Array Slot} {n : Nat} (h : am_LR base KV ls lc n) : lv_has lc n (am_lvs base KV ls) := by
  refine ⟨h.1, h.2.2.1, fun q hq => ?_⟩
  obtain ⟨v, h1, h2, h3⟩ := am_lvs_mem.mp hq
  rw [h3]
  exact h.2.2.2 _ v h1 h2
theorem am_LR.st1 {base : Nat} {KV : Nat → Value} {ls : List am_V} {lc lc' : Array Slot} {n i : Nat} {v : am_V} (hKV : ∀ k, KV k = .null ∨ ∃ a, KV k = .ref a) (h : am_LR base KV ls lc n) (hok : am_okst ls i = true)
    (h' : lv_has lc' n ((i, am_cv base KV v) :: (am_lvs base KV ls).filter (fun q => !(q.1 == i) && !(q.1 + 1 == i && q.2.category == 2)))) : am_LR base KV (ls.set i v) lc' n := by
  obtain ⟨h1, h2, h3⟩ := h'
  refine ⟨h1, by rw [List.length_set]; exact h.2.1, h2, fun j w hj hw => ?_⟩
  have hlt : i < ls.length := by
    simp only [am_okst, Bool.and_eq_true] at hok
    exact Nat.blt_eq.mp hok.1
  by_cases e : j = i
  · subst e
    rw [List.getElem?_set_self hlt] at hj
    cases hj
    exact h3 (j, am_cv base KV v) List.mem_cons_self
  · rw [List.getElem?_set_ne (Ne.symm e)] at hj
    refine h3 (j, am_cv base KV w) (List.mem_cons_of_mem _ (List.mem_filter.mpr ⟨am_lvs_mem.mpr ⟨w, hj, hw, rfl⟩, ?_⟩))
    simp only [Bool.and_eq_true, Bool.not_eq_true', beq_eq_false_iff_ne, ne_eq, Bool.and_eq_false_iff]
    refine ⟨e, ?_⟩
    by_cases e2 : j + 1 = i
    · right
      subst e2
      simp only [am_okst, Bool.and_eq_true] at hok
      have h4 := hok.2
      rw [hj] at h4
      rcases w with x | x | x | x
      · simp [am_cv, Value.category]
      · simp at h4
      · simp [am_cv, Value.category]
      · rcases hKV x with q | ⟨a, q⟩
        · simp [am_cv, q, Value.category]
        · simp [am_cv, q, Value.category]
    · left; exact e2
theorem am_LR.get {base : Nat} {KV : Nat → Value} {ls : List am_V} {lc : Array Slot} {n i : Nat} {v : am_V} (h : am_LR base KV ls lc n) (hi : ls[i]? = some v) (hv : v ≠ am_K 1) : lc[i]? = some (.val (am_cv base KV v)) := h.2.2.2 i v hi hv
/-- from here the machine goes on to its end -/
def am_Wt (p : Program) (l : Launch) (e : Env) (R : Room) (s : State) (mi : MethodId) (args : Array Value) (below : List Frame) (meth : Method) (c : Code) (Q : State → Prop) (D : va_G) (ca : Nat → ClassId) (base : Nat) (KV : Nat → Value) (n0 s0 : Nat) (sc : Nat × (Nat → Int)) (pc : Nat) (ls st : List am_V) (h : am_H) : Prop :=
  (∀ v ∈ ls, am_wv v) → (∀ v ∈ st, am_wv v) → ∀ (H : Heap) (locs : List Loc) (lc : Array Slot), am_Rep D ca base KV sc h H → va_S (fun q => base ≤ q) s.heap H locs → am_LR base KV ls lc c.maxLocals → W p l e R s mi args below meth c H locs (h.2.1 - n0) (h.2.2.1 - s0) Q (F0 mi pc lc (st.map (am_cv base KV)))
def am_Cx (p : Program) (R : Room) (s : State) (mi : MethodId) (args : Array Value) (meth : Method) (c : Code) (D : va_G) (ca : Nat → ClassId) (base : Nat) (KV : Nat → Value) (sc : Nat × (Nat → Int)) (m : am_M) : Prop :=
  p.tables.exec = Jvm.exec ∧ c.code = m.2.1 ∧ c.maxLocals = m.2.2.1 ∧ s.vm.findClass m.1.cls = some mi.cls ∧ (∀ w ∈ am_lwg, w.before args s = true) ∧ am_Kn D ca s ∧ am_Gv base KV sc s ∧ meth.sig.returnType = m.2.2.2.1 ∧ meth.locks = false ∧ (m.1.name = "<init>" → meth.name = "<init>") ∧ m.2.2.2.2.1 ≤ R.frames ∧ m.2.2.2.2.2.1 ≤ R.locals
section AMSTEP
variable {p : Program} {l : Launch} {e : Env} {R : Room} {s : State} {mi : MethodId} {args : Array Value} {below : List Frame} {meth : Method} {c : Code} {Q : State → Prop} {D : va_G} {ca : Nat → ClassId} {base : Nat} {KV : Nat → Value} {sc : Nat × (Nat → Int)} {n0 s0 : Nat} {m : am_M}
variable {pc : Nat} {ls st : List am_V} {h : am_H}
theorem am_Cx.word (C : am_Cx p R s mi args meth c D ca base KV sc m) {q : Int} {w : Jvm.Cond} (h : am_W q w) (hg : goodWord w = true) : w.before args s = true := C.2.2.2.2.1 w (List.mem_filter.mpr ⟨am_W_mem h, hg⟩)
theorem am_Cx.kv (C : am_Cx p R s mi args meth c D ca base KV sc m) : ∀ k, KV k = .null ∨ ∃ a, KV k = .ref a := C.2.2.2.2.2.2.1.1
/-! constants -/
theorem am_s_iconst (C : am_Cx p R s mi args meth c D ca base KV sc m) {n : Int} (hd : decode m.2.1 pc = .ok (.iconst n, 1)) (hn : am_i32 n) (k : am_Wt p l e R s mi args below meth c Q D ca base KV n0 s0 sc (pc + 1) ls (am_I n :: st) h) : am_Wt p l e R s mi args below meth c Q D ca base KV n0 s0 sc pc ls st h :=
  fun wl ws H locs lc hR hS hL => lv_iconst C.1 C.2.1 hd rfl (k wl (List.forall_mem_cons.mpr ⟨hn, ws⟩) H locs lc hR hS hL)
theorem am_s_bipush (C : am_Cx p R s mi args meth c D ca base KV sc m) {n : Int} (hd : decode m.2.1 pc = .ok (.bipush n, 2)) (h1 : -128 ≤ n) (h2 : n ≤ 127) (k : am_Wt p l e R s mi args below meth c Q D ca base KV n0 s0 sc (pc + 2) ls (am_I n :: st) h) : am_Wt p l e R s mi args below meth c Q D ca base KV n0 s0 sc pc ls st h :=
  fun wl ws H locs lc hR hS hL => lv_bipush C.1 C.2.1 hd (by
    apply Int32.toInt_inj.mp
    rw [Int8.toInt_toInt32, Int8.toInt_ofInt_of_le (by omega) (by omega), am_toInt ⟨by omega, by omega⟩]) (k wl (List.forall_mem_cons.mpr ⟨(⟨by omega, by omega⟩ : am_i32 n), ws⟩) H locs lc hR hS hL)
theorem am_s_sipush (C : am_Cx p R s mi args meth c D ca base KV sc m) {n : Int} (hd : decode m.2.1 pc = .ok (.sipush n, 3)) (h1 : -32768 ≤ n) (h2 : n ≤ 32767) (k : am_Wt p l e R s mi args below meth c Q D ca base KV n0 s0 sc (pc + 3) ls (am_I n :: st) h) : am_Wt p l e R s mi args below meth c Q D ca base KV n0 s0 sc pc ls st h :=
  fun wl ws H locs lc hR hS hL => lv_sipush C.1 C.2.1 hd (by
    apply Int32.toInt_inj.mp
    rw [Int16.toInt_toInt32, Int16.toInt_ofInt_of_le (by omega) (by omega), am_toInt ⟨by omega, by omega⟩]) (k wl (List.forall_mem_cons.mpr ⟨(⟨by omega, by omega⟩ : am_i32 n), ws⟩) H locs lc hR hS hL)
theorem am_s_lconst (C : am_Cx p R s mi args meth c D ca base KV sc m) {n : Fin 2} (hd : decode m.2.1 pc = .ok (.lconst n, 1)) (k : am_Wt p l e R s mi args below meth c Q D ca base KV n0 s0 sc (pc + 1) ls (am_L (n : Nat) :: st) h) : am_Wt p l e R s mi args below meth c Q D ca base KV n0 s0 sc pc ls st h :=
  fun wl ws H locs lc hR hS hL => lv_lconst C.1 C.2.1 hd (v := Int64.ofInt ((n : Nat) : Int)) (by rfl) (k wl (List.forall_mem_cons.mpr ⟨(⟨by omega, by have := n.2; omega⟩ : am_i64 ((n : Nat) : Int)), ws⟩) H locs lc hR hS hL)
theorem am_s_ldc (C : am_Cx p R s mi args meth c D ca base KV sc m) {idx : Nat} {v : Int} {q : Int} (hd : decode m.2.1 pc = .ok (.ldc idx, 2)) (hw : am_W q (.constant m.1.cls idx (Int32.ofInt v))) (hv : (Int32.ofInt v).toInt = v) (k : am_Wt p l e R s mi args below meth c Q D ca base KV n0 s0 sc (pc + 2) ls (am_I v :: st) h) : am_Wt p l e R s mi args below meth c Q D ca base KV n0 s0 sc pc ls st h :=
  fun wl ws H locs lc hR hS hL => lv_ldc C.1 C.2.1 C.2.2.2.1 (C.word hw rfl) hd (k wl (List.forall_mem_cons.mpr ⟨(by have := am_i32_toInt (Int32.ofInt v); rw [hv] at this; exact this : am_i32 v), ws⟩) H locs lc hR hS hL)
theorem am_s_ldcw (C : am_Cx p R s mi args meth c D ca base KV sc m) {idx : Nat} {v : Int} {q : Int} (hd : decode m.2.1 pc = .ok (.ldc_w idx, 3)) (hw : am_W q (.constant m.1.cls idx (Int32.ofInt v))) (hv : (Int32.ofInt v).toInt = v) (k : am_Wt p l e R s mi args below meth c Q D ca base KV n0 s0 sc (pc + 3) ls (am_I v :: st) h) : am_Wt p l e R s mi args below meth c Q D ca base KV n0 s0 sc pc ls st h :=
  fun wl ws H locs lc hR hS hL => lv_ldcw C.1 C.2.1 C.2.2.2.1 (C.word hw rfl) hd (k wl (List.forall_mem_cons.mpr ⟨(by have := am_i32_toInt (Int32.ofInt v); rw [hv] at this; exact this : am_i32 v), ws⟩) H locs lc hR hS hL)
theorem am_s_ldc2 (C : am_Cx p R s mi args meth c D ca base KV sc m) {idx : Nat} {v : Int} {q : Int} (hd : decode m.2.1 pc = .ok (.ldc2_w idx, 3)) (hw : am_W q (.constantLong m.1.cls idx (Int64.ofInt v))) (hv : (Int64.ofInt v).toInt = v) (k : am_Wt p l e R s mi args below meth c Q D ca base KV n0 s0 sc (pc + 3) ls (am_L v :: st) h) : am_Wt p l e R s mi args below meth c Q D ca base KV n0 s0 sc pc ls st h :=
  fun wl ws H locs lc hR hS hL => lv_ldc2 C.1 C.2.1 C.2.2.2.1 (C.word hw rfl) hd (k wl (List.forall_mem_cons.mpr ⟨(by have := am_i64_toInt (Int64.ofInt v); rw [hv] at this; exact this : am_i64 v), ws⟩) H locs lc hR hS hL)
theorem am_s_ldcs (C : am_Cx p R s mi args meth c D ca base KV sc m) {idx q : Nat} (hd : decode m.2.1 pc = .ok (.ldc idx, 2)) (hq : am_istx q = true) (hw : am_tn q = (m.1.cls, idx)) (k : am_Wt p l e R s mi args below meth c Q D ca base KV n0 s0 sc (pc + 2) ls (am_K q :: st) h) : am_Wt p l e R s mi args below meth c Q D ca base KV n0 s0 sc pc ls st h :=
  fun wl ws H locs lc hR hS hL => by
    obtain ⟨t, e1, ⟨tx, e2⟩, -⟩ := C.2.2.2.2.2.2.1.2.2.2.2.2.2.2.2.1 q hq
    rw [hw] at e2
    have kk := k wl (List.forall_mem_cons.mpr ⟨trivial, ws⟩) H locs lc hR hS hL
    refine va_ldcS C.1 C.2.1 C.2.2.2.1 e2 hd ?_
    rw [show (am_K q :: st).map (am_cv base KV) = .ref t :: st.map (am_cv base KV) from by show KV q :: _ = _; rw [e1]] at kk
    exact kk
/-! loads and stores -/
theorem am_s_iload_n (C : am_Cx p R s mi args meth c D ca base KV sc m) {k : Fin 4} {x : Int} (hd : decode m.2.1 pc = .ok (.iload_n k, 1)) (hx : ls[(k : Nat)]? = some (am_I x)) (kk : am_Wt p l e R s mi args below meth c Q D ca base KV n0 s0 sc (pc + 1) ls (am_I x :: st) h) : am_Wt p l e R s mi args below meth c Q D ca base KV n0 s0 sc pc ls st h :=
  fun wl ws H locs lc hR hS hL => lv_iload_n C.1 C.2.1 hd rfl (hL.get hx (fun e => by cases e)) (kk wl (List.forall_mem_cons.mpr ⟨wl _ (List.mem_of_getElem? hx), ws⟩) H locs lc hR hS hL)
theorem am_s_iload (C : am_Cx p R s mi args meth c D ca base KV sc m) {k : Nat} {x : Int} (hd : decode m.2.1 pc = .ok (.iload k, 2)) (hx : ls[k]? = some (am_I x)) (kk : am_Wt p l e R s mi args below meth c Q D ca base KV n0 s0 sc (pc + 2) ls (am_I x :: st) h) : am_Wt p l e R s mi args below meth c Q D ca base KV n0 s0 sc pc ls st h :=
  fun wl ws H locs lc hR hS hL => lv_iload C.1 C.2.1 hd (hL.get hx (fun e => by cases e)) (kk wl (List.forall_mem_cons.mpr ⟨wl _ (List.mem_of_getElem? hx), ws⟩) H locs lc hR hS hL)
theorem am_s_lload_n (C : am_Cx p R s mi args meth c D ca base KV sc m) {k : Fin 4} {x : Int} (hd : decode m.2.1 pc = .ok (.lload_n k, 1)) (hx : ls[(k : Nat)]? = some (am_L x)) (kk : am_Wt p l e R s mi args below meth c Q D ca base KV n0 s0 sc (pc + 1) ls (am_L x :: st) h) : am_Wt p l e R s mi args below meth c Q D ca base KV n0 s0 sc pc ls st h :=
  fun wl ws H locs lc hR hS hL => lv_lload_n C.1 C.2.1 hd rfl (hL.get hx (fun e => by cases e)) (kk wl (List.forall_mem_cons.mpr ⟨wl _ (List.mem_of_getElem? hx), ws⟩) H locs lc hR hS hL)
theorem am_s_lload (C : am_Cx p R s mi args meth c D ca base KV sc m) {k : Nat} {x : Int} (hd : decode m.2.1 pc = .ok (.lload k, 2)) (hx : ls[k]? = some (am_L x)) (kk : am_Wt p l e R s mi args below meth c Q D ca base KV n0 s0 sc (pc + 2) ls (am_L x :: st) h) : am_Wt p l e R s mi args below meth c Q D ca base KV n0 s0 sc pc ls st h :=
  fun wl ws H locs lc hR hS hL => lv_lload C.1 C.2.1 hd (hL.get hx (fun e => by cases e)) (kk wl (List.forall_mem_cons.mpr ⟨wl _ (List.mem_of_getElem? hx), ws⟩) H locs lc hR hS hL)
theorem am_s_aload_n (C : am_Cx p R s mi args meth c D ca base KV sc m) {k : Fin 4} {x : Nat} (hd : decode m.2.1 pc = .ok (.aload_n k, 1)) (hx : ls[(k : Nat)]? = some (am_R x)) (kk : am_Wt p l e R s mi args below meth c Q D ca base KV n0 s0 sc (pc + 1) ls (am_R x :: st) h) : am_Wt p l e R s mi args below meth c Q D ca base KV n0 s0 sc pc ls st h :=
  fun wl ws H locs lc hR hS hL => lv_aload_n C.1 C.2.1 hd rfl (hL.get hx (fun e => by cases e)) (kk wl (List.forall_mem_cons.mpr ⟨trivial, ws⟩) H locs lc hR hS hL)
theorem am_s_aload (C : am_Cx p R s mi args meth c D ca base KV sc m) {k : Nat} {x : Nat} (hd : decode m.2.1 pc = .ok (.aload k, 2)) (hx : ls[k]? = some (am_R x)) (kk : am_Wt p l e R s mi args below meth c Q D ca base KV n0 s0 sc (pc + 2) ls (am_R x :: st) h) : am_Wt p l e R s mi args below meth c Q D ca base KV n0 s0 sc pc ls st h :=
  fun wl ws H locs lc hR hS hL => lv_aload C.1 C.2.1 hd (hL.get hx (fun e => by cases e)) (kk wl (List.forall_mem_cons.mpr ⟨trivial, ws⟩) H locs lc hR hS hL)
theorem am_s_aload_nK (C : am_Cx p R s mi args meth c D ca base KV sc m) {k : Fin 4} {x : Nat} (hd : decode m.2.1 pc = .ok (.aload_n k, 1)) (hx : ls[(k : Nat)]? = some (am_K x)) (h1 : x ≠ 1) (kk : am_Wt p l e R s mi args below meth c Q D ca base KV n0 s0 sc (pc + 1) ls (am_K x :: st) h) : am_Wt p l e R s mi args below meth c Q D ca base KV n0 s0 sc pc ls st h :=
  fun wl ws H locs lc hR hS hL => by
    have g := hL.get hx (fun e => h1 (Sum.inr.inj (Sum.inr.inj (Sum.inr.inj e))))
    have k2 := kk wl (List.forall_mem_cons.mpr ⟨trivial, ws⟩) H locs lc hR hS hL
    have k3 : W p l e R s mi args below meth c H locs (h.2.1 - n0) (h.2.2.1 - s0) Q (F0 mi (pc + 1) lc (KV x :: st.map (am_cv base KV))) := k2
    have g2 : lc[(k : Nat)]? = some (.val (KV x)) := g
    rcases C.kv x with q | ⟨a, q⟩
    · rw [q] at k3 g2
      exact lv_aload_nN C.1 C.2.1 hd rfl g2 k3
    · rw [q] at k3 g2
      exact lv_aload_n C.1 C.2.1 hd rfl g2 k3
theorem am_s_aloadK (C : am_Cx p R s mi args meth c D ca base KV sc m) {k : Nat} {x : Nat} (hd : decode m.2.1 pc = .ok (.aload k, 2)) (hx : ls[k]? = some (am_K x)) (h1 : x ≠ 1) (kk : am_Wt p l e R s mi args below meth c Q D ca base KV n0 s0 sc (pc + 2) ls (am_K x :: st) h) : am_Wt p l e R s mi args below meth c Q D ca base KV n0 s0 sc pc ls st h :=
  fun wl ws H locs lc hR hS hL => by
    have g := hL.get hx (fun e => h1 (Sum.inr.inj (Sum.inr.inj (Sum.inr.inj e))))
    have k2 := kk wl (List.forall_mem_cons.mpr ⟨trivial, ws⟩) H locs lc hR hS hL
    have k3 : W p l e R s mi args below meth c H locs (h.2.1 - n0) (h.2.2.1 - s0) Q (F0 mi (pc + 2) lc (KV x :: st.map (am_cv base KV))) := k2
    have g2 : lc[k]? = some (.val (KV x)) := g
    rcases C.kv x with q | ⟨a, q⟩
    · rw [q] at k3 g2
      exact lv_aloadN C.1 C.2.1 hd g2 k3
    · rw [q] at k3 g2
      exact lv_aload C.1 C.2.1 hd g2 k3
theorem am_okst_lt {ls : List am_V} {k : Nat} (h : am_okst ls k = true) : k < ls.length := by
  simp only [am_okst, Bool.and_eq_true] at h
  exact Nat.blt_eq.mp h.1
theorem am_wset {ls : List am_V} {k : Nat} {v : am_V} (wl : ∀ v ∈ ls, am_wv v) (hv : am_wv v) : ∀ w ∈ ls.set k v, am_wv w := by
  intro w hw
  rcases List.mem_or_eq_of_mem_set hw with q | q
  · exact wl w q
  · rw [q]; exact hv
theorem am_s_istore_n (C : am_Cx p R s mi args meth c D ca base KV sc m) {k : Fin 4} {x : Int} (hd : decode m.2.1 pc = .ok (.istore_n k, 1)) (hok : am_okst ls (k : Nat) = true) (kk : am_Wt p l e R s mi args below meth c Q D ca base KV n0 s0 sc (pc + 1) (ls.set (k : Nat) (am_I x)) st h) : am_Wt p l e R s mi args below meth c Q D ca base KV n0 s0 sc pc ls (am_I x :: st) h :=
  fun wl ws H locs lc hR hS hL => lv_istore_n C.1 C.2.1 hd rfl hL.has (by have := am_okst_lt hok; have := hL.2.1; omega) rfl (fun lc' h' => kk (am_wset wl (ws _ List.mem_cons_self)) (fun v hv => ws v (List.mem_cons_of_mem _ hv)) H locs lc' hR hS (hL.st1 (v := am_I x) C.kv hok h'))
theorem am_s_istore (C : am_Cx p R s mi args meth c D ca base KV sc m) {k : Nat} {x : Int} (hd : decode m.2.1 pc = .ok (.istore k, 2)) (hok : am_okst ls k = true) (kk : am_Wt p l e R s mi args below meth c Q D ca base KV n0 s0 sc (pc + 2) (ls.set k (am_I x)) st h) : am_Wt p l e R s mi args below meth c Q D ca base KV n0 s0 sc pc ls (am_I x :: st) h :=
  fun wl ws H locs lc hR hS hL => lv_istore C.1 C.2.1 hd hL.has (by have := am_okst_lt hok; have := hL.2.1; omega) rfl (fun lc' h' => kk (am_wset wl (ws _ List.mem_cons_self)) (fun v hv => ws v (List.mem_cons_of_mem _ hv)) H locs lc' hR hS (hL.st1 (v := am_I x) C.kv hok h'))
theorem am_s_astore_n (C : am_Cx p R s mi args meth c D ca base KV sc m) {k : Fin 4} {x : Nat} (hd : decode m.2.1 pc = .ok (.astore_n k, 1)) (hok : am_okst ls (k : Nat) = true) (kk : am_Wt p l e R s mi args below meth c Q D ca base KV n0 s0 sc (pc + 1) (ls.set (k : Nat) (am_R x)) st h) : am_Wt p l e R s mi args below meth c Q D ca base KV n0 s0 sc pc ls (am_R x :: st) h :=
  fun wl ws H locs lc hR hS hL => lv_astore_n C.1 C.2.1 hd rfl hL.has (by have := am_okst_lt hok; have := hL.2.1; omega) rfl (fun lc' h' => kk (am_wset wl trivial) (fun v hv => ws v (List.mem_cons_of_mem _ hv)) H locs lc' hR hS (hL.st1 (v := am_R x) C.kv hok h'))
theorem am_s_astore (C : am_Cx p R s mi args meth c D ca base KV sc m) {k : Nat} {x : Nat} (hd : decode m.2.1 pc = .ok (.astore k, 2)) (hok : am_okst ls k = true) (kk : am_Wt p l e R s mi args below meth c Q D ca base KV n0 s0 sc (pc + 2) (ls.set k (am_R x)) st h) : am_Wt p l e R s mi args below meth c Q D ca base KV n0 s0 sc pc ls (am_R x :: st) h :=
  fun wl ws H locs lc hR hS hL => lv_astore C.1 C.2.1 hd hL.has (by have := am_okst_lt hok; have := hL.2.1; omega) rfl (fun lc' h' => kk (am_wset wl trivial) (fun v hv => ws v (List.mem_cons_of_mem _ hv)) H locs lc' hR hS (hL.st1 (v := am_R x) C.kv hok h'))
theorem am_s_astore_nK (C : am_Cx p R s mi args meth c D ca base KV sc m) {k : Fin 4} {x : Nat} (hd : decode m.2.1 pc = .ok (.astore_n k, 1)) (hok : am_okst ls (k : Nat) = true) (kk : am_Wt p l e R s mi args below meth c Q D ca base KV n0 s0 sc (pc + 1) (ls.set (k : Nat) (am_K x)) st h) : am_Wt p l e R s mi args below meth c Q D ca base KV n0 s0 sc pc ls (am_K x :: st) h :=
  fun wl ws H locs lc hR hS hL => by
    show W p l e R s mi args below meth c H locs (h.2.1 - n0) (h.2.2.1 - s0) Q (F0 mi pc lc (KV x :: st.map (am_cv base KV)))
    have hlt : (k : Nat) < c.maxLocals := by have := am_okst_lt hok; have := hL.2.1; omega
    have key : ∀ lc' : Array Slot, lv_has lc' c.maxLocals (((k : Nat), KV x) :: (am_lvs base KV ls).filter (fun q => !(q.1 == (k : Nat)) && !(q.1 + 1 == (k : Nat) && q.2.category == 2))) → W p l e R s mi args below meth c H locs (h.2.1 - n0) (h.2.2.1 - s0) Q (F0 mi (pc + 1) lc' (st.map (am_cv base KV))) :=
      fun lc' h' => kk (am_wset wl trivial) (fun v hv => ws v (List.mem_cons_of_mem _ hv)) H locs lc' hR hS (hL.st1 (v := am_K x) C.kv hok h')
    rcases C.kv x with q | ⟨a, q⟩
    · rw [q] at key ⊢
      exact lv_astore_nN C.1 C.2.1 hd rfl hL.has hlt rfl key
    · rw [q] at key ⊢
      exact lv_astore_n C.1 C.2.1 hd rfl hL.has hlt rfl key
theorem am_s_astoreK (C : am_Cx p R s mi args meth c D ca base KV sc m) {k : Nat} {x : Nat} (hd : decode m.2.1 pc = .ok (.astore k, 2)) (hok : am_okst ls k = true) (kk : am_Wt p l e R s mi args below meth c Q D ca base KV n0 s0 sc (pc + 2) (ls.set k (am_K x)) st h) : am_Wt p l e R s mi args below meth c Q D ca base KV n0 s0 sc pc ls (am_K x :: st) h :=
  fun wl ws H locs lc hR hS hL => by
    show W p l e R s mi args below meth c H locs (h.2.1 - n0) (h.2.2.1 - s0) Q (F0 mi pc lc (KV x :: st.map (am_cv base KV)))
    have hlt : k < c.maxLocals := by have := am_okst_lt hok; have := hL.2.1; omega
    have key : ∀ lc' : Array Slot, lv_has lc' c.maxLocals ((k, KV x) :: (am_lvs base KV ls).filter (fun q => !(q.1 == k) && !(q.1 + 1 == k && q.2.category == 2))) → W p l e R s mi args below meth c H locs (h.2.1 - n0) (h.2.2.1 - s0) Q (F0 mi (pc + 2) lc' (st.map (am_cv base KV))) :=
      fun lc' h' => kk (am_wset wl trivial) (fun v hv => ws v (List.mem_cons_of_mem _ hv)) H locs lc' hR hS (hL.st1 (v := am_K x) C.kv hok h')
    rcases C.kv x with q | ⟨a, q⟩
    · rw [q] at key ⊢
      exact lv_astoreN C.1 C.2.1 hd hL.has hlt rfl key
    · rw [q] at key ⊢
      exact lv_astore C.1 C.2.1 hd hL.has hlt rfl key
theorem am_s_iinc (C : am_Cx p R s mi args meth c D ca base KV sc m) {k : Nat} {n x : Int} (hd : decode m.2.1 pc = .ok (.iinc k n, 3)) (hok : am_okst ls k = true) (hx : ls[k]? = some (am_I x)) (kk : am_Wt p l e R s mi args below meth c Q D ca base KV n0 s0 sc (pc + 3) (ls.set k (am_I (am_w (x + n)))) st h) : am_Wt p l e R s mi args below meth c Q D ca base KV n0 s0 sc pc ls st h :=
  fun wl ws H locs lc hR hS hL => by
    obtain ⟨j, hj⟩ := List.getElem?_of_mem (am_lvs_mem (q := (k, am_cv base KV (am_I x))).mpr ⟨am_I x, hx, (fun e => by cases e), rfl⟩)
    refine lv_iinc C.1 C.2.1 hd hL.has (k := j) hj (v := Int32.ofInt (am_w (x + n))) (by rw [am_w_of, Int32.ofInt_add]) (by have := am_okst_lt hok; have := hL.2.1; omega) rfl (fun lc' h' => ?_)
    exact kk (am_wset wl (am_i32_w _)) ws H locs lc' hR hS (hL.st1 (v := am_I (am_w (x + n))) C.kv hok h')
end AMSTEP
