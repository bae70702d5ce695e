/-! ===== the start ===== -/
abbrev ws_nw : List Jvm.Cond := flatC (Jvm.Cond.and given_1 narrow_1)
theorem ws_k0 {q : Nat} (h : (am_kar q).1 = 0) : q = 3 ∨ q = 4 ∨ q = 5 ∨ q = 6 ∨ q = 7 := by
  unfold am_kar at h
  split at h <;> first | omega | exact absurd h (by decide)
theorem ws_k1 {q : Nat} (h : (am_kar q).1 = 1) : q = 32 ∨ q = 33 ∨ q = 34 ∨ q = 35 ∨ q = 36 ∨ q = 37 := by
  unfold am_kar at h
  split at h <;> first | omega | exact absurd h (by decide)
theorem ws_k2 {q : Nat} (h : am_istx q = true) : q = 16 ∨ q = 17 ∨ q = 18 ∨ q = 19 ∨ q = 20 ∨ q = 21 := by
  unfold am_istx at h
  rw [Bool.and_eq_true] at h
  have h1 := Nat.le_of_ble_eq_true h.1
  have h2 := Nat.le_of_ble_eq_true h.2
  omega
def ws_KV (b t3 t4 t5 t6 t7 a0 a1 a2 a3 a4 a5 v0 v1 v2 v3 v4 v5 : Nat) (f : Value) (k : Nat) : Value := match k with
  | 2 => .ref b
  | 3 => .ref t3
  | 4 => .ref t4
  | 5 => .ref t5
  | 6 => .ref t6
  | 7 => .ref t7
  | 16 => .ref a0
  | 17 => .ref a1
  | 18 => .ref a2
  | 19 => .ref a3
  | 20 => .ref a4
  | 21 => .ref a5
  | 32 => .ref v0
  | 33 => .ref v1
  | 34 => .ref v2
  | 35 => .ref v3
  | 36 => .ref v4
  | 37 => .ref v5
  | 40 => f
  | _ => .null
def ws_tm (q : Nat) : Term := .static (am_sn q).1 (am_sn q).2.1 (am_sn q).2.2
def ws_sm (q : Nat) : Term := .string (am_tn q).1 (am_tn q).2
def ws_vm (q : Nat) : Term := .field (ws_sm q) "java/lang/String" "value" "[B"
theorem ws_T {args : Array Value} {s : State} {tm : Term} {ty : FieldType} {xs : List Int} {A : Nat → Prop} (hN : xs.length < 2 ^ 31) (harr : (Cond.arrayOf tm ty).before args s = true) (hlen : (Cond.eq (.length tm) (.int (Int32.ofNat xs.length))).before args s = true) (hel : ∀ j : Nat, j < xs.length → (Cond.eq (.elem tm (.int (Int32.ofNat j))) (.int (Int32.ofInt (xs.getD j 0)))).before args s = true) (hA : ∀ a : Nat, a < s.heap.size → ¬ A a) : ∃ t : Nat, tm.eval args s none [] s = some (.ref t) ∧ va_T ty t xs.length (fun j => .int (Int32.ofInt (xs.getD j 0))) A s s.heap :=
  va_Tof hN harr (va_eqt hlen) (fun j hj => va_eqt (hel j hj)) hA
theorem ws_S {args : Array Value} {s : State} {tm : Term} {tx : String} {q : Nat} {xs : List Int} {A : Nat → Prop} (htm : tm = ws_sm q) (hN : xs.length < 2 ^ 31) (hr : (Cond.stringRef (am_tn q).1 (am_tn q).2 tx).before args s = true) (hex : (Cond.exactly tm "java/lang/String").before args s = true) (hco : (Cond.eq (.field tm "java/lang/String" "coder" "B") (.int 0)).before args s = true) (har : (Cond.arrayOf (.field tm "java/lang/String" "value" "[B") .byte).before args s = true) (hle : (Cond.eq (.length (.field tm "java/lang/String" "value" "[B")) (.int (Int32.ofNat xs.length))).before args s = true)
    (hel : ∀ j : Nat, j < xs.length → (Cond.eq (.elem (.field tm "java/lang/String" "value" "[B") (.int (Int32.ofNat j))) (.int (Int32.ofInt (xs.getD j 0)))).before args s = true) (hA : ∀ a : Nat, a < s.heap.size → ¬ A a) :
    ∃ a v : Nat, ((∃ tx, vk_R (am_tn q).1 (am_tn q).2 tx a s) ∧ va_O "java/lang/String" a A s s.heap ∧ va_OF "java/lang/String" "value" "[B" (.ref v) a A s s.heap ∧ va_OF "java/lang/String" "coder" "B" (.int 0) a A s s.heap) ∧ va_T .byte v xs.length (fun j => .int (Int32.ofInt (xs.getD j 0))) A s s.heap := by
  obtain ⟨a, c, cA, kA, q1, q2, q3, q4, q5, q6, -⟩ := Cond.exactly_spec (args := args) (first := s) (o := none) (s := s) (idx := []) (t := tm) (cls := "java/lang/String") hex
  obtain ⟨v, hv, hT⟩ := ws_T hN har hle hel hA
  exact ⟨a, v, ⟨⟨tx, vk_R.of hr (by rw [htm] at q1; exact q1)⟩, va_Oof hex q1 hA, vk_OFof q1 hv hA, vk_OFof q1 (va_eqt hco) hA⟩, hT⟩
theorem ws_s3 {args : Array Value} {s : State} {A : Nat → Prop} (hts : ∀ w ∈ lw_tbl, w.before args s = true) (hnw : ∀ w ∈ ws_nw, w.before args s = true) (hA : ∀ a : Nat, a < s.heap.size → ¬ A a) : ∃ t : Nat, va_T .int t (am_kar 3).2.length (fun j => .int (Int32.ofInt ((am_kar 3).2.getD j 0))) A s s.heap ∧ va_Z (am_sn 3).1 (am_sn 3).2.1 (am_sn 3).2.2 (.ref t) A s s.heap := by
  obtain ⟨t, h1, h2⟩ := ws_T (tm := .static "ZoneLedger$Reader" "RULE_WITHOUT" "[I") (ty := .int) (xs := (am_kar 3).2) (by decide) (hnw _ (by decide +kernel)) (hnw _ (by decide +kernel)) (fun j hj => hnw _ ((by decide +kernel : ∀ j : Nat, j < (am_kar 3).2.length → Cond.eq (.elem (.static "ZoneLedger$Reader" "RULE_WITHOUT" "[I") (.int (Int32.ofNat j))) (.int (Int32.ofInt ((am_kar 3).2.getD j 0))) ∈ ws_nw) j hj)) hA
  exact ⟨t, h2, va_Zof (hts (.laysStatic "ZoneLedger$Reader" "RULE_WITHOUT" "[I") (am_W_mem (q := 2098) rfl)) (hts (.initialized "ZoneLedger$Reader") (am_W_mem (q := 1003) rfl)) h1 hA⟩
theorem ws_s4 {args : Array Value} {s : State} {A : Nat → Prop} (hts : ∀ w ∈ lw_tbl, w.before args s = true) (hnw : ∀ w ∈ ws_nw, w.before args s = true) (hA : ∀ a : Nat, a < s.heap.size → ¬ A a) : ∃ t : Nat, va_T .int t (am_kar 4).2.length (fun j => .int (Int32.ofInt ((am_kar 4).2.getD j 0))) A s s.heap ∧ va_Z (am_sn 4).1 (am_sn 4).2.1 (am_sn 4).2.2 (.ref t) A s s.heap := by
  obtain ⟨t, h1, h2⟩ := ws_T (tm := .static "ZoneLedger$Reader" "RULE_LEAST" "[I") (ty := .int) (xs := (am_kar 4).2) (by decide) (hnw _ (by decide +kernel)) (hnw _ (by decide +kernel)) (fun j hj => hnw _ ((by decide +kernel : ∀ j : Nat, j < (am_kar 4).2.length → Cond.eq (.elem (.static "ZoneLedger$Reader" "RULE_LEAST" "[I") (.int (Int32.ofNat j))) (.int (Int32.ofInt ((am_kar 4).2.getD j 0))) ∈ ws_nw) j hj)) hA
  exact ⟨t, h2, va_Zof (hts (.laysStatic "ZoneLedger$Reader" "RULE_LEAST" "[I") (am_W_mem (q := 2112) rfl)) (hts (.initialized "ZoneLedger$Reader") (am_W_mem (q := 1003) rfl)) h1 hA⟩
theorem ws_s5 {args : Array Value} {s : State} {A : Nat → Prop} (hts : ∀ w ∈ lw_tbl, w.before args s = true) (hnw : ∀ w ∈ ws_nw, w.before args s = true) (hA : ∀ a : Nat, a < s.heap.size → ¬ A a) : ∃ t : Nat, va_T .int t (am_kar 5).2.length (fun j => .int (Int32.ofInt ((am_kar 5).2.getD j 0))) A s s.heap ∧ va_Z (am_sn 5).1 (am_sn 5).2.1 (am_sn 5).2.2 (.ref t) A s s.heap := by
  obtain ⟨t, h1, h2⟩ := ws_T (tm := .static "ZoneLedger$Reader" "RULE_MOST" "[I") (ty := .int) (xs := (am_kar 5).2) (by decide) (hnw _ (by decide +kernel)) (hnw _ (by decide +kernel)) (fun j hj => hnw _ ((by decide +kernel : ∀ j : Nat, j < (am_kar 5).2.length → Cond.eq (.elem (.static "ZoneLedger$Reader" "RULE_MOST" "[I") (.int (Int32.ofNat j))) (.int (Int32.ofInt ((am_kar 5).2.getD j 0))) ∈ ws_nw) j hj)) hA
  exact ⟨t, h2, va_Zof (hts (.laysStatic "ZoneLedger$Reader" "RULE_MOST" "[I") (am_W_mem (q := 2114) rfl)) (hts (.initialized "ZoneLedger$Reader") (am_W_mem (q := 1003) rfl)) h1 hA⟩
theorem ws_s6 {args : Array Value} {s : State} {A : Nat → Prop} (hts : ∀ w ∈ lw_tbl, w.before args s = true) (hnw : ∀ w ∈ ws_nw, w.before args s = true) (hA : ∀ a : Nat, a < s.heap.size → ¬ A a) : ∃ t : Nat, va_T .int t (am_kar 6).2.length (fun j => .int (Int32.ofInt ((am_kar 6).2.getD j 0))) A s s.heap ∧ va_Z (am_sn 6).1 (am_sn 6).2.1 (am_sn 6).2.2 (.ref t) A s s.heap := by
  obtain ⟨t, h1, h2⟩ := ws_T (tm := .static "ZoneLedger$Reader" "WRITE_LEAST" "[I") (ty := .int) (xs := (am_kar 6).2) (by decide) (hnw _ (by decide +kernel)) (hnw _ (by decide +kernel)) (fun j hj => hnw _ ((by decide +kernel : ∀ j : Nat, j < (am_kar 6).2.length → Cond.eq (.elem (.static "ZoneLedger$Reader" "WRITE_LEAST" "[I") (.int (Int32.ofNat j))) (.int (Int32.ofInt ((am_kar 6).2.getD j 0))) ∈ ws_nw) j hj)) hA
  exact ⟨t, h2, va_Zof (hts (.laysStatic "ZoneLedger$Reader" "WRITE_LEAST" "[I") (am_W_mem (q := 2216) rfl)) (hts (.initialized "ZoneLedger$Reader") (am_W_mem (q := 1003) rfl)) h1 hA⟩
theorem ws_s7 {args : Array Value} {s : State} {A : Nat → Prop} (hts : ∀ w ∈ lw_tbl, w.before args s = true) (hnw : ∀ w ∈ ws_nw, w.before args s = true) (hA : ∀ a : Nat, a < s.heap.size → ¬ A a) : ∃ t : Nat, va_T .int t (am_kar 7).2.length (fun j => .int (Int32.ofInt ((am_kar 7).2.getD j 0))) A s s.heap ∧ va_Z (am_sn 7).1 (am_sn 7).2.1 (am_sn 7).2.2 (.ref t) A s s.heap := by
  obtain ⟨t, h1, h2⟩ := ws_T (tm := .static "ZoneLedger$Reader" "WRITE_MOST" "[I") (ty := .int) (xs := (am_kar 7).2) (by decide) (hnw _ (by decide +kernel)) (hnw _ (by decide +kernel)) (fun j hj => hnw _ ((by decide +kernel : ∀ j : Nat, j < (am_kar 7).2.length → Cond.eq (.elem (.static "ZoneLedger$Reader" "WRITE_MOST" "[I") (.int (Int32.ofNat j))) (.int (Int32.ofInt ((am_kar 7).2.getD j 0))) ∈ ws_nw) j hj)) hA
  exact ⟨t, h2, va_Zof (hts (.laysStatic "ZoneLedger$Reader" "WRITE_MOST" "[I") (am_W_mem (q := 2218) rfl)) (hts (.initialized "ZoneLedger$Reader") (am_W_mem (q := 1003) rfl)) h1 hA⟩
theorem ws_t16 {args : Array Value} {s : State} {A : Nat → Prop} (hts : ∀ w ∈ lw_tbl, w.before args s = true) (hnw : ∀ w ∈ ws_nw, w.before args s = true) (hA : ∀ a : Nat, a < s.heap.size → ¬ A a) : ∃ a v : Nat, ((∃ tx, vk_R (am_tn 16).1 (am_tn 16).2 tx a s) ∧ va_O "java/lang/String" a A s s.heap ∧ va_OF "java/lang/String" "value" "[B" (.ref v) a A s s.heap ∧ va_OF "java/lang/String" "coder" "B" (.int 0) a A s s.heap) ∧ va_T .byte v (am_kar 32).2.length (fun j => .int (Int32.ofInt ((am_kar 32).2.getD j 0))) A s s.heap :=
  ws_S (tm := (.string "ZoneLedger$Reader" 73)) (tx := "zcoamrp") (xs := (am_kar 32).2) rfl (by decide) (hts (.stringRef "ZoneLedger$Reader" 73 "zcoamrp") (am_W_mem (q := 2110) rfl)) (hnw _ (by decide +kernel)) (hnw _ (by decide +kernel)) (hnw _ (by decide +kernel)) (hnw _ (by decide +kernel)) (fun j hj => hnw _ ((by decide +kernel : ∀ j : Nat, j < (am_kar 32).2.length → Cond.eq (.elem (.field (.string "ZoneLedger$Reader" 73) "java/lang/String" "value" "[B") (.int (Int32.ofNat j))) (.int (Int32.ofInt ((am_kar 32).2.getD j 0))) ∈ ws_nw) j hj)) hA
theorem ws_t17 {args : Array Value} {s : State} {A : Nat → Prop} (hts : ∀ w ∈ lw_tbl, w.before args s = true) (hnw : ∀ w ∈ ws_nw, w.before args s = true) (hA : ∀ a : Nat, a < s.heap.size → ¬ A a) : ∃ a v : Nat, ((∃ tx, vk_R (am_tn 17).1 (am_tn 17).2 tx a s) ∧ va_O "java/lang/String" a A s s.heap ∧ va_OF "java/lang/String" "value" "[B" (.ref v) a A s s.heap ∧ va_OF "java/lang/String" "coder" "B" (.int 0) a A s s.heap) ∧ va_T .byte v (am_kar 33).2.length (fun j => .int (Int32.ofInt ((am_kar 33).2.getD j 0))) A s s.heap :=
  ws_S (tm := (.string "ZoneLedger$Reader" 85)) (tx := "kv") (xs := (am_kar 33).2) rfl (by decide) (hts (.stringRef "ZoneLedger$Reader" 85 "kv") (am_W_mem (q := 2214) rfl)) (hnw _ (by decide +kernel)) (hnw _ (by decide +kernel)) (hnw _ (by decide +kernel)) (hnw _ (by decide +kernel)) (fun j hj => hnw _ ((by decide +kernel : ∀ j : Nat, j < (am_kar 33).2.length → Cond.eq (.elem (.field (.string "ZoneLedger$Reader" 85) "java/lang/String" "value" "[B") (.int (Int32.ofNat j))) (.int (Int32.ofInt ((am_kar 33).2.getD j 0))) ∈ ws_nw) j hj)) hA
theorem ws_t18 {args : Array Value} {s : State} {A : Nat → Prop} (hts : ∀ w ∈ lw_tbl, w.before args s = true) (hnw : ∀ w ∈ ws_nw, w.before args s = true) (hA : ∀ a : Nat, a < s.heap.size → ¬ A a) : ∃ a v : Nat, ((∃ tx, vk_R (am_tn 18).1 (am_tn 18).2 tx a s) ∧ va_O "java/lang/String" a A s s.heap ∧ va_OF "java/lang/String" "value" "[B" (.ref v) a A s s.heap ∧ va_OF "java/lang/String" "coder" "B" (.int 0) a A s s.heap) ∧ va_T .byte v (am_kar 34).2.length (fun j => .int (Int32.ofInt ((am_kar 34).2.getD j 0))) A s s.heap :=
  ws_S (tm := (.string "ZoneLedger$Reader" 111)) (tx := "pdcxolfry") (xs := (am_kar 34).2) rfl (by decide) (hts (.stringRef "ZoneLedger$Reader" 111 "pdcxolfry") (am_W_mem (q := 2235) rfl)) (hnw _ (by decide +kernel)) (hnw _ (by decide +kernel)) (hnw _ (by decide +kernel)) (hnw _ (by decide +kernel)) (fun j hj => hnw _ ((by decide +kernel : ∀ j : Nat, j < (am_kar 34).2.length → Cond.eq (.elem (.field (.string "ZoneLedger$Reader" 111) "java/lang/String" "value" "[B") (.int (Int32.ofNat j))) (.int (Int32.ofInt ((am_kar 34).2.getD j 0))) ∈ ws_nw) j hj)) hA
theorem ws_t19 {args : Array Value} {s : State} {A : Nat → Prop} (hts : ∀ w ∈ lw_tbl, w.before args s = true) (hnw : ∀ w ∈ ws_nw, w.before args s = true) (hA : ∀ a : Nat, a < s.heap.size → ¬ A a) : ∃ a v : Nat, ((∃ tx, vk_R (am_tn 19).1 (am_tn 19).2 tx a s) ∧ va_O "java/lang/String" a A s s.heap ∧ va_OF "java/lang/String" "value" "[B" (.ref v) a A s s.heap ∧ va_OF "java/lang/String" "coder" "B" (.int 0) a A s s.heap) ∧ va_T .byte v (am_kar 35).2.length (fun j => .int (Int32.ofInt ((am_kar 35).2.getD j 0))) A s s.heap :=
  ws_S (tm := (.string "ZoneLedgerModel" 100)) (tx := "zcoamrp") (xs := (am_kar 35).2) rfl (by decide) (hts (.stringRef "ZoneLedgerModel" 100 "zcoamrp") (am_W_mem (q := 6086) rfl)) (hnw _ (by decide +kernel)) (hnw _ (by decide +kernel)) (hnw _ (by decide +kernel)) (hnw _ (by decide +kernel)) (fun j hj => hnw _ ((by decide +kernel : ∀ j : Nat, j < (am_kar 35).2.length → Cond.eq (.elem (.field (.string "ZoneLedgerModel" 100) "java/lang/String" "value" "[B") (.int (Int32.ofNat j))) (.int (Int32.ofInt ((am_kar 35).2.getD j 0))) ∈ ws_nw) j hj)) hA
theorem ws_t20 {args : Array Value} {s : State} {A : Nat → Prop} (hts : ∀ w ∈ lw_tbl, w.before args s = true) (hnw : ∀ w ∈ ws_nw, w.before args s = true) (hA : ∀ a : Nat, a < s.heap.size → ¬ A a) : ∃ a v : Nat, ((∃ tx, vk_R (am_tn 20).1 (am_tn 20).2 tx a s) ∧ va_O "java/lang/String" a A s s.heap ∧ va_OF "java/lang/String" "value" "[B" (.ref v) a A s s.heap ∧ va_OF "java/lang/String" "coder" "B" (.int 0) a A s s.heap) ∧ va_T .byte v (am_kar 36).2.length (fun j => .int (Int32.ofInt ((am_kar 36).2.getD j 0))) A s s.heap :=
  ws_S (tm := (.string "ZoneLedgerModel" 102)) (tx := "kv") (xs := (am_kar 36).2) rfl (by decide) (hts (.stringRef "ZoneLedgerModel" 102 "kv") (am_W_mem (q := 6087) rfl)) (hnw _ (by decide +kernel)) (hnw _ (by decide +kernel)) (hnw _ (by decide +kernel)) (hnw _ (by decide +kernel)) (fun j hj => hnw _ ((by decide +kernel : ∀ j : Nat, j < (am_kar 36).2.length → Cond.eq (.elem (.field (.string "ZoneLedgerModel" 102) "java/lang/String" "value" "[B") (.int (Int32.ofNat j))) (.int (Int32.ofInt ((am_kar 36).2.getD j 0))) ∈ ws_nw) j hj)) hA
theorem ws_t21 {args : Array Value} {s : State} {A : Nat → Prop} (hts : ∀ w ∈ lw_tbl, w.before args s = true) (hnw : ∀ w ∈ ws_nw, w.before args s = true) (hA : ∀ a : Nat, a < s.heap.size → ¬ A a) : ∃ a v : Nat, ((∃ tx, vk_R (am_tn 21).1 (am_tn 21).2 tx a s) ∧ va_O "java/lang/String" a A s s.heap ∧ va_OF "java/lang/String" "value" "[B" (.ref v) a A s s.heap ∧ va_OF "java/lang/String" "coder" "B" (.int 0) a A s s.heap) ∧ va_T .byte v (am_kar 37).2.length (fun j => .int (Int32.ofInt ((am_kar 37).2.getD j 0))) A s s.heap :=
  ws_S (tm := (.string "ZoneLedgerModel" 139)) (tx := "pdcxolfry") (xs := (am_kar 37).2) rfl (by decide) (hts (.stringRef "ZoneLedgerModel" 139 "pdcxolfry") (am_W_mem (q := 6141) rfl)) (hnw _ (by decide +kernel)) (hnw _ (by decide +kernel)) (hnw _ (by decide +kernel)) (hnw _ (by decide +kernel)) (fun j hj => hnw _ ((by decide +kernel : ∀ j : Nat, j < (am_kar 37).2.length → Cond.eq (.elem (.field (.string "ZoneLedgerModel" 139) "java/lang/String" "value" "[B") (.int (Int32.ofNat j))) (.int (Int32.ofInt ((am_kar 37).2.getD j 0))) ∈ ws_nw) j hj)) hA
theorem ws_ins {ci : Nat} (h : ci < 10) : ∃ n : Nat, Cond.instantiable (am_cl0 ci) n ∈ lw_tbl := by
  match ci, h with
  | 0, _ => exact ⟨1, am_W_mem (q := 1218) rfl⟩
  | 1, _ => exact ⟨14, am_W_mem (q := 1118) rfl⟩
  | 2, _ => exact ⟨3, am_W_mem (q := 2016) rfl⟩
  | 3, _ => exact ⟨5, am_W_mem (q := 1124) rfl⟩
  | 4, _ => exact ⟨10, am_W_mem (q := 1050) rfl⟩
  | 5, _ => exact ⟨4, am_W_mem (q := 1056) rfl⟩
  | 6, _ => exact ⟨2, am_W_mem (q := 1033) rfl⟩
  | 7, _ => exact ⟨8, am_W_mem (q := 1210) rfl⟩
  | 8, _ => exact ⟨12, am_W_mem (q := 1025) rfl⟩
  | 9, _ => exact ⟨31, am_W_mem (q := 5178) rfl⟩
  | n + 10, h => exact absurd h (by omega)
theorem ws_D {args : Array Value} {s : State} (hts : ∀ w ∈ lw_tbl, w.before args s = true) : ∃ D : va_G, ∀ (c : Nat) (q : vw_C), am_cls[c]? = some q → u_Kn s q.1 q.2.1 q.2.2 (D.1 c) (D.2 c) := by
  have hk : ∀ ci : Nat, ∃ q : ClassId × (Nat → Nat), ci < 10 → u_Kn s (am_cl0 ci) (am_clT ci) (am_clN ci) q.1 q.2 := by
    intro ci
    by_cases hci : ci < 10
    · obtain ⟨n, hn⟩ := ws_ins hci
      obtain ⟨cC, iS, h⟩ := u_known (ws := am_lwg) (C := am_cl0 ci) (T := am_clT ci) (N := am_clN ci) (n := n) (fun w hw => hts w (List.mem_filter.mp hw).1) (am_uws hci) (hts _ hn)
      exact ⟨(cC, iS), fun _ => h⟩
    · exact ⟨((0 : Nat), fun _ => 0), fun h => absurd h hci⟩
  obtain ⟨f, hf⟩ := Classical.axiomOfChoice hk
  refine ⟨(fun c => (f c).1, fun c => (f c).2), fun c q hq => ?_⟩
  have hc : c < 10 := (List.getElem?_eq_some_iff.mp hq).1
  have e := (am_cl_at hc).symm.trans hq
  cases e
  exact hf c hc
theorem ws_ca {args : Array Value} {s : State} (hts : ∀ w ∈ lw_tbl, w.before args s = true) : ∃ ca : Nat → ClassId, ∀ (k : Nat) (q : ClassId × FieldType), (am_tys ca)[k]? = some q → ArrOfT s q.1 q.2 ∧ va_RA s q.1 q.2 := by
  obtain ⟨c0, k0, p0, a0, b0, d0⟩ := Cond.arrayClass_spec (hts (.arrayClass .int) (am_W_mem (q := 1048) rfl))
  obtain ⟨c1, k1, p1, a1, b1, d1⟩ := Cond.arrayClass_spec (hts (.arrayClass .byte) (am_W_mem (q := 3008) rfl))
  obtain ⟨c2, k2, p2, a2, b2, d2⟩ := Cond.arrayClass_spec (hts (.arrayClass .long) (am_W_mem (q := 8095) rfl))
  obtain ⟨p3, c3, k3, f3, -, g3, i3, j3⟩ := Cond.arrayOver_spec (hts (.arrayOver (.object "ZoneLedger$Script")) (am_W_mem (q := 1116) rfl))
  obtain ⟨p4, c4, k4, f4, -, g4, i4, j4⟩ := Cond.arrayOver_spec (hts (.arrayOver (.object "ZoneLedger$Drive")) (am_W_mem (q := 2022) rfl))
  refine ⟨fun k => match k with
    | 0 => c0
    | 1 => c1
    | 2 => c2
    | 3 => c3
    | _ => c4, fun k q hq => ?_⟩
  match k, hq with
  | 0, hq => cases hq; exact ⟨fun n z => ⟨fun k h => (by cases h), k0, b0, p0, d0⟩, a0⟩
  | 1, hq => cases hq; exact ⟨fun n z => ⟨fun k h => (by cases h), k1, b1, p1, d1⟩, a1⟩
  | 2, hq => cases hq; exact ⟨fun n z => ⟨fun k h => (by cases h), k2, b2, p2, d2⟩, a2⟩
  | 3, hq => cases hq; exact ⟨fun n z => ⟨fun k h => (by cases h), k3, g3, p3, i3⟩, k3, p3, g3, i3, f3, j3⟩
  | 4, hq => cases hq; exact ⟨fun n z => ⟨fun k h => (by cases h), k4, g4, p4, i4⟩, k4, p4, g4, i4, f4, j4⟩
  | k + 5, hq => cases hq
theorem ws_G {s : State} {b L : Nat} {xs : Nat → Int32} (hts : ∀ w ∈ lw_tbl, w.before #[Value.ref b] s = true) (hnw : ∀ w ∈ ws_nw, w.before #[Value.ref b] s = true) (hX : va_X b L xs s s.heap) (hbl : b < s.heap.size) (hL : L ≤ 3584) : ∃ KV : Nat → Value, KV 2 = .ref b ∧ am_Gv s.heap.size KV (L, fun j => (xs j).toInt) s := by
  have hA : ∀ a : Nat, a < s.heap.size → ¬ (fun q : Nat => s.heap.size ≤ q) a := fun a h => Nat.not_le.mpr h
  obtain ⟨t3, x3, y3⟩ := ws_s3 hts hnw hA
  obtain ⟨t4, x4, y4⟩ := ws_s4 hts hnw hA
  obtain ⟨t5, x5, y5⟩ := ws_s5 hts hnw hA
  obtain ⟨t6, x6, y6⟩ := ws_s6 hts hnw hA
  obtain ⟨t7, x7, y7⟩ := ws_s7 hts hnw hA
  obtain ⟨a0, v0, x16, y16⟩ := ws_t16 hts hnw hA
  obtain ⟨a1, v1, x17, y17⟩ := ws_t17 hts hnw hA
  obtain ⟨a2, v2, x18, y18⟩ := ws_t18 hts hnw hA
  obtain ⟨a3, v3, x19, y19⟩ := ws_t19 hts hnw hA
  obtain ⟨a4, v4, x20, y20⟩ := ws_t20 hts hnw hA
  obtain ⟨a5, v5, x21, y21⟩ := ws_t21 hts hnw hA
  obtain ⟨f, hf, zf⟩ : ∃ f : Value, (f = .null ∨ ∃ a, f = .ref a) ∧ va_Z (am_sn 40).1 (am_sn 40).2.1 (am_sn 40).2.2 f (fun q => s.heap.size ≤ q) s s.heap := by
    rcases va_Zqof (hts (.laysStatic "jdk/internal/util/Preconditions" "SIOOBE_FORMATTER" "Ljava/util/function/BiFunction;") (am_W_mem (q := 2176) rfl)) (hts (.initialized "jdk/internal/util/Preconditions") (am_W_mem (q := 1016) rfl)) (hnw (.isRef (.static "jdk/internal/util/Preconditions" "SIOOBE_FORMATTER" "Ljava/util/function/BiFunction;")) (by decide +kernel)) hA with h | ⟨t, h⟩
    · exact ⟨.null, Or.inl rfl, h⟩
    · exact ⟨.ref t, Or.inr ⟨t, rfl⟩, h⟩
  refine ⟨ws_KV b t3 t4 t5 t6 t7 a0 a1 a2 a3 a4 a5 v0 v1 v2 v3 v4 v5 f, rfl, fun k => ?_, rfl, fun w hw hn => va_Nw.of (zl_onT hn) (hts w hw), va_AO.of (hts (.arrayOver (.object "ZoneLedger$Script")) (am_W_mem (q := 1116) rfl)), va_AO.of (hts (.arrayOver (.object "ZoneLedger$Drive")) (am_W_mem (q := 2022) rfl)), ⟨by show L < 2 ^ 31; omega, fun j => am_i32_toInt _, b, rfl, ?_⟩, fun q h => ?_, fun q h => ?_, fun q h => ?_, fun q h => ?_, va_Zof (hts (.laysStatic "java/lang/String" "COMPACT_STRINGS" "Z") (am_W_mem (q := 2128) rfl)) (hts (.initialized "java/lang/String") (am_W_mem (q := 1012) rfl)) (va_eqt (hnw (.eq (.static "java/lang/String" "COMPACT_STRINGS" "Z") (.int 1)) (by decide +kernel))) hA, vx_Zqof (hts _ (am_W_mem (q := 5140) rfl)) (hts (.initialized "java/lang/Throwable") (am_W_mem (q := 1019) rfl)) (hnw _ (by decide +kernel)) hA, vx_Zqof (hts _ (am_W_mem (q := 5142) rfl)) (hts (.initialized "java/lang/Throwable") (am_W_mem (q := 1019) rfl)) (hnw _ (by decide +kernel)) hA⟩
  · unfold ws_KV
    split <;> first | exact hf | exact Or.inr ⟨_, rfl⟩ | exact Or.inl rfl
  · obtain ⟨scr, h1, h2, h3, h4, h5⟩ := hX
    refine ⟨scr, h1, h2, h3, Nat.le_of_eq h4.symm, by rw [h4] <;> rfl, fun j hj => ?_, hA b hbl⟩
    show scr.slots[j]? = some (Value.int (Int32.ofInt (xs j).toInt))
    rw [h5 j hj, Int32.ofInt_toInt]
  · rcases ws_k0 h with rfl | rfl | rfl | rfl | rfl
    · exact ⟨t3, rfl, x3⟩
    · exact ⟨t4, rfl, x4⟩
    · exact ⟨t5, rfl, x5⟩
    · exact ⟨t6, rfl, x6⟩
    · exact ⟨t7, rfl, x7⟩
  · rcases ws_k1 h with rfl | rfl | rfl | rfl | rfl | rfl
    · exact ⟨v0, rfl, y16⟩
    · exact ⟨v1, rfl, y17⟩
    · exact ⟨v2, rfl, y18⟩
    · exact ⟨v3, rfl, y19⟩
    · exact ⟨v4, rfl, y20⟩
    · exact ⟨v5, rfl, y21⟩
  · rcases ws_k2 h with rfl | rfl | rfl | rfl | rfl | rfl
    · exact ⟨a0, rfl, x16⟩
    · exact ⟨a1, rfl, x17⟩
    · exact ⟨a2, rfl, x18⟩
    · exact ⟨a3, rfl, x19⟩
    · exact ⟨a4, rfl, x20⟩
    · exact ⟨a5, rfl, x21⟩
  · rcases (show q = 40 ∨ q = 3 ∨ q = 4 ∨ q = 5 ∨ q = 6 ∨ q = 7 by omega) with rfl | rfl | rfl | rfl | rfl | rfl
    · exact zf
    · exact y3
    · exact y4
    · exact y5
    · exact y6
    · exact y7
/-! THE CLAIM OUT OF ONE WALK OF THE LAW'S BODY. Your part is whole_start (and what it stands on); all else here is the same for every law, but numbers. -/
def R_law : String := "ZoneLedgerLaw"
def lw_P (b : Addr) (xs : List Int32) (args : Array Value) (s : State) : Prop := args = #[.ref b] ∧ s.IntsAt b xs ∧ xs.length ≤ 3584 ∧ (Jvm.Cond.and given_1 narrow_1).before args s = true
def lw_Q (_ : Array Value) (s : State) (o : Outcome) (t : State) : Prop := o = .returned (some (.int 1)) ∧ Framed s o t [] 601024 7293034
def lw_Z (below : List Frame) (a : Array Value) (s : State) : State → Prop := fun t => ∃ o, t.status = .running ∧ Ended t below o ∧ lw_Q a s o t
/-- the law's own end, with 1 on the stack, nothing written that was there before, its room as the claim has it -/
theorem lw_ret {p : Program} {l : Launch} {e : Env} {s : State} {m : MethodId} {below : List Frame} {meth : Method} {c : Code} {b : Nat} (hx : p.tables.exec = Jvm.exec) (hb : c.code = code) (hr : meth.sig.returnType = ret) (hlocks : meth.locks = false) {pc : Nat} {H : Heap} {ls : Array Slot} (hdg : decode code pc = .ok (.ireturn, 1)) : W p l e room_1 s m #[Value.ref b] below meth c H [] 601024 7293034 (lw_Z below #[Value.ref b] s) (F0 m pc ls [.int 1]) := by
  intro T hT X
  obtain ⟨fs, hret, hrun, hended, hW, hframe⟩ := X.leave (v := some (.int 1)) (hlocks := hlocks) (fun h => by rw [hr] at h; cases h)
  have hmeth' : T.vm.method? m = some meth := X.method'
  refine ⟨T.setFrames fs, ?_, .returned (some (.int 1)), hrun, hended, rfl, ⟨_, rfl⟩, hW, hframe⟩
  jvm_step X.here [X.here.top, hx, hb, hdg, hmeth', hr, ret, narrow_b1]
  (try refine ⟨rfl, ?_⟩); (try refine ⟨rfl, ?_⟩)
  first | (intro acts; rw [hret _ acts rfl rfl rfl]) | rw [hret _ _ rfl rfl rfl]
  exact Steps.refl _
/-- what holds at the law's entry: the machine, the code, the tables' words (any of lw_tbl by 'hts w (by decide +kernel)'), the script of L ints xs at the cell b, what the Statement gives of the start (any of its parts by flat_of_before) -/
def lw_At (p : Program) (s : State) (m : MethodId) (meth : Method) (c : Code) (b L : Nat) (xs : Nat → Int32) : Prop :=
  p.tables.exec = Jvm.exec ∧ c.code = code ∧ meth.sig.returnType = ret ∧ c.maxLocals = 7 ∧ s.vm.findClass R_law = some m.cls ∧ (∀ w ∈ lw_tbl, w.before #[Value.ref b] s = true) ∧ va_X b L xs s s.heap ∧ b < s.heap.size ∧ meth.locks = false ∧ (Jvm.Cond.and given_1 narrow_1).before #[Value.ref b] s = true
/-- from the entry, for every script of at most 3584 ints, the law comes to its end with true -/
theorem whole_start {p : Program} {e : Env} {s : State} {m : MethodId} {below : List Frame} {meth : Method} {c : Code} (l : Launch) (hflags : l.flags = flags0) {b L : Nat} {xs : Nat → Int32} (hL : L ≤ 3584) (C0 : lw_At p s m meth c b L xs) : W p l e room_1 s m #[Value.ref b] below meth c s.heap [] 0 0 (lw_Z below #[Value.ref b] s) (entryFrame m ([Value.ref b] : List Value).toArray 7) := by
  obtain ⟨hx, hb, hr, hml, hown, hts, hX, hbl, hlocks, hgv⟩ := id C0
  have hnw : ∀ w ∈ ws_nw, w.before #[Value.ref b] s = true := flat_of_before _ hgv
  obtain ⟨D, hD⟩ := ws_D hts
  obtain ⟨ca, hca⟩ := ws_ca hts
  obtain ⟨KV, hK2, hG⟩ := ws_G hts hnw hX hbl hL
  have hl : l.stackTraces = false := by
    unfold Launch.stackTraces
    rw [hflags]
    decide +kernel
  have hKn : am_Kn D ca s := ⟨hD, hca⟩
  have C : am_Cx p room_1 s m #[Value.ref b] meth c D ca s.heap.size KV (L, fun j => (xs j).toInt) am_m304 := ⟨hx, hb, hml, hown, fun w hw => hts w (List.mem_filter.mp hw).1, hKn, hG, hr, hlocks, fun q => absurd q (by decide), Nat.le_of_ble_eq_true rfl, Nat.le_of_ble_eq_true rfl⟩
  obtain ⟨h0, hh0⟩ : ∃ h0 : am_H, h0 = (fun _ => am_no, 0, 0, L, fun j => (xs j).toInt) := ⟨_, rfl⟩
  have g1 : h0.2.1 = 0 := by rw [hh0]
  have g2 : h0.2.2.1 = 0 := by rw [hh0]
  have g3 : h0.2.2.2 = (L, fun j => (xs j).toInt) := by rw [hh0]
  have g4 : ∀ k, h0.1 k = am_no := fun k => by rw [hh0]
  obtain ⟨H', hrun, hc, hs⟩ := lw_run h0 (by rw [g3]; exact hL)
  rw [g1] at hc
  rw [g2] at hs
  obtain ⟨n, hF⟩ := (am_run_some am_ms).mp hrun
  have hret : am_Ret p l e room_1 s m #[Value.ref b] below meth c (lw_Z below #[Value.ref b] s) D ca s.heap.size KV 0 0 (L, fun j => (xs j).toInt) am_m304 (some (am_I 1)) H' := by
    intro H locs lc pc hR1 hS1
    refine ⟨fun hv _ _ => (by cases hv), fun x ty hv hd hrt hn hxx => ?_⟩
    cases hv
    refine va_forget (fun q hq => hS1.2.2 q hq) ?_
    refine W.widen (k := 601024) (n := 7293034) (by omega) (by omega) ?_
    exact lw_ret hx hb hr hlocks hd
  have key := am_Sn_all (l := l) (D := D) (ca := ca) (base := s.heap.size) (KV := KV) (sc := (L, fun j => (xs j).toInt)) am_ok (zl_ZL hl) n 304 am_m304 rfl p e room_1 s m #[Value.ref b] below meth c (lw_Z below #[Value.ref b] s) 0 0 C (some (am_I 1)) H' (show H'.2.1 - 0 ≤ 601024 by omega) (show H'.2.2.1 - 0 ≤ 7293034 by omega) hret 0 _ [] h0 hF (Nat.zero_le _) (Nat.zero_le _)
  have hR : am_Rep D ca s.heap.size KV (L, fun j => (xs j).toInt) h0 s.heap := ⟨by rw [g1]; rfl, g3, fun k => by rw [g4]; trivial, fun k _ => g4 k, fun k => by rw [g4]; trivial⟩
  have wl : ∀ v ∈ am_pad 7 [am_K 2], am_wv v := am_pad_wf (as := [am_K 2]) (fun v hv => by rcases List.mem_singleton.mp hv with rfl; trivial) 7
  have k2 := key wl (fun v hv => by cases hv) s.heap [] _ hR va_S.rf (by rw [hml]; exact am_entry C.kv [am_K 2] (n := 7) (Nat.le_of_ble_eq_true rfl))
  rw [g1, g2] at k2
  rw [lg_entry_eq]
  have e2 : [am_K 2].map (am_cv s.heap.size KV) = [Value.ref b] := by
    show [KV 2] = _
    rw [hK2]
  rw [e2] at k2
  exact k2
set_option maxHeartbeats 4000000 in
theorem lw_walk (l : Launch) (hflags : l.flags = flags0) (b : Addr) (xs : List Int32) : MetFree l x (headSpec (Jvm.Cond.code x code maxLocals ret :: tables_1) room_1) (lw_P b xs) (fun _ _ _ _ _ => True) lw_Q := by
  refine MetFree.of_bodyS (code := code) (maxLocals := maxLocals) (ret := ret) (by decide) ?_ ?_
  · intro args s m h hn
    obtain ⟨meth, c, h1, h2, h3, h4, h5, h6, -, -⟩ := Cond.code_spec hn (atoms_spec (ws := Jvm.Cond.code x code maxLocals ret :: tables_1) h _ List.mem_cons_self)
    exact ⟨meth, c, h1, h2, h3, h4, h5, h6⟩
  · intro p e s m args below meth c s₁ B hml0 hP _
    obtain ⟨rfl, hx, hbd, hgv⟩ := hP
    obtain ⟨scr, harrAt, hlist, hof, hsmall⟩ := hx
    obtain ⟨hcb, hkn, -, -⟩ := State.arrayAt?_spec harrAt
    have hown : s.vm.findClass R_law = some m.cls := findClass_of_methodNamed B.named
    have hts0 : ∀ c ∈ (Jvm.Cond.code x code maxLocals ret :: tables_1), c.before #[Value.ref b] s = true := atoms_spec (ws := Jvm.Cond.code x code maxLocals ret :: tables_1) B.pre
    have hts : ∀ w ∈ lw_tbl, w.before #[Value.ref b] s = true := k2_hts_sels lw_privs (fun w hw => hts0 w (List.mem_cons_of_mem _ hw)) lw_privs_ok
    have hml : c.maxLocals = 7 := B.maxLocals_eq (hts0 _ List.mem_cons_self)
    have X₀ : Stand p l e room_1 s m #[Value.ref b] below meth c s₁ [] 0 0 := Stand.of_body B
    have hh0 : s₁.heap = s.heap := by rw [B.state]; rfl
    have hsz : scr.slots.size = xs.length := by rw [← Array.length_toList, hlist, List.length_map]
    have hval : ∀ j : Nat, j < xs.length → scr.slots[j]? = some (.int (xs.getD j 0)) := fun j hj => by
      rw [← Array.getElem?_toList, hlist]
      simp [hj]
    have hbl : b < s.heap.size := (Array.getElem?_eq_some_iff.mp hcb).1
    have hX : va_X b xs.length (fun j => xs.getD j 0) s s.heap := ⟨scr, hcb, hof, hkn, hsz, hval⟩
    have K : W p l e room_1 s m #[Value.ref b] below meth c s₁.heap [] 0 0 (lw_Z below #[Value.ref b] s) (entryFrame m ([Value.ref b] : List Value).toArray 7) := by
      rw [hh0]
      exact whole_start l hflags hbd ⟨B.exec, B.bytes, B.returns, hml, hown, hts, hX, hbl, B.notSynchronized, hgv⟩
    obtain ⟨t, a1, o, b1, b2, b3⟩ := K s₁ rfl X₀
    exact ⟨t, o, a1, b1, b2, b3⟩
theorem lw_pre_spec {args : Array Value} {s : State} (h : (Jvm.Cond.and given_1 narrow_1).before args s = true) (hr : rest_1_c.before args s = true) : ∃ (b : Addr) (xs : List Int32), lw_P b xs args s := by
  have hs := flat_of_before _ h
  have hq := flat_of_before _ hr
  have hc : (Cond.count 1).before args s = true := hs _ (by decide +kernel)
  have harr : (Cond.arrayOf (.arg 0) .int).before args s = true := hs _ (by decide +kernel)
  have hle : (Cond.le (.length (.arg 0)) (.int 3584)).before args s = true := hs _ (by decide +kernel)
  have hlen : (Cond.isInt (.length (.arg 0))).before args s = true := hq _ (by decide +kernel)
  have hall : (Cond.all (.arg 0) (.isInt (.elem (.arg 0) (.index 0)))).before args s = true := hq _ (by decide +kernel)
  obtain ⟨b, xs, hb, hx⟩ := State.ints_of_pre rfl harr hlen hall
  have hsm : xs.length < 2 ^ 31 := hx.choose_spec.2.2.2
  have hev : (Term.length (.arg 0)).eval args s none [] s = some (.int xs.length.toInt32) := hx.length_eval hb
  have hv := Cond.le_ints hev (show (Term.int 3584).eval args s none [] s = some (.int 3584) from rfl)
  have hd : xs.length.toInt32 ≤ 3584 := by
    simpa [Cond.before, Cond.holds, hv] using hle
  have hN : xs.length ≤ 3584 := (Int32.ofNat_le_ofNat hsm (by decide)).mp (show Int32.ofNat xs.length ≤ Int32.ofNat 3584 from hd)
  exact ⟨b, xs, Cond.one_arg hc (show args[0]? = some (.ref b) from hb), hx, hN, h⟩
theorem lw_comes (l : Launch) (hflags : l.flags = flags0) : Comes l x (Jvm.Cond.code x code maxLocals ret :: tables_1) room_1 (fun tb e args s => Calls_1 tb e args s ∧ rest_1 tb e args s ∧ Pre_1 tb e args s)
    (fun _ _ args s o t => lw_Q args s o t) := by
  intro p e ha hc hk s m args below hf hfit hheap happ hpre
  obtain ⟨b, xs, hP⟩ := lw_pre_spec hpre.2.2 hpre.2.1
  obtain ⟨k, o, h1, h2, h3, hQ⟩ := lw_walk l hflags b xs p e ha hc hk s m args below hf ((Spec.applies_iff_loose hf).mp happ).1 hP trivial
  exact ⟨k, o, h1, h2, h3, hQ⟩
theorem lw_frame {s t : State} {o : Outcome} {args : Array Value} (h : Framed s o t [] 601024 7293034) :
    Framed s o t (fieldLocs frame_1_writes args s ++ arrayLocs frame_1_arrays args s ++ staticLocs frame_1_statics s) 601024 7293034 := h
theorem lw_limb (L : Cond) (hL : ∀ (args : Array Value) (s t : State), L.after args s (.returned (some (.int 1))) t = true) :
    ArmFor flags0 classFile x code maxLocals ret World_1 tables_1 room_1 Calls_1 rest_1 Pre_1
      (fun tb e a s o t => postC L tb e a s o t ∧ Framed s o t (fieldLocs frame_1_writes a s ++ arrayLocs frame_1_arrays a s ++ staticLocs frame_1_statics s) 601024 7293034) := by
  intro l hflags _ _ p e ha hc hk s m args below hf hfit hheap happ hpre
  obtain ⟨k, o, h1, h2, h3, rfl, hF⟩ := lw_comes l hflags p e ha hc hk s m args below hf hfit hheap happ hpre
  exact ⟨k, _, h1, h2, h3, hL args s _, lw_frame hF⟩
theorem i_vc : Claimed_1_1 ∧ Claimed_1_2 := ⟨lw_limb limb_1_1 (fun args s t => by simp [limb_1_1, Cond.after, Cond.holds, Cond.value]), lw_limb limb_1_2 (fun args s t => Cond.after_iff.mpr (by
  first | (rw [show limb_1_2 = Cond.eq .result (.int 1) from rfl, Cond.eq_ints (x := 1) (y := 1) rfl rfl]; simp; done) | (simp [limb_1_2, Cond.value, Term.eval]; done)))⟩
