/-! ===== one instruction each: arithmetic, branches, fields, arrays ===== -/
section AMSTEP2
variable {p : Program} {l : Launch} {e : Env} {R : Room} {s : State} {mi : MethodId} {args : Array Value} {below : List Frame} {meth : Method} {c : Code} {Q : State → Prop} {D : va_G} {ca : Nat → ClassId} {base : Nat} {KV : Nat → Value} {sc : Nat × (Nat → Int)} {n0 s0 : Nat} {m : am_M}
variable {pc : Nat} {ls st : List am_V} {h : am_H}
/-- two from the stack, one to it -/
theorem am_w2 {st : List am_V} {u v w : am_V} (ws : ∀ x ∈ u :: v :: st, am_wv x) (hw : am_wv w) : ∀ x ∈ w :: st, am_wv x := List.forall_mem_cons.mpr ⟨hw, fun x hx => ws x (List.mem_cons_of_mem _ (List.mem_cons_of_mem _ hx))⟩
theorem am_w1 {st : List am_V} {u w : am_V} (ws : ∀ x ∈ u :: st, am_wv x) (hw : am_wv w) : ∀ x ∈ w :: st, am_wv x := List.forall_mem_cons.mpr ⟨hw, fun x hx => ws x (List.mem_cons_of_mem _ hx)⟩
theorem am_wd {st : List am_V} {u : am_V} (ws : ∀ x ∈ u :: st, am_wv x) : ∀ x ∈ st, am_wv x := fun x hx => ws x (List.mem_cons_of_mem _ hx)
theorem am_wh0 {st : List am_V} {u : am_V} (ws : ∀ x ∈ u :: st, am_wv x) : am_wv u := ws u List.mem_cons_self
theorem am_s_iadd (C : am_Cx p R s mi args meth c D ca base KV sc m) {x y : Int} (hd : decode m.2.1 pc = .ok (.iadd, 1)) (k : am_Wt p l e R s mi args below meth c Q D ca base KV n0 s0 sc (pc + 1) ls (am_I (am_w (x + y)) :: st) h) : am_Wt p l e R s mi args below meth c Q D ca base KV n0 s0 sc pc ls (am_I y :: am_I x :: st) h :=
  fun wl ws H locs lc hR hS hL => by
    refine lv_iadd C.1 C.2.1 hd ?_
    have kk := k wl (am_w2 ws (am_i32_w _)) H locs lc hR hS hL
    have e : Int32.ofInt (am_w (x + y)) = Int32.ofInt x + Int32.ofInt y := by rw [am_w_of, Int32.ofInt_add]
    rw [← e]
    exact kk
theorem am_s_isub (C : am_Cx p R s mi args meth c D ca base KV sc m) {x y : Int} (hd : decode m.2.1 pc = .ok (.isub, 1)) (k : am_Wt p l e R s mi args below meth c Q D ca base KV n0 s0 sc (pc + 1) ls (am_I (am_w (x - y)) :: st) h) : am_Wt p l e R s mi args below meth c Q D ca base KV n0 s0 sc pc ls (am_I y :: am_I x :: st) h :=
  fun wl ws H locs lc hR hS hL => by
    refine lv_isub C.1 C.2.1 hd ?_
    have kk := k wl (am_w2 ws (am_i32_w _)) H locs lc hR hS hL
    have e : Int32.ofInt (am_w (x - y)) = Int32.ofInt x - Int32.ofInt y := by rw [am_w_of, Int32.ofInt_sub]
    rw [← e]
    exact kk
theorem am_s_imul (C : am_Cx p R s mi args meth c D ca base KV sc m) {x y : Int} (hd : decode m.2.1 pc = .ok (.imul, 1)) (k : am_Wt p l e R s mi args below meth c Q D ca base KV n0 s0 sc (pc + 1) ls (am_I (am_w (x * y)) :: st) h) : am_Wt p l e R s mi args below meth c Q D ca base KV n0 s0 sc pc ls (am_I y :: am_I x :: st) h :=
  fun wl ws H locs lc hR hS hL => by
    refine lv_imul C.1 C.2.1 hd ?_
    have kk := k wl (am_w2 ws (am_i32_w _)) H locs lc hR hS hL
    have e : Int32.ofInt (am_w (x * y)) = Int32.ofInt x * Int32.ofInt y := by rw [am_w_of, Int32.ofInt_mul]
    rw [← e]
    exact kk
theorem am_s_iand (C : am_Cx p R s mi args meth c D ca base KV sc m) {x y : Int} (hd : decode m.2.1 pc = .ok (.iand, 1)) (k : am_Wt p l e R s mi args below meth c Q D ca base KV n0 s0 sc (pc + 1) ls (am_I (am_and x y) :: st) h) : am_Wt p l e R s mi args below meth c Q D ca base KV n0 s0 sc pc ls (am_I y :: am_I x :: st) h :=
  fun wl ws H locs lc hR hS hL => by
    refine lv_iand C.1 C.2.1 hd ?_
    have kk := k wl (am_w2 ws (am_i32_toInt _)) H locs lc hR hS hL
    have e : Int32.ofInt (am_and x y) = Int32.ofInt x &&& Int32.ofInt y := Int32.ofInt_toInt _
    rw [← e]
    exact kk
theorem am_s_ior (C : am_Cx p R s mi args meth c D ca base KV sc m) {x y : Int} (hd : decode m.2.1 pc = .ok (.ior, 1)) (k : am_Wt p l e R s mi args below meth c Q D ca base KV n0 s0 sc (pc + 1) ls (am_I (am_or x y) :: st) h) : am_Wt p l e R s mi args below meth c Q D ca base KV n0 s0 sc pc ls (am_I y :: am_I x :: st) h :=
  fun wl ws H locs lc hR hS hL => by
    refine lv_ior C.1 C.2.1 hd ?_
    have kk := k wl (am_w2 ws (am_i32_toInt _)) H locs lc hR hS hL
    have e : Int32.ofInt (am_or x y) = Int32.ofInt x ||| Int32.ofInt y := Int32.ofInt_toInt _
    rw [← e]
    exact kk
theorem am_s_ishl (C : am_Cx p R s mi args meth c D ca base KV sc m) {x y : Int} (hd : decode m.2.1 pc = .ok (.ishl, 1)) (k : am_Wt p l e R s mi args below meth c Q D ca base KV n0 s0 sc (pc + 1) ls (am_I (am_shl x y) :: st) h) : am_Wt p l e R s mi args below meth c Q D ca base KV n0 s0 sc pc ls (am_I y :: am_I x :: st) h :=
  fun wl ws H locs lc hR hS hL => by
    refine lv_ishl C.1 C.2.1 hd ?_
    have kk := k wl (am_w2 ws (am_i32_toInt _)) H locs lc hR hS hL
    have e : Int32.ofInt (am_shl x y) = Int32.ofInt x <<< (Int32.ofInt y &&& 31) := Int32.ofInt_toInt _
    rw [← e]
    exact kk
theorem am_s_ishr (C : am_Cx p R s mi args meth c D ca base KV sc m) {x y : Int} (hd : decode m.2.1 pc = .ok (.ishr, 1)) (k : am_Wt p l e R s mi args below meth c Q D ca base KV n0 s0 sc (pc + 1) ls (am_I (am_shr x y) :: st) h) : am_Wt p l e R s mi args below meth c Q D ca base KV n0 s0 sc pc ls (am_I y :: am_I x :: st) h :=
  fun wl ws H locs lc hR hS hL => by
    refine lv_ishr C.1 C.2.1 hd ?_
    have kk := k wl (am_w2 ws (am_i32_toInt _)) H locs lc hR hS hL
    have e : Int32.ofInt (am_shr x y) = Int32.ofInt x >>> (Int32.ofInt y &&& 31) := Int32.ofInt_toInt _
    rw [← e]
    exact kk
theorem am_s_iushr (C : am_Cx p R s mi args meth c D ca base KV sc m) {x y : Int} (hd : decode m.2.1 pc = .ok (.iushr, 1)) (k : am_Wt p l e R s mi args below meth c Q D ca base KV n0 s0 sc (pc + 1) ls (am_I (am_ushr x y) :: st) h) : am_Wt p l e R s mi args below meth c Q D ca base KV n0 s0 sc pc ls (am_I y :: am_I x :: st) h :=
  fun wl ws H locs lc hR hS hL => lv_iushr C.1 C.2.1 hd (v := Int32.ofInt (am_ushr x y)) (Int32.ofInt_toInt _).symm (k wl (am_w2 ws (am_i32_toInt _)) H locs lc hR hS hL)
theorem am_s_idiv (C : am_Cx p R s mi args meth c D ca base KV sc m) {x y : Int} (hd : decode m.2.1 pc = .ok (.idiv, 1)) (hy : ¬ y = 0) (k : am_Wt p l e R s mi args below meth c Q D ca base KV n0 s0 sc (pc + 1) ls (am_I (am_div x y) :: st) h) : am_Wt p l e R s mi args below meth c Q D ca base KV n0 s0 sc pc ls (am_I y :: am_I x :: st) h :=
  fun wl ws H locs lc hR hS hL => by
    refine lv_idiv C.1 C.2.1 hd (fun q => hy ((am_eq (am_wh0 ws) am_i32_0).mp q)) ?_
    have kk := k wl (am_w2 ws (am_i32_toInt _)) H locs lc hR hS hL
    have e : Int32.ofInt (am_div x y) = Int32.ofInt x / Int32.ofInt y := Int32.ofInt_toInt _
    rw [← e]
    exact kk
theorem am_s_irem (C : am_Cx p R s mi args meth c D ca base KV sc m) {x y : Int} (hd : decode m.2.1 pc = .ok (.irem, 1)) (hy : ¬ y = 0) (k : am_Wt p l e R s mi args below meth c Q D ca base KV n0 s0 sc (pc + 1) ls (am_I (am_rem x y) :: st) h) : am_Wt p l e R s mi args below meth c Q D ca base KV n0 s0 sc pc ls (am_I y :: am_I x :: st) h :=
  fun wl ws H locs lc hR hS hL => by
    refine lv_irem C.1 C.2.1 hd (fun q => hy ((am_eq (am_wh0 ws) am_i32_0).mp q)) ?_
    have kk := k wl (am_w2 ws (am_i32_toInt _)) H locs lc hR hS hL
    have e : Int32.ofInt (am_rem x y) = Int32.ofInt x - Int32.ofInt x / Int32.ofInt y * Int32.ofInt y := Int32.ofInt_toInt _
    rw [← e]
    exact kk
theorem am_s_ladd (C : am_Cx p R s mi args meth c D ca base KV sc m) {x y : Int} (hd : decode m.2.1 pc = .ok (.ladd, 1)) (k : am_Wt p l e R s mi args below meth c Q D ca base KV n0 s0 sc (pc + 1) ls (am_L (am_q (x + y)) :: st) h) : am_Wt p l e R s mi args below meth c Q D ca base KV n0 s0 sc pc ls (am_L y :: am_L x :: st) h :=
  fun wl ws H locs lc hR hS hL => by
    refine lv_ladd C.1 C.2.1 hd ?_
    have kk := k wl (am_w2 ws (am_i64_q _)) H locs lc hR hS hL
    have e : Int64.ofInt (am_q (x + y)) = Int64.ofInt x + Int64.ofInt y := by rw [am_q_of, Int64.ofInt_add]
    rw [← e]
    exact kk
theorem am_s_lmul (C : am_Cx p R s mi args meth c D ca base KV sc m) {x y : Int} (hd : decode m.2.1 pc = .ok (.lmul, 1)) (k : am_Wt p l e R s mi args below meth c Q D ca base KV n0 s0 sc (pc + 1) ls (am_L (am_q (x * y)) :: st) h) : am_Wt p l e R s mi args below meth c Q D ca base KV n0 s0 sc pc ls (am_L y :: am_L x :: st) h :=
  fun wl ws H locs lc hR hS hL => by
    refine lv_lmul C.1 C.2.1 hd ?_
    have kk := k wl (am_w2 ws (am_i64_q _)) H locs lc hR hS hL
    have e : Int64.ofInt (am_q (x * y)) = Int64.ofInt x * Int64.ofInt y := by rw [am_q_of, Int64.ofInt_mul]
    rw [← e]
    exact kk
theorem am_s_land (C : am_Cx p R s mi args meth c D ca base KV sc m) {x y : Int} (hd : decode m.2.1 pc = .ok (.land, 1)) (k : am_Wt p l e R s mi args below meth c Q D ca base KV n0 s0 sc (pc + 1) ls (am_L (am_land x y) :: st) h) : am_Wt p l e R s mi args below meth c Q D ca base KV n0 s0 sc pc ls (am_L y :: am_L x :: st) h :=
  fun wl ws H locs lc hR hS hL => by
    refine lv_land C.1 C.2.1 hd ?_
    have kk := k wl (am_w2 ws (am_i64_toInt _)) H locs lc hR hS hL
    have e : Int64.ofInt (am_land x y) = Int64.ofInt x &&& Int64.ofInt y := Int64.ofInt_toInt _
    rw [← e]
    exact kk
theorem am_s_lor (C : am_Cx p R s mi args meth c D ca base KV sc m) {x y : Int} (hd : decode m.2.1 pc = .ok (.lor, 1)) (k : am_Wt p l e R s mi args below meth c Q D ca base KV n0 s0 sc (pc + 1) ls (am_L (am_lor x y) :: st) h) : am_Wt p l e R s mi args below meth c Q D ca base KV n0 s0 sc pc ls (am_L y :: am_L x :: st) h :=
  fun wl ws H locs lc hR hS hL => by
    refine lv_lor C.1 C.2.1 hd ?_
    have kk := k wl (am_w2 ws (am_i64_toInt _)) H locs lc hR hS hL
    have e : Int64.ofInt (am_lor x y) = Int64.ofInt x ||| Int64.ofInt y := Int64.ofInt_toInt _
    rw [← e]
    exact kk
theorem am_i64_0 : am_i64 0 := ⟨by omega, by omega⟩
theorem am_s_ldiv (C : am_Cx p R s mi args meth c D ca base KV sc m) {x y : Int} (hd : decode m.2.1 pc = .ok (.ldiv, 1)) (hy : ¬ y = 0) (k : am_Wt p l e R s mi args below meth c Q D ca base KV n0 s0 sc (pc + 1) ls (am_L (am_ldiv x y) :: st) h) : am_Wt p l e R s mi args below meth c Q D ca base KV n0 s0 sc pc ls (am_L y :: am_L x :: st) h :=
  fun wl ws H locs lc hR hS hL => by
    refine lv_ldiv C.1 C.2.1 hd (fun q => hy ((am_eq64 (am_wh0 ws) am_i64_0).mp q)) ?_
    have kk := k wl (am_w2 ws (am_i64_toInt _)) H locs lc hR hS hL
    have e : Int64.ofInt (am_ldiv x y) = Int64.ofInt x / Int64.ofInt y := Int64.ofInt_toInt _
    rw [← e]
    exact kk
theorem am_s_lrem (C : am_Cx p R s mi args meth c D ca base KV sc m) {x y : Int} (hd : decode m.2.1 pc = .ok (.lrem, 1)) (hy : ¬ y = 0) (k : am_Wt p l e R s mi args below meth c Q D ca base KV n0 s0 sc (pc + 1) ls (am_L (am_lrem x y) :: st) h) : am_Wt p l e R s mi args below meth c Q D ca base KV n0 s0 sc pc ls (am_L y :: am_L x :: st) h :=
  fun wl ws H locs lc hR hS hL => by
    refine lv_lrem C.1 C.2.1 hd (fun q => hy ((am_eq64 (am_wh0 ws) am_i64_0).mp q)) ?_
    have kk := k wl (am_w2 ws (am_i64_toInt _)) H locs lc hR hS hL
    have e : Int64.ofInt (am_lrem x y) = Int64.ofInt x - Int64.ofInt x / Int64.ofInt y * Int64.ofInt y := Int64.ofInt_toInt _
    rw [← e]
    exact kk
theorem am_s_lshl (C : am_Cx p R s mi args meth c D ca base KV sc m) {x y : Int} (hd : decode m.2.1 pc = .ok (.lshl, 1)) (k : am_Wt p l e R s mi args below meth c Q D ca base KV n0 s0 sc (pc + 1) ls (am_L (am_lshl x y) :: st) h) : am_Wt p l e R s mi args below meth c Q D ca base KV n0 s0 sc pc ls (am_I y :: am_L x :: st) h :=
  fun wl ws H locs lc hR hS hL => lv_lshl C.1 C.2.1 hd (v := Int64.ofInt (am_lshl x y)) (Int64.ofInt_toInt _).symm (k wl (am_w2 ws (am_i64_toInt _)) H locs lc hR hS hL)
theorem am_s_lushr (C : am_Cx p R s mi args meth c D ca base KV sc m) {x y : Int} (hd : decode m.2.1 pc = .ok (.lushr, 1)) (k : am_Wt p l e R s mi args below meth c Q D ca base KV n0 s0 sc (pc + 1) ls (am_L (am_lushr x y) :: st) h) : am_Wt p l e R s mi args below meth c Q D ca base KV n0 s0 sc pc ls (am_I y :: am_L x :: st) h :=
  fun wl ws H locs lc hR hS hL => lv_lushr C.1 C.2.1 hd (v := Int64.ofInt (am_lushr x y)) (Int64.ofInt_toInt _).symm (k wl (am_w2 ws (am_i64_toInt _)) H locs lc hR hS hL)
theorem am_s_lcmp (C : am_Cx p R s mi args meth c D ca base KV sc m) {x y : Int} (hd : decode m.2.1 pc = .ok (.lcmp, 1)) (k : am_Wt p l e R s mi args below meth c Q D ca base KV n0 s0 sc (pc + 1) ls (am_I (am_lcmp x y) :: st) h) : am_Wt p l e R s mi args below meth c Q D ca base KV n0 s0 sc pc ls (am_L y :: am_L x :: st) h :=
  fun wl ws H locs lc hR hS hL => by
    refine W.lcmp C.1 C.2.1 hd ?_
    rw [am_lcmp_of (am_wh0 (am_wd ws)) (am_wh0 ws)]
    exact k wl (am_w2 ws (show am_i32 (am_lcmp x y) from by unfold am_lcmp; split; exact ⟨by omega, by omega⟩; split; exact ⟨by omega, by omega⟩; exact ⟨by omega, by omega⟩)) H locs lc hR hS hL
theorem am_s_i2l (C : am_Cx p R s mi args meth c D ca base KV sc m) {x : Int} (hd : decode m.2.1 pc = .ok (.i2l, 1)) (k : am_Wt p l e R s mi args below meth c Q D ca base KV n0 s0 sc (pc + 1) ls (am_L x :: st) h) : am_Wt p l e R s mi args below meth c Q D ca base KV n0 s0 sc pc ls (am_I x :: st) h :=
  fun wl ws H locs lc hR hS hL => lv_i2l C.1 C.2.1 hd (v := Int64.ofInt x) (am_i2l_of (am_wh0 ws)) (k wl (am_w1 ws (show am_i64 x from by have h2 : am_i32 x := am_wh0 ws; exact ⟨by have := h2.1; omega, by have := h2.2; omega⟩)) H locs lc hR hS hL)
theorem am_s_l2i (C : am_Cx p R s mi args meth c D ca base KV sc m) {x : Int} (hd : decode m.2.1 pc = .ok (.l2i, 1)) (k : am_Wt p l e R s mi args below meth c Q D ca base KV n0 s0 sc (pc + 1) ls (am_I (am_w x) :: st) h) : am_Wt p l e R s mi args below meth c Q D ca base KV n0 s0 sc pc ls (am_L x :: st) h :=
  fun wl ws H locs lc hR hS hL => lv_l2i C.1 C.2.1 hd (v := Int32.ofInt (am_w x)) (am_l2i_of (am_wh0 ws)) (k wl (am_w1 ws (am_i32_w _)) H locs lc hR hS hL)
theorem am_s_i2b (C : am_Cx p R s mi args meth c D ca base KV sc m) {x : Int} (hd : decode m.2.1 pc = .ok (.i2b, 1)) (k : am_Wt p l e R s mi args below meth c Q D ca base KV n0 s0 sc (pc + 1) ls (am_I (am_i2b x) :: st) h) : am_Wt p l e R s mi args below meth c Q D ca base KV n0 s0 sc pc ls (am_I x :: st) h :=
  fun wl ws H locs lc hR hS hL => lv_i2b C.1 C.2.1 hd (v := Int32.ofInt (am_i2b x)) (Int32.ofInt_toInt _).symm (k wl (am_w1 ws (am_i32_toInt _)) H locs lc hR hS hL)
theorem am_s_i2c (C : am_Cx p R s mi args meth c D ca base KV sc m) {x : Int} (hd : decode m.2.1 pc = .ok (.i2c, 1)) (k : am_Wt p l e R s mi args below meth c Q D ca base KV n0 s0 sc (pc + 1) ls (am_I (am_i2c x) :: st) h) : am_Wt p l e R s mi args below meth c Q D ca base KV n0 s0 sc pc ls (am_I x :: st) h :=
  fun wl ws H locs lc hR hS hL => lv_i2c C.1 C.2.1 hd (v := Int32.ofInt (am_i2c x)) (Int32.ofInt_toInt _).symm (k wl (am_w1 ws (am_i32_toInt _)) H locs lc hR hS hL)
theorem am_cat_cv (hKV : ∀ k, KV k = .null ∨ ∃ a, KV k = .ref a) (v : am_V) : (am_cv base KV v).category = am_cat v := by
  rcases v with x | x | x | x
  · rfl
  · rfl
  · rfl
  · show (KV x).category = 1
    rcases hKV x with q | ⟨a, q⟩ <;> rw [q] <;> rfl
theorem am_s_dup (C : am_Cx p R s mi args meth c D ca base KV sc m) {v : am_V} (hd : decode m.2.1 pc = .ok (.dup, 1)) (hv : am_cat v = 1) (k : am_Wt p l e R s mi args below meth c Q D ca base KV n0 s0 sc (pc + 1) ls (v :: v :: st) h) : am_Wt p l e R s mi args below meth c Q D ca base KV n0 s0 sc pc ls (v :: st) h :=
  fun wl ws H locs lc hR hS hL => lv_dup C.1 C.2.1 hd (by rw [am_cat_cv C.kv]; exact hv) (k wl (List.forall_mem_cons.mpr ⟨am_wh0 ws, ws⟩) H locs lc hR hS hL)
theorem am_s_pop (C : am_Cx p R s mi args meth c D ca base KV sc m) {v : am_V} (hd : decode m.2.1 pc = .ok (.pop, 1)) (hv : am_cat v = 1) (k : am_Wt p l e R s mi args below meth c Q D ca base KV n0 s0 sc (pc + 1) ls st h) : am_Wt p l e R s mi args below meth c Q D ca base KV n0 s0 sc pc ls (v :: st) h :=
  fun wl ws H locs lc hR hS hL => lv_pop C.1 C.2.1 hd (by rw [am_cat_cv C.kv]; exact hv) (k wl (am_wd ws) H locs lc hR hS hL)
theorem am_s_dup2 (C : am_Cx p R s mi args meth c D ca base KV sc m) {v w : am_V} (hd : decode m.2.1 pc = .ok (.dup2, 1)) (hv : am_cat v = 1) (hw : am_cat w = 1) (k : am_Wt p l e R s mi args below meth c Q D ca base KV n0 s0 sc (pc + 1) ls (v :: w :: v :: w :: st) h) : am_Wt p l e R s mi args below meth c Q D ca base KV n0 s0 sc pc ls (v :: w :: st) h :=
  fun wl ws H locs lc hR hS hL => lv_dup2_11 C.1 C.2.1 hd (by rw [am_cat_cv C.kv]; exact hv) (by rw [am_cat_cv C.kv]; exact hw) (k wl (List.forall_mem_cons.mpr ⟨am_wh0 ws, List.forall_mem_cons.mpr ⟨am_wh0 (am_wd ws), ws⟩⟩) H locs lc hR hS hL)
/-! branches -/
theorem am_tgt_eq {pc : Nat} {off : Int} (h : 0 ≤ (pc : Int) + off) : (pc : Int) + off = (am_tgt pc off : Int) := by
  unfold am_tgt
  omega
theorem am_s_icmp (C : am_Cx p R s mi args meth c D ca base KV sc m) {cn : ClassFile.Cond} {off : Int} {x y : Int} (hd : decode m.2.1 pc = .ok (.if_icmp cn off, 3)) (ho : 0 ≤ (pc : Int) + off) (kt : am_cnd cn x y = true → am_Wt p l e R s mi args below meth c Q D ca base KV n0 s0 sc (am_tgt pc off) ls st h) (kf : am_cnd cn x y = false → am_Wt p l e R s mi args below meth c Q D ca base KV n0 s0 sc (pc + 3) ls st h) : am_Wt p l e R s mi args below meth c Q D ca base KV n0 s0 sc pc ls (am_I y :: am_I x :: st) h :=
  fun wl ws H locs lc hR hS hL => by
    have hy : am_i32 y := am_wh0 ws
    have hx : am_i32 x := am_wh0 (am_wd ws)
    have kt' := fun q => kt q wl (am_wd (am_wd ws)) H locs lc hR hS hL
    have kf' := fun q => kf q wl (am_wd (am_wd ws)) H locs lc hR hS hL
    cases cn with
    | eq => exact lv_icmp_eq C.1 C.2.1 hd (am_tgt_eq ho) (fun q => kt' (decide_eq_true ((am_eq hx hy).mp q))) (fun q => kf' (decide_eq_false (fun z => q ((am_eq hx hy).mpr z))))
    | ne => exact lv_icmp_ne C.1 C.2.1 hd (am_tgt_eq ho) (fun q => kt' (decide_eq_true (fun z => q ((am_eq hx hy).mpr z)))) (fun q => kf' (decide_eq_false (fun z => z ((am_eq hx hy).mp q))))
    | lt => exact lv_icmp_lt C.1 C.2.1 hd (am_tgt_eq ho) (fun q => kt' (decide_eq_true ((am_lt hx hy).mp q))) (fun q => kf' (decide_eq_false (fun z => q ((am_lt hx hy).mpr z))))
    | ge => exact lv_icmp_ge C.1 C.2.1 hd (am_tgt_eq ho) (fun q => kt' (decide_eq_true ((am_le hy hx).mp q))) (fun q => kf' (decide_eq_false (fun z => q ((am_le hy hx).mpr z))))
    | gt => exact lv_icmp_gt C.1 C.2.1 hd (am_tgt_eq ho) (fun q => kt' (decide_eq_true ((am_lt hy hx).mp q))) (fun q => kf' (decide_eq_false (fun z => q ((am_lt hy hx).mpr z))))
    | le => exact lv_icmp_le C.1 C.2.1 hd (am_tgt_eq ho) (fun q => kt' (decide_eq_true ((am_le hx hy).mp q))) (fun q => kf' (decide_eq_false (fun z => q ((am_le hx hy).mpr z))))
theorem am_s_if (C : am_Cx p R s mi args meth c D ca base KV sc m) {cn : ClassFile.Cond} {off : Int} {x : Int} (hd : decode m.2.1 pc = .ok (.ifCond cn off, 3)) (ho : 0 ≤ (pc : Int) + off) (kt : am_cnd cn x 0 = true → am_Wt p l e R s mi args below meth c Q D ca base KV n0 s0 sc (am_tgt pc off) ls st h) (kf : am_cnd cn x 0 = false → am_Wt p l e R s mi args below meth c Q D ca base KV n0 s0 sc (pc + 3) ls st h) : am_Wt p l e R s mi args below meth c Q D ca base KV n0 s0 sc pc ls (am_I x :: st) h :=
  fun wl ws H locs lc hR hS hL => by
    have hx : am_i32 x := am_wh0 ws
    have hy := am_i32_0
    have kt' := fun q => kt q wl (am_wd ws) H locs lc hR hS hL
    have kf' := fun q => kf q wl (am_wd ws) H locs lc hR hS hL
    cases cn with
    | eq => exact lv_if_eq C.1 C.2.1 hd (am_tgt_eq ho) (fun q => kt' (decide_eq_true ((am_eq hx hy).mp q))) (fun q => kf' (decide_eq_false (fun z => q ((am_eq hx hy).mpr z))))
    | ne => exact lv_if_ne C.1 C.2.1 hd (am_tgt_eq ho) (fun q => kt' (decide_eq_true (fun z => q ((am_eq hx hy).mpr z)))) (fun q => kf' (decide_eq_false (fun z => z ((am_eq hx hy).mp q))))
    | lt => exact lv_if_lt C.1 C.2.1 hd (am_tgt_eq ho) (fun q => kt' (decide_eq_true ((am_lt hx hy).mp q))) (fun q => kf' (decide_eq_false (fun z => q ((am_lt hx hy).mpr z))))
    | ge => exact lv_if_ge C.1 C.2.1 hd (am_tgt_eq ho) (fun q => kt' (decide_eq_true ((am_le hy hx).mp q))) (fun q => kf' (decide_eq_false (fun z => q ((am_le hy hx).mpr z))))
    | gt => exact lv_if_gt C.1 C.2.1 hd (am_tgt_eq ho) (fun q => kt' (decide_eq_true ((am_lt hy hx).mp q))) (fun q => kf' (decide_eq_false (fun z => q ((am_lt hy hx).mpr z))))
    | le => exact lv_if_le C.1 C.2.1 hd (am_tgt_eq ho) (fun q => kt' (decide_eq_true ((am_le hx hy).mp q))) (fun q => kf' (decide_eq_false (fun z => q ((am_le hx hy).mpr z))))
theorem am_s_goto (C : am_Cx p R s mi args meth c D ca base KV sc m) {off : Int} (hd : decode m.2.1 pc = .ok (.goto off, 3)) (ho : 0 ≤ (pc : Int) + off) (k : am_Wt p l e R s mi args below meth c Q D ca base KV n0 s0 sc (am_tgt pc off) ls st h) : am_Wt p l e R s mi args below meth c Q D ca base KV n0 s0 sc pc ls st h :=
  fun wl ws H locs lc hR hS hL => lv_goto C.1 C.2.1 hd (am_tgt_eq ho) (k wl ws H locs lc hR hS hL)
theorem am_s_ifnull (C : am_Cx p R s mi args meth c D ca base KV sc m) {off : Int} {x : Nat} (hd : decode m.2.1 pc = .ok (.ifnull off, 3)) (k : am_Wt p l e R s mi args below meth c Q D ca base KV n0 s0 sc (pc + 3) ls st h) : am_Wt p l e R s mi args below meth c Q D ca base KV n0 s0 sc pc ls (am_R x :: st) h :=
  fun wl ws H locs lc hR hS hL => lv_ifnull C.1 C.2.1 hd (k wl (am_wd ws) H locs lc hR hS hL)
theorem am_s_ifnullN (C : am_Cx p R s mi args meth c D ca base KV sc m) {off : Int} (hd : decode m.2.1 pc = .ok (.ifnull off, 3)) (ho : 0 ≤ (pc : Int) + off) (k : am_Wt p l e R s mi args below meth c Q D ca base KV n0 s0 sc (am_tgt pc off) ls st h) : am_Wt p l e R s mi args below meth c Q D ca base KV n0 s0 sc pc ls (am_K 0 :: st) h :=
  fun wl ws H locs lc hR hS hL => by
    show W p l e R s mi args below meth c H locs (h.2.1 - n0) (h.2.2.1 - s0) Q (F0 mi pc lc (KV 0 :: st.map (am_cv base KV)))
    rw [C.2.2.2.2.2.2.1.2.1]
    exact lv_ifnullN C.1 C.2.1 hd (am_tgt_eq ho) (k wl (am_wd ws) H locs lc hR hS hL)
theorem am_s_ifnonnull (C : am_Cx p R s mi args meth c D ca base KV sc m) {off : Int} {x : Nat} (hd : decode m.2.1 pc = .ok (.ifnonnull off, 3)) (ho : 0 ≤ (pc : Int) + off) (k : am_Wt p l e R s mi args below meth c Q D ca base KV n0 s0 sc (am_tgt pc off) ls st h) : am_Wt p l e R s mi args below meth c Q D ca base KV n0 s0 sc pc ls (am_R x :: st) h :=
  fun wl ws H locs lc hR hS hL => lv_ifnonnull C.1 C.2.1 hd (am_tgt_eq ho) (k wl (am_wd ws) H locs lc hR hS hL)
theorem am_s_ifnonnullN (C : am_Cx p R s mi args meth c D ca base KV sc m) {off : Int} (hd : decode m.2.1 pc = .ok (.ifnonnull off, 3)) (k : am_Wt p l e R s mi args below meth c Q D ca base KV n0 s0 sc (pc + 3) ls st h) : am_Wt p l e R s mi args below meth c Q D ca base KV n0 s0 sc pc ls (am_K 0 :: st) h :=
  fun wl ws H locs lc hR hS hL => by
    show W p l e R s mi args below meth c H locs (h.2.1 - n0) (h.2.2.1 - s0) Q (F0 mi pc lc (KV 0 :: st.map (am_cv base KV)))
    rw [C.2.2.2.2.2.2.1.2.1]
    exact lv_ifnonnullN C.1 C.2.1 hd (k wl (am_wd ws) H locs lc hR hS hL)
theorem am_s_tsw (C : am_Cx p R s mi args meth c D ca base KV sc m) {dflt lo hi : Int} {offs : Array Int} {len : Nat} {x : Int} (hd : decode m.2.1 pc = .ok (.tableswitch dflt lo hi offs, len)) (hlo : lo ≤ hi) (hsz : offs.size = (hi - lo + 1).toNat) (ho : 0 ≤ (pc : Int) + dflt) (hos : ∀ o ∈ offs.toList, 0 ≤ (pc : Int) + o) (k : am_Wt p l e R s mi args below meth c Q D ca base KV n0 s0 sc (am_tsw pc dflt lo hi offs x) ls st h) : am_Wt p l e R s mi args below meth c Q D ca base KV n0 s0 sc pc ls (am_I x :: st) h :=
  fun wl ws H locs lc hR hS hL => by
    have hx : am_i32 x := am_wh0 ws
    have kk := k wl (am_wd ws) H locs lc hR hS hL
    unfold am_tsw at kk
    by_cases q : x < lo ∨ hi < x
    · rw [if_pos q] at kk
      exact lv_tableOut C.1 C.2.1 hd (by rw [am_toInt hx]; exact q) (am_tgt_eq ho) kk
    · rw [if_neg q] at kk
      have hlt : (x - lo).toNat < offs.size := by omega
      have hget : offs[(x - lo).toNat]? = some offs[(x - lo).toNat] := Array.getElem?_eq_getElem hlt
      have e : offs.getD (x - lo).toNat 0 = offs[(x - lo).toNat] := by rw [Array.getD_eq_getD_getElem?, hget]; rfl
      rw [e] at kk
      exact lv_tableIn C.1 C.2.1 hd (by rw [am_toInt hx]; omega) (by rw [am_toInt hx]; omega) (off := offs[(x - lo).toNat]) (by rw [am_toInt hx]; exact hget) (am_tgt_eq (hos _ (by simp))) kk
theorem am_s_lsw (C : am_Cx p R s mi args meth c D ca base KV sc m) {dflt : Int} {ps : Array (Int × Int)} {len : Nat} {x : Int} (hd : decode m.2.1 pc = .ok (.lookupswitch dflt ps, len)) (hp : (ps.toList.zip (ps.toList.drop 1)).all (fun (a, next) => decide (a.1 < next.1)) = true) (ho : 0 ≤ (pc : Int) + Op.lookupswitch.offset ps.toList dflt x) (k : am_Wt p l e R s mi args below meth c Q D ca base KV n0 s0 sc (am_lsw pc dflt ps x) ls st h) : am_Wt p l e R s mi args below meth c Q D ca base KV n0 s0 sc pc ls (am_I x :: st) h :=
  fun wl ws H locs lc hR hS hL => by
    have hx : am_i32 x := am_wh0 ws
    exact lv_lookup C.1 C.2.1 hd hp (by rw [am_toInt hx]) (am_tgt_eq ho) (k wl (am_wd ws) H locs lc hR hS hL)
end AMSTEP2
