/-! ===== constant arrays, making, copies, Math, Object's maker ===== -/
theorem am_kar_small (t : Nat) : (am_kar t).2.all (fun y => decide (-128 ≤ y) && decide (y < 1000)) = true := by
  unfold am_kar
  split <;> rfl
theorem am_kar_byte (t : Nat) (h : (am_kar t).1 = 1) : (am_kar t).2.all (fun y => decide (-128 ≤ y) && decide (y < 128)) = true := by
  unfold am_kar at h ⊢
  split at h <;> first | rfl | cases h
section AMSTEP5
variable {p : Program} {l : Launch} {e : Env} {R : Room} {s : State} {mi : MethodId} {args : Array Value} {below : List Frame} {meth : Method} {c : Code} {Q : State → Prop} {D : va_G} {ca : Nat → ClassId} {base : Nat} {KV : Nat → Value} {sc : Nat × (Nat → Int)} {n0 s0 : Nat} {m : am_M}
variable {pc : Nat} {ls st : List am_V} {h : am_H}
theorem am_kar_i32 {t : Nat} {x : Int} (h : x ∈ (am_kar t).2) : am_i32 x := by
  have h1 := List.all_eq_true.mp (am_kar_small t) x h
  simp only [Bool.and_eq_true, decide_eq_true_eq] at h1
  exact ⟨by omega, by omega⟩
theorem am_s_tbald (C : am_Cx p R s mi args meth c D ca base KV sc m) (hd : decode m.2.1 pc = .ok (.baload, 1)) {t : Nat} {j x : Int} (hx : am_rk h t 1 j = some x) (k : am_Wt p l e R s mi args below meth c Q D ca base KV n0 s0 sc (pc + 1) ls (am_I x :: st) h) : am_Wt p l e R s mi args below meth c Q D ca base KV n0 s0 sc pc ls (am_I j :: am_K t :: st) h :=
  fun wl ws H locs lc hR hS hL => by
    have hj : am_i32 j := am_wh0 ws
    show W p l e R s mi args below meth c H locs (h.2.1 - n0) (h.2.2.1 - s0) Q (F0 mi pc lc (.int (Int32.ofInt j) :: KV t :: st.map (am_cv base KV)))
    obtain ⟨-, -, -, -, -, -, -, g8, -⟩ := C.2.2.2.2.2.2.1
    unfold am_rk at hx
    by_cases q : t = 2
    · subst q
      rw [if_pos rfl, if_neg (fun z => by cases z.1)] at hx
      cases hx
    · rw [if_neg q] at hx
      by_cases z : (am_kar t).1 = 1 ∧ 0 ≤ j
      · rw [if_pos z] at hx
        obtain ⟨a, e1, e2⟩ := g8 t z.1
        have hlt : j.toNat < (am_kar t).2.length := (List.getElem?_eq_some_iff.mp hx).1
        rw [e1]
        refine va_tb C.1 C.2.1 e2 hS (am_in hj z.2 (by omega)) (v := .int (Int32.ofInt x)) (by rw [am_clamp hj, List.getD_eq_getElem?_getD, hx]; rfl) hd ?_
        exact k wl (am_w2 ws (am_kar_i32 (List.mem_of_getElem? hx))) H locs lc hR hS hL
      · rw [if_neg z] at hx; cases hx
theorem am_s_tlen (C : am_Cx p R s mi args meth c D ca base KV sc m) (hd : decode m.2.1 pc = .ok (.arraylength, 1)) {t : Nat} {x : Int} (hx : am_lenk h t = some x) (k : am_Wt p l e R s mi args below meth c Q D ca base KV n0 s0 sc (pc + 1) ls (am_I x :: st) h) : am_Wt p l e R s mi args below meth c Q D ca base KV n0 s0 sc pc ls (am_K t :: st) h :=
  fun wl ws H locs lc hR hS hL => by
    show W p l e R s mi args below meth c H locs (h.2.1 - n0) (h.2.2.1 - s0) Q (F0 mi pc lc (KV t :: st.map (am_cv base KV)))
    obtain ⟨-, -, -, -, -, ⟨g1, g2, t6, g3, g4⟩, g7, g8, -⟩ := C.2.2.2.2.2.2.1
    unfold am_lenk at hx
    by_cases q : t = 2
    · subst q
      rw [if_pos rfl] at hx
      cases hx
      have hsc : h.2.2.2 = sc := hR.2.1
      rw [g3]
      refine va_tlen C.1 C.2.1 g4 hS (v := Int32.ofInt (h.2.2.2.1 : Int)) (by rw [hsc]; rfl) hd ?_
      exact k wl (am_w1 ws (show am_i32 _ from by rw [hsc]; constructor <;> omega)) H locs lc hR hS hL
    · rw [if_neg q] at hx
      by_cases z : (am_kar t).1 = 9
      · rw [if_pos z] at hx; cases hx
      · rw [if_neg z] at hx
        cases hx
        have hl : (am_kar t).2.length ≤ 16 := by unfold am_kar; split <;> simp
        have kk := k wl (am_w1 ws (⟨by omega, by omega⟩ : am_i32 ((am_kar t).2.length : Int))) H locs lc hR hS hL
        have h01 : (am_kar t).1 = 0 ∨ (am_kar t).1 = 1 := by
          unfold am_kar at z ⊢
          split <;> first | exact Or.inl rfl | exact Or.inr rfl | (exfalso; rename_i h1; revert z; simp)
        rcases h01 with z0 | z1
        · obtain ⟨a, e1, e2⟩ := g7 t z0
          rw [e1]
          exact va_tlen C.1 C.2.1 e2 hS (v := Int32.ofInt ((am_kar t).2.length : Int)) rfl hd kk
        · obtain ⟨a, e1, e2⟩ := g8 t z1
          rw [e1]
          exact va_tlen C.1 C.2.1 e2 hS (v := Int32.ofInt ((am_kar t).2.length : Int)) rfl hd kk
/-! making: the room is the callers' to say -/
theorem am_va_push {H H1 : Heap} {locs : List Loc} (hS : va_S (fun q => base ≤ q) s.heap H locs) (hz : H1.size = H.size + 1) (ho : ∀ q, q < H.size → H1[q]? = H[q]?) : va_S (fun q => base ≤ q) s.heap H1 locs :=
  ⟨Nat.le_trans hS.1 (by omega), fun x h1 h2 => (ho x (Nat.lt_of_lt_of_le h1 hS.1)).trans (hS.2.1 x h1 h2), hS.2.2⟩
theorem am_s_new (C : am_Cx p R s mi args meth c D ca base KV sc m) {idx ci : Nat} {q1 q2 q3 : Int} (hd : decode m.2.1 pc = .ok (.new idx, 3)) (hci : ci < 10) (w1 : am_W q1 (.classLink m.1.cls idx (am_cl0 ci))) (w2 : am_W q2 (.instantiable (am_cl0 ci) (am_clN ci))) (w3 : am_W q3 (.initialized (am_cl0 ci)))
    (hn0 : n0 ≤ h.2.1) (hs0 : s0 ≤ h.2.2.1) (hcells : h.2.1 + 1 - n0 ≤ R.cells) (hslots : h.2.2.1 + am_clN ci - s0 ≤ R.slots) (k : am_Wt p l e R s mi args below meth c Q D ca base KV n0 s0 sc (pc + 3) ls (am_R h.2.1 :: st) (am_push h (am_ob ci (am_dfl ci)) (am_clN ci))) : am_Wt p l e R s mi args below meth c Q D ca base KV n0 s0 sc pc ls st h :=
  fun wl ws H locs lc hR hS hL => by
    have hK : va_K D am_cls (am_tys ca) s := C.2.2.2.2.2.1
    have hKn := hK.1 ci _ (am_cl_at hci)
    refine W.newcK C.1 C.2.1 C.2.2.2.1 (C.word w1 rfl) (C.word w2 rfl) (C.word w3 rfl) rfl hd (by omega) (by omega) hKn.2.1 (h := base + h.2.1) hR.1 (fun H' kC hkC e1 z1 o1 => ?_)
    have hob := (u_born (am_ft ci) C.2.2.2.2.1 (am_uws hci) hKn hkC e1 (am_tyok hci)).to (am_dfok hci (base := base) (KV := KV) C.2.2.2.2.2.2.1.2.1)
    have hR' : am_Rep D ca base KV sc (am_push h (am_ob ci (am_dfl ci)) (am_clN ci)) H' := hR.push (c := am_ob ci (am_dfl ci)) (am_dfl_wf ci) ⟨hci, am_dfl_len hci, hob⟩ (by rw [hR.1]; exact z1) (by rw [hR.1]; exact o1)
    have kk := k wl (List.forall_mem_cons.mpr ⟨trivial, ws⟩) H' locs lc hR' (am_va_push hS (by rw [hR.1]; exact z1) (by rw [hR.1]; exact o1)) hL
    have e2 : (am_push h (am_ob ci (am_dfl ci)) (am_clN ci)).2.1 - n0 = h.2.1 - n0 + 1 := by show h.2.1 + 1 - n0 = _; omega
    have e3 : (am_push h (am_ob ci (am_dfl ci)) (am_clN ci)).2.2.1 - s0 = h.2.2.1 - s0 + am_clN ci := by show h.2.2.1 + am_clN ci - s0 = _; omega
    rw [e2, e3] at kk
    exact kk
theorem am_s_newa (C : am_Cx p R s mi args meth c D ca base KV sc m) {t : ArrayType} {q1 : Int} {n : Int} (hd : decode m.2.1 pc = .ok (.newarray t, 2)) (ht : am_ty t < 9) (w1 : am_W q1 (.arrayClass (newarray.typeOf t))) (hn : 0 ≤ n) (hn2 : n ≤ 100000)
    (hn0 : n0 ≤ h.2.1) (hs0 : s0 ≤ h.2.2.1) (hcells : h.2.1 + 1 - n0 ≤ R.cells) (hslots : h.2.2.1 + n.toNat - s0 ≤ R.slots) (k : am_Wt p l e R s mi args below meth c Q D ca base KV n0 s0 sc (pc + 2) ls (am_R h.2.1 :: st) (am_push h (am_ar (am_ty t) n.toNat (fun _ => 0)) n.toNat)) : am_Wt p l e R s mi args below meth c Q D ca base KV n0 s0 sc pc ls (am_I n :: st) h :=
  fun wl ws H locs lc hR hS hL => by
    have hnn : am_i32 n := am_wh0 ws
    have hK : va_K D am_cls (am_tys ca) s := C.2.2.2.2.2.1
    refine va_newaK (N := n.toNat) C.1 C.2.1 (C.word w1 rfl) rfl hd rfl (fun q => by have := (am_lt hnn am_i32_0).mp q; omega) (am_clamp hnn) ?_ (by omega) (by omega) (h := base + h.2.1) hR.1 (fun H' cA e1 z1 o1 hA hf => ?_)
    · have hb : componentBytes (newarray.typeOf t) ≤ 8 := by cases t <;> decide
      calc n.toNat * componentBytes (newarray.typeOf t) ≤ 100000 * 8 := Nat.mul_le_mul (by omega) hb
        _ ≤ 536870912 := by omega
    · have hid : am_ty t < 3 ∧ cA = ca (am_ty t) ∧ (fun _ : Nat => defaultValue (newarray.typeOf t)) = (fun _ => am_el (am_ty t) 0) ∧ am_wk (am_ty t) 0 := by
        cases t with
        | int => exact ⟨by decide, Option.some.inj (hf.symm.trans (hK.2 0 _ rfl).2), rfl, am_i32_0⟩
        | byte => exact ⟨by decide, Option.some.inj (hf.symm.trans (hK.2 1 _ rfl).2), rfl, ⟨by omega, by omega⟩⟩
        | long => exact ⟨by decide, Option.some.inj (hf.symm.trans (hK.2 2 _ rfl).2), rfl, am_i64_0⟩
        | _ => exact absurd ht (by decide)
      obtain ⟨i1, i2, i3, i4⟩ := hid
      rw [i2, i3] at e1
      have hR' : am_Rep D ca base KV sc (am_push h (am_ar (am_ty t) n.toNat (fun _ => 0)) n.toNat) H' := hR.push (c := am_ar (am_ty t) n.toNat (fun _ => 0)) (fun _ => i4) ⟨i1, e1⟩ (by rw [hR.1]; exact z1) (by rw [hR.1]; exact o1)
      have kk := k wl (am_w1 ws trivial) H' locs lc hR' (am_va_push hS (by rw [hR.1]; exact z1) (by rw [hR.1]; exact o1)) hL
      have e2 : (am_push h (am_ar (am_ty t) n.toNat (fun _ => 0)) n.toNat).2.1 - n0 = h.2.1 - n0 + 1 := by show h.2.1 + 1 - n0 = _; omega
      have e3 : (am_push h (am_ar (am_ty t) n.toNat (fun _ => 0)) n.toNat).2.2.1 - s0 = h.2.2.1 - s0 + n.toNat := by show h.2.2.1 + n.toNat - s0 = _; omega
      rw [e2, e3] at kk
      exact kk
theorem am_s_anew (C : am_Cx p R s mi args meth c D ca base KV sc m) {idx ty : Nat} {q1 : Int} {n : Int} (hd : decode m.2.1 pc = .ok (.anewarray idx, 3)) (hty : ty = 3 ∨ ty = 4) (w1 : am_W q1 (.classLink m.1.cls idx (am_rcl ty))) (hn : 0 ≤ n) (hn2 : n ≤ 100000)
    (hn0 : n0 ≤ h.2.1) (hs0 : s0 ≤ h.2.2.1) (hcells : h.2.1 + 1 - n0 ≤ R.cells) (hslots : h.2.2.1 + n.toNat - s0 ≤ R.slots) (k : am_Wt p l e R s mi args below meth c Q D ca base KV n0 s0 sc (pc + 3) ls (am_R h.2.1 :: st) (am_push h (am_ra ty n.toNat (fun _ => none)) n.toNat)) : am_Wt p l e R s mi args below meth c Q D ca base KV n0 s0 sc pc ls (am_I n :: st) h :=
  fun wl ws H locs lc hR hS hL => by
    have hnn : am_i32 n := am_wh0 ws
    have hK : va_K D am_cls (am_tys ca) s := C.2.2.2.2.2.1
    have hAO : va_AO (am_rcl ty) s := by
      rcases hty with rfl | rfl
      · exact C.2.2.2.2.2.2.1.2.2.2.1
      · exact C.2.2.2.2.2.2.1.2.2.2.2.1
    have hcl := am_clamp hnn
    refine W.anew C.1 C.2.1 C.2.2.2.1 (C.word w1 rfl) (va_AO.use hAO) rfl hd rfl (fun q => by have := (am_lt hnn am_i32_0).mp q; omega) (by rw [hcl]; omega) (by omega) (by rw [hcl]; omega) (fun cA kA comp f1 f2 f3 f4 => ?_)
    rw [hcl]
    have hca : cA = ca ty := by
      rcases hty with rfl | rfl
      · obtain ⟨kA', comp', r1, r2, r3, r4⟩ := (hK.2 3 _ rfl).2
        exact Option.some.inj (f1.symm.trans r4)
      · obtain ⟨kA', comp', r1, r2, r3, r4⟩ := (hK.2 4 _ rfl).2
        exact Option.some.inj (f1.symm.trans r4)
    subst hca
    generalize hH1 : H.push ({ cls := ca ty, slots := Array.replicate n.toNat .null, vm := .none } : Cell) = H1
    have z1 : H1.size = H.size + 1 := by rw [← hH1, Array.size_push]
    have e1 : H1[H.size]? = some (arrV (ca ty) n.toNat (fun _ => .null)) := by rw [← hH1, Array.getElem?_push_size, ← arrV_new]
    have o1 : ∀ q : Nat, q < H.size → H1[q]? = H[q]? := fun q hq => by rw [← hH1, Array.getElem?_push, if_neg (Nat.ne_of_lt hq)]
    have hR' : am_Rep D ca base KV sc (am_push h (am_ra ty n.toNat (fun _ => none)) n.toNat) H1 := hR.push (c := am_ra ty n.toNat (fun _ => none)) trivial ⟨hty, by rw [← hR.1]; exact e1⟩ z1 o1
    have kk := k wl (am_w1 ws trivial) H1 locs lc hR' (am_va_push hS z1 o1) hL
    have e2 : (am_push h (am_ra ty n.toNat (fun _ => none)) n.toNat).2.1 - n0 = h.2.1 - n0 + 1 := by show h.2.1 + 1 - n0 = _; omega
    have e3 : (am_push h (am_ra ty n.toNat (fun _ => none)) n.toNat).2.2.1 - s0 = h.2.2.1 - s0 + n.toNat := by show h.2.2.1 + n.toNat - s0 = _; omega
    rw [e2, e3] at kk
    rw [hR.1]
    exact kk
/-! the library's own -/
theorem am_sum_cv (hKV : ∀ k, KV k = .null ∨ ∃ a, KV k = .ref a) (st : List am_V) : ((st.map (am_cv base KV)).map fun v => v.category).sum = (st.map am_cat).sum := by
  induction st with
  | nil => rfl
  | cons v st ih =>
    simp only [List.map_cons, List.sum_cons]
    rw [ih, am_cat_cv hKV]
theorem am_s_objinit (C : am_Cx p R s mi args meth c D ca base KV sc m) {idx a : Nat} {q1 q2 q3 : Int} (hd : decode m.2.1 pc = .ok (.invokespecial idx, 3)) (w1 : am_W q1 (.methodLink m.1.cls idx Lib.objectInit)) (w2 : am_W q2 (.instanceMethod Lib.objectInit)) (w3 : am_W q3 (.code Lib.objectInit ⟨#[0xb1]⟩ 1 none)) (hf : 1 ≤ m.2.2.2.2.1) (hlo : 40 ≤ m.2.2.2.2.2.1) (hsum : (st.map am_cat).sum ≤ 8) (k : am_Wt p l e R s mi args below meth c Q D ca base KV n0 s0 sc (pc + 3) ls st h) : am_Wt p l e R s mi args below meth c Q D ca base KV n0 s0 sc pc ls (am_R a :: st) h :=
  fun wl ws H locs lc hR hS hL => by
    refine W.objInit C.1 C.2.1 C.2.2.2.1 (C.word w1 rfl) (C.word w2 rfl) (C.word w3 rfl) rfl (by rw [hL.1]) (a := base + a) rfl hd (Nat.le_trans hf C.2.2.2.2.2.2.2.2.2.2.1) ?_ (k wl (am_wd ws) H locs lc hR hS hL)
    have := C.2.2.2.2.2.2.2.2.2.2.2
    show 2 * 0 + ((st.map (am_cv base KV)).map fun v => v.category).sum + 12 ≤ R.locals
    rw [am_sum_cv C.kv]
    omega
theorem am_s_max (C : am_Cx p R s mi args meth c D ca base KV sc m) {idx : Nat} {x y : Int} {q1 q2 q3 q4 : Int} (hd : decode m.2.1 pc = .ok (.invokestatic idx, 3)) (w1 : am_W q1 (.methodLink m.1.cls idx Lib.Math.max.name)) (w2 : am_W q2 (.static Lib.Math.max.name)) (w3 : am_W q3 (.initialized "java/lang/Math")) (w4 : am_W q4 (.code Lib.Math.max.name Lib.Math.max.code 2 (some .int))) (hf : 1 ≤ m.2.2.2.2.1) (hlo : 40 ≤ m.2.2.2.2.2.1) (hsum : (st.map am_cat).sum ≤ 8) (hcells : h.2.1 - n0 ≤ R.cells) (hslots : h.2.2.1 - s0 ≤ R.slots) (k : am_Wt p l e R s mi args below meth c Q D ca base KV n0 s0 sc (pc + 3) ls (am_I (am_max x y) :: st) h) : am_Wt p l e R s mi args below meth c Q D ca base KV n0 s0 sc pc ls (am_I y :: am_I x :: st) h :=
  fun wl ws H locs lc hR hS hL => by
    have hy : am_i32 y := am_wh0 ws
    have hx : am_i32 x := am_wh0 (am_wd ws)
    have hl := C.2.2.2.2.2.2.2.2.2.2.2
    refine va_mmax C.1 C.2.1 (by rw [hL.1]) C.2.2.2.1 (C.word w1 rfl) (C.word w2 rfl) (C.word w3 rfl) (C.word w4 rfl) (Nat.le_trans hf C.2.2.2.2.2.2.2.2.2.2.1) (by rw [am_sum_cv C.kv]; omega) hcells hslots hd ?_
    have e : (if Int32.ofInt x < Int32.ofInt y then Int32.ofInt y else Int32.ofInt x) = Int32.ofInt (am_max x y) := by
      unfold am_max
      by_cases q : x < y
      · rw [if_pos q, if_pos ((am_lt hx hy).mpr q)]
      · rw [if_neg q, if_neg (fun z => q ((am_lt hx hy).mp z))]
    rw [e]
    exact k wl (am_w2 ws (show am_i32 (am_max x y) from by unfold am_max; split; exact hy; exact hx)) H locs lc hR hS hL
theorem am_s_min (C : am_Cx p R s mi args meth c D ca base KV sc m) {idx : Nat} {x y : Int} {q1 q2 q3 q4 : Int} (hd : decode m.2.1 pc = .ok (.invokestatic idx, 3)) (w1 : am_W q1 (.methodLink m.1.cls idx Lib.Math.min.name)) (w2 : am_W q2 (.static Lib.Math.min.name)) (w3 : am_W q3 (.initialized "java/lang/Math")) (w4 : am_W q4 (.code Lib.Math.min.name Lib.Math.min.code 2 (some .int))) (hf : 1 ≤ m.2.2.2.2.1) (hlo : 40 ≤ m.2.2.2.2.2.1) (hsum : (st.map am_cat).sum ≤ 8) (hcells : h.2.1 - n0 ≤ R.cells) (hslots : h.2.2.1 - s0 ≤ R.slots) (k : am_Wt p l e R s mi args below meth c Q D ca base KV n0 s0 sc (pc + 3) ls (am_I (am_min x y) :: st) h) : am_Wt p l e R s mi args below meth c Q D ca base KV n0 s0 sc pc ls (am_I y :: am_I x :: st) h :=
  fun wl ws H locs lc hR hS hL => by
    have hy : am_i32 y := am_wh0 ws
    have hx : am_i32 x := am_wh0 (am_wd ws)
    have hl := C.2.2.2.2.2.2.2.2.2.2.2
    refine va_mmin C.1 C.2.1 (by rw [hL.1]) C.2.2.2.1 (C.word w1 rfl) (C.word w2 rfl) (C.word w3 rfl) (C.word w4 rfl) (Nat.le_trans hf C.2.2.2.2.2.2.2.2.2.2.1) (by rw [am_sum_cv C.kv]; omega) hcells hslots hd ?_
    have e : (if Int32.ofInt y < Int32.ofInt x then Int32.ofInt y else Int32.ofInt x) = Int32.ofInt (am_min x y) := by
      unfold am_min
      by_cases q : y < x
      · rw [if_pos q, if_pos ((am_lt hy hx).mpr q)]
      · rw [if_neg q, if_neg (fun z => q ((am_lt hy hx).mp z))]
    rw [e]
    exact k wl (am_w2 ws (show am_i32 (am_min x y) from by unfold am_min; split; exact hy; exact hx)) H locs lc hR hS hL
/-- a copy: the source is any array of ints that stands in the heap -/
theorem am_s_copy (C : am_Cx p R s mi args meth c D ca base KV sc m) {idx : Nat} {q1 q2 q3 q4 : Int} (hd : decode m.2.1 pc = .ok (.invokestatic idx, 3)) (w1 : am_W q1 (.methodLink m.1.cls idx arraycopyName)) (w2 : am_W q2 (.native arraycopyName)) (w3 : am_W q3 (.static arraycopyName)) (w4 : am_W q4 (.initialized "java/lang/System")) (hf : 1 ≤ m.2.2.2.2.1) (hlo : 40 ≤ m.2.2.2.2.2.1) (hsum : (st.map am_cat).sum ≤ 8)
    {d n1 : Nat} {g : Nat → Int} (hc : h.1 d = am_ar 0 n1 g) {src : am_V} {b0 N0 : Nat} {f : Nat → Int} (hsrc : am_cv base KV src = .ref b0) (hf32 : ∀ j, am_i32 (f j)) {sp dp k : Int} (h1 : 0 ≤ sp) (h2 : 0 ≤ dp) (h3 : 0 ≤ k) (h4 : sp + k ≤ N0) (h5 : dp + k ≤ n1)
    (hX : ∀ (H : Heap) (locs : List Loc), am_Rep D ca base KV sc h H → va_S (fun q => base ≤ q) s.heap H locs → ∃ scr : Cell, H[b0]? = some scr ∧ s.isArrayOf scr .int ∧ scr.vm ≠ .unknown ∧ N0 ≤ scr.slots.size ∧ ∀ j, j < N0 → scr.slots[j]? = some (.int (Int32.ofInt (f j))))
    (kk : am_Wt p l e R s mi args below meth c Q D ca base KV n0 s0 sc (pc + 3) ls st (am_set h d (am_ar 0 n1 (va_cpy f g sp.toNat dp.toNat k.toNat)))) : am_Wt p l e R s mi args below meth c Q D ca base KV n0 s0 sc pc ls (am_I k :: am_I dp :: am_R d :: am_I sp :: src :: st) h :=
  fun wl ws H locs lc hR hS hL => by
    obtain ⟨-, hc1, hwg⟩ := hR.ar hc
    obtain ⟨scr, hc0, hs2, hs3, hs4, hs5⟩ := hX H locs hR hS
    have hk32 : am_i32 k := am_wh0 ws
    have hdp32 : am_i32 dp := am_wh0 (am_wd ws)
    have hsp32 : am_i32 sp := am_wh0 (am_wd (am_wd (am_wd ws)))
    have hl := C.2.2.2.2.2.2.2.2.2.2.2
    show W p l e R s mi args below meth c H locs (h.2.1 - n0) (h.2.2.1 - s0) Q (F0 mi pc lc (.int (Int32.ofInt k) :: .int (Int32.ofInt dp) :: .ref (base + d) :: .int (Int32.ofInt sp) :: am_cv base KV src :: st.map (am_cv base KV)))
    rw [hsrc]
    obtain ⟨hs6, k0, hk0, cm0, hkk0⟩ := hs2
    obtain ⟨-, k1, hk1, cm1, hkk1⟩ := C.arr (ty := 0) rfl n1 (fun j => am_el 0 (g j))
    intro T hT X
    obtain ⟨vm', X', step⟩ := X.arraycopy C.1 C.2.2.2.1 (C.word w1 rfl) (C.word w2 rfl) (C.word w3 rfl) (C.word w4 rfl) (src := b0) (dst := base + d) (cs := scr) (cd := arrV (ca 0) n1 (fun j => am_el 0 (g j))) (srcPos := Int32.ofInt sp) (destPos := Int32.ofInt dp) (n := Int32.ofInt k) (by rw [hT]; exact hc0) (by rw [hT]; exact hc1)
      hs6 (fun _ z => by cases z) hs3 (fun z => by cases z) hk0 hk1 hkk0 hkk1 (by simp [refKind]) (fun q => by have := (am_lt hsp32 am_i32_0).mp q; omega) (fun q => by have := (am_lt hdp32 am_i32_0).mp q; omega) (fun q => by have := (am_lt hk32 am_i32_0).mp q; omega)
      (by rw [am_toInt hsp32, am_toInt hk32]; omega)
      (by rw [am_toInt hdp32, am_toInt hk32, arrV_size]; omega)
      (fun vm₁ _ i hi => by
        rw [am_clamp hk32] at hi
        have e : scr.slots.getD ((Int32.ofInt sp).toNatClampNeg + i) .null = .int (Int32.ofInt (f (sp.toNat + i))) := by
          rw [Array.getD_eq_getD_getElem?, am_clamp hsp32, hs5 _ (by omega)]
          rfl
        refine ⟨?_, ?_⟩
        · rw [e]; rfl
        · rw [e]; exact trivial)
      (g := F0 mi pc lc (.int (Int32.ofInt k) :: .int (Int32.ofInt dp) :: .ref (base + d) :: .int (Int32.ofInt sp) :: .ref b0 :: st.map (am_cv base KV))) rfl (by rw [hL.1]) (rest := st.map (am_cv base KV)) rfl (by rw [C.2.1]; exact hd) (Nat.le_trans hf C.2.2.2.2.2.2.2.2.2.2.1) (by show 2 * 0 + _ + (5 + 2 + 11) ≤ _; rw [am_sum_cv C.kv]; omega)
    have e1 : copied scr (arrV (ca 0) n1 (fun j => am_el 0 (g j))) (Int32.ofInt sp) (Int32.ofInt dp) (Int32.ofInt k) = arrV (ca 0) n1 (fun j => am_el 0 (va_cpy f g sp.toNat dp.toNat k.toNat j)) := by
      have := va_copiedX (fun z : Int => am_el 0 z) scr (ca 0) (sp := (Int32.ofInt sp).toNatClampNeg) (dp := (Int32.ofInt dp).toNatClampNeg) (n := (Int32.ofInt k).toNatClampNeg) (n1 := n1) f g hs5 (by rw [am_clamp hsp32, am_clamp hk32]; omega)
      rw [am_clamp hsp32, am_clamp hdp32, am_clamp hk32] at this
      unfold copied
      rw [am_clamp hsp32, am_clamp hdp32, am_clamp hk32]
      exact this
    rw [e1] at X' step
    have hlt : base + d < H.size := (Array.getElem?_eq_some_iff.mp hc1).1
    have hheap : ((T.setVm vm').setCell (base + d) (arrV (ca 0) n1 (fun j => am_el 0 (va_cpy f g sp.toNat dp.toNat k.toNat j)))).heap = H.setIfInBounds (base + d) (arrV (ca 0) n1 (fun j => am_el 0 (va_cpy f g sp.toNat dp.toNat k.toNat j))) := by rw [← hT]; rfl
    have oq : ∀ q : Nat, q ≠ base + d → (H.setIfInBounds (base + d) (arrV (ca 0) n1 (fun j => am_el 0 (va_cpy f g sp.toNat dp.toNat k.toNat j))))[q]? = H[q]? := fun q hq => by simp [Array.getElem?_setIfInBounds, Ne.symm hq]
    have hwc : ∀ j, am_wk 0 (va_cpy f g sp.toNat dp.toNat k.toNat j) := by
      intro j
      unfold va_cpy
      split
      · exact hf32 _
      · exact hwg j
    have hR' : am_Rep D ca base KV sc (am_set h d (am_ar 0 n1 (va_cpy f g sp.toNat dp.toNat k.toNat))) (H.setIfInBounds (base + d) (arrV (ca 0) n1 (fun j => am_el 0 (va_cpy f g sp.toNat dp.toNat k.toNat j)))) :=
      hR.set (hR.lt (am_ne_no hc (fun q => by cases q))) (c := am_ar 0 n1 (va_cpy f g sp.toNat dp.toNat k.toNat)) hwc ⟨by omega, by simp [Array.getElem?_setIfInBounds, hlt]⟩ (by simp) oq
    obtain ⟨t, a1, b1⟩ := kk wl (am_wd (am_wd (am_wd (am_wd (am_wd ws))))) _ _ lc hR' ⟨by simp; exact hS.1, fun q g1 g2 => by
        rw [oq q (by omega)]
        exact hS.2.1 q g1 g2, fun q hq => by
        rcases List.mem_append.mp hq with z | z
        · exact hS.2.2 q z
        · obtain ⟨y, -, hz⟩ := List.mem_map.mp z
          rw [← hz]
          show base ≤ base + d
          omega⟩ hL _ hheap X'
    exact ⟨t, step t a1, b1⟩
end AMSTEP5
