/-! ===== arrays, making, copies, the library's own ===== -/
theorem am_cvI {ty : Nat} (ht : ty < 2) (x : Int) : am_el ty x = .int (Int32.ofInt x) := by
  rcases (show ty = 0 ∨ ty = 1 by omega) with rfl | rfl <;> rfl
theorem am_el_up (ty : Nat) (f : Nat → Int) (j : Nat) (x : Int) : updV (fun j => am_el ty (f j)) j (am_el ty x) = fun k => am_el ty (va_up f j x k) := by
  funext k
  unfold updV va_up
  by_cases e : k = j
  · rw [if_pos e, if_pos e]
  · rw [if_neg e, if_neg e]
theorem am_wk_up {ty : Nat} {f : Nat → Int} (h : ∀ j, am_wk ty (f j)) {j : Nat} {x : Int} (hx : am_wk ty x) : ∀ k, am_wk ty (va_up f j x k) := by
  intro k
  unfold va_up
  by_cases e : k = j
  · rw [if_pos e]; exact hx
  · rw [if_neg e]; exact h k
section AMSTEP4
variable {p : Program} {l : Launch} {e : Env} {R : Room} {s : State} {mi : MethodId} {args : Array Value} {below : List Frame} {meth : Method} {c : Code} {Q : State → Prop} {D : va_G} {ca : Nat → ClassId} {base : Nat} {KV : Nat → Value} {sc : Nat × (Nat → Int)} {n0 s0 : Nat} {m : am_M}
variable {pc : Nat} {ls st : List am_V} {h : am_H}
theorem am_s_iald (C : am_Cx p R s mi args meth c D ca base KV sc m) (hd : decode m.2.1 pc = .ok (.iaload, 1)) {a n : Nat} {f : Nat → Int} {j : Int} (hc : h.1 a = am_ar 0 n f) (h0 : 0 ≤ j) (h1 : j < n) (k : am_Wt p l e R s mi args below meth c Q D ca base KV n0 s0 sc (pc + 1) ls (am_I (f j.toNat) :: st) h) : am_Wt p l e R s mi args below meth c Q D ca base KV n0 s0 sc pc ls (am_I j :: am_R a :: st) h :=
  fun wl ws H locs lc hR hS hL => by
    obtain ⟨-, hcell, hwf⟩ := hR.ar hc
    have hj : am_i32 j := am_wh0 ws
    refine W.iald (v := .int (Int32.ofInt (f j.toNat))) C.1 C.2.1 hcell (C.arr (ty := 0) rfl n _) (fun q => by cases q) (by rw [arrV_size]; exact am_in hj h0 h1) (by rw [am_clamp hj, arrV_read _ _ (by omega)]; rfl) rfl rfl hd ?_
    exact k wl (am_w2 ws (hwf _)) H locs lc hR hS hL
theorem am_s_bald (C : am_Cx p R s mi args meth c D ca base KV sc m) (hd : decode m.2.1 pc = .ok (.baload, 1)) {a n : Nat} {f : Nat → Int} {j : Int} (hc : h.1 a = am_ar 1 n f) (h0 : 0 ≤ j) (h1 : j < n) (k : am_Wt p l e R s mi args below meth c Q D ca base KV n0 s0 sc (pc + 1) ls (am_I (f j.toNat) :: st) h) : am_Wt p l e R s mi args below meth c Q D ca base KV n0 s0 sc pc ls (am_I j :: am_R a :: st) h :=
  fun wl ws H locs lc hR hS hL => by
    obtain ⟨-, hcell, hwf⟩ := hR.ar hc
    have hj : am_i32 j := am_wh0 ws
    refine W.bald (v := .int (Int32.ofInt (f j.toNat))) C.1 C.2.1 hcell (C.arr (ty := 1) rfl n _) (fun q => by cases q) (by rw [arrV_size]; exact am_in hj h0 h1) (by rw [am_clamp hj, arrV_read _ _ (by omega)]; rfl) rfl rfl hd ?_
    exact k wl (am_w2 ws (show am_i32 _ from ⟨by have := (hwf j.toNat).1; omega, by have := (hwf j.toNat).2; omega⟩)) H locs lc hR hS hL
theorem am_s_lald (C : am_Cx p R s mi args meth c D ca base KV sc m) (hd : decode m.2.1 pc = .ok (.laload, 1)) {a n : Nat} {f : Nat → Int} {j : Int} (hc : h.1 a = am_ar 2 n f) (h0 : 0 ≤ j) (h1 : j < n) (k : am_Wt p l e R s mi args below meth c Q D ca base KV n0 s0 sc (pc + 1) ls (am_L (f j.toNat) :: st) h) : am_Wt p l e R s mi args below meth c Q D ca base KV n0 s0 sc pc ls (am_I j :: am_R a :: st) h :=
  fun wl ws H locs lc hR hS hL => by
    obtain ⟨-, hcell, hwf⟩ := hR.ar hc
    have hj : am_i32 j := am_wh0 ws
    refine W.lald (v := .long (Int64.ofInt (f j.toNat))) C.1 C.2.1 hcell (C.arr (ty := 2) rfl n _) (fun q => by cases q) (by rw [arrV_size]; exact am_in hj h0 h1) (by rw [am_clamp hj, arrV_read _ _ (by omega)]; rfl) rfl rfl hd ?_
    exact k wl (am_w2 ws (hwf _)) H locs lc hR hS hL
theorem am_Rep.store {H : Heap} (hR : am_Rep D ca base KV sc h H) {a ty n : Nat} {f : Nat → Int} (hc : h.1 a = am_ar ty n f) {i : Nat} {x : Int} (hx : am_wk ty x) {H' : Heap} (e1 : H'[base + a]? = some ((arrV (ca ty) n (fun j => am_el ty (f j))).setSlot i (am_el ty x))) (e2 : H'.size = H.size) (e3 : ∀ q, q ≠ base + a → H'[q]? = H[q]?) : am_Rep D ca base KV sc (am_set h a (am_ar ty n (va_up f i x))) H' := by
  obtain ⟨hty, hcell, hwf⟩ := hR.ar hc
  refine hR.set (hR.lt (am_ne_no hc (fun q => by cases q))) (c := am_ar ty n (va_up f i x)) (am_wk_up hwf hx) ⟨hty, ?_⟩ e2 e3
  rw [e1, arrV_store, am_el_up]
theorem am_s_iast (C : am_Cx p R s mi args meth c D ca base KV sc m) (hd : decode m.2.1 pc = .ok (.iastore, 1)) {a n : Nat} {f : Nat → Int} {j x : Int} (hc : h.1 a = am_ar 0 n f) (h0 : 0 ≤ j) (h1 : j < n) (k : am_Wt p l e R s mi args below meth c Q D ca base KV n0 s0 sc (pc + 1) ls st (am_set h a (am_ar 0 n (va_up f j.toNat x)))) : am_Wt p l e R s mi args below meth c Q D ca base KV n0 s0 sc pc ls (am_I x :: am_I j :: am_R a :: st) h :=
  fun wl ws H locs lc hR hS hL => by
    obtain ⟨-, hcell, hwf⟩ := hR.ar hc
    have hx : am_i32 x := am_wh0 ws
    have hj : am_i32 j := am_wh0 (am_wd ws)
    refine W.iast C.1 C.2.1 hcell (C.arr (ty := 0) rfl n _) (fun q => by cases q) (by rw [arrV_size]; exact am_in hj h0 h1) rfl rfl hd (fun H' e1 e2 e3 => ?_)
    rw [am_clamp hj] at e1 ⊢
    exact k wl (am_wd (am_wd (am_wd ws))) H' _ lc (hR.store hc hx e1 e2 e3) (hS.put e2 e3 (by omega)) hL
theorem am_s_bast (C : am_Cx p R s mi args meth c D ca base KV sc m) (hd : decode m.2.1 pc = .ok (.bastore, 1)) {a n : Nat} {f : Nat → Int} {j x : Int} (hc : h.1 a = am_ar 1 n f) (h0 : 0 ≤ j) (h1 : j < n) (k : am_Wt p l e R s mi args below meth c Q D ca base KV n0 s0 sc (pc + 1) ls st (am_set h a (am_ar 1 n (va_up f j.toNat (am_i2b x))))) : am_Wt p l e R s mi args below meth c Q D ca base KV n0 s0 sc pc ls (am_I x :: am_I j :: am_R a :: st) h :=
  fun wl ws H locs lc hR hS hL => by
    obtain ⟨-, hcell, hwf⟩ := hR.ar hc
    have hj : am_i32 j := am_wh0 (am_wd ws)
    refine W.bast C.1 C.2.1 hcell (C.arr (ty := 1) rfl n _) (fun q => by cases q) (by rw [arrV_size]; exact am_in hj h0 h1) rfl rfl hd (fun H' e1 e2 e3 => ?_)
    rw [am_clamp hj] at e1 ⊢
    have hb : am_wk 1 (am_i2b x) := by
      have h2 := (Int32.ofInt x).toInt8.le_toInt
      have h3 := (Int32.ofInt x).toInt8.toInt_lt
      show -128 ≤ am_i2b x ∧ am_i2b x < 128
      unfold am_i2b
      rw [Int8.toInt_toInt32]
      omega
    refine k wl (am_wd (am_wd (am_wd ws))) H' _ lc (hR.store hc hb ?_ e2 e3) (hS.put e2 e3 (by omega)) hL
    rw [e1]
    show _ = some (Cell.setSlot _ _ (.int (Int32.ofInt (am_i2b x))))
    unfold am_i2b
    rw [Int32.ofInt_toInt]
    rfl
theorem am_s_last (C : am_Cx p R s mi args meth c D ca base KV sc m) (hd : decode m.2.1 pc = .ok (.lastore, 1)) {a n : Nat} {f : Nat → Int} {j x : Int} (hc : h.1 a = am_ar 2 n f) (h0 : 0 ≤ j) (h1 : j < n) (k : am_Wt p l e R s mi args below meth c Q D ca base KV n0 s0 sc (pc + 1) ls st (am_set h a (am_ar 2 n (va_up f j.toNat x)))) : am_Wt p l e R s mi args below meth c Q D ca base KV n0 s0 sc pc ls (am_L x :: am_I j :: am_R a :: st) h :=
  fun wl ws H locs lc hR hS hL => by
    obtain ⟨-, hcell, hwf⟩ := hR.ar hc
    have hx : am_i64 x := am_wh0 ws
    have hj : am_i32 j := am_wh0 (am_wd ws)
    refine W.last C.1 C.2.1 hcell (C.arr (ty := 2) rfl n _) (fun q => by cases q) (by rw [arrV_size]; exact am_in hj h0 h1) rfl rfl hd (fun H' e1 e2 e3 => ?_)
    rw [am_clamp hj] at e1 ⊢
    exact k wl (am_wd (am_wd (am_wd ws))) H' _ lc (hR.store hc hx e1 e2 e3) (hS.put e2 e3 (by omega)) hL
/-- the class of an array of references -/
def am_rcl (ty : Nat) : String := if ty = 3 then "ZoneLedger$Script" else "ZoneLedger$Drive"
theorem am_s_aald (C : am_Cx p R s mi args meth c D ca base KV sc m) (hd : decode m.2.1 pc = .ok (.aaload, 1)) {a ty n : Nat} {f : Nat → Option Nat} {j : Int} (hc : h.1 a = am_ra ty n f) (h0 : 0 ≤ j) (h1 : j < n) (k0 : f j.toNat = none → am_Wt p l e R s mi args below meth c Q D ca base KV n0 s0 sc (pc + 1) ls (am_K 0 :: st) h) (k1 : ∀ b, f j.toNat = some b → am_Wt p l e R s mi args below meth c Q D ca base KV n0 s0 sc (pc + 1) ls (am_R b :: st) h) : am_Wt p l e R s mi args below meth c Q D ca base KV n0 s0 sc pc ls (am_I j :: am_R a :: st) h :=
  fun wl ws H locs lc hR hS hL => by
    obtain ⟨hty, hcell⟩ := hR.ra hc
    have hj : am_i32 j := am_wh0 ws
    have hA : ArrOfT s (ca ty) (.object (am_rcl ty)) := by
      rcases hty with rfl | rfl
      · exact C.arr (ty := 3) rfl
      · exact C.arr (ty := 4) rfl
    refine W.aald (v := am_er base (f j.toNat)) C.1 C.2.1 hcell (hA n _) rfl (fun q => by cases q) (by rw [arrV_size]; exact am_in hj h0 h1) (by rw [am_clamp hj, arrV_read _ _ (by omega)]) rfl rfl hd ?_
    cases hf : f j.toNat with
    | none =>
      have kk := k0 hf wl (am_w2 ws trivial) H locs lc hR hS hL
      have e : am_cv base KV (am_K 0) = .null := C.2.2.2.2.2.2.1.2.1
      rw [List.map_cons, e] at kk
      exact kk
    | some b => exact k1 b hf wl (am_w2 ws trivial) H locs lc hR hS hL
theorem am_s_aast (C : am_Cx p R s mi args meth c D ca base KV sc m) (hd : decode m.2.1 pc = .ok (.aastore, 1)) {a ty n b : Nat} {f : Nat → Option Nat} {fs : List am_V} {j : Int} (hc : h.1 a = am_ra ty n f) (hb : h.1 b = am_ob (am_ofc ty) fs) (h0 : 0 ≤ j) (h1 : j < n) (k : am_Wt p l e R s mi args below meth c Q D ca base KV n0 s0 sc (pc + 1) ls st (am_set h a (am_ra ty n (va_up f j.toNat (some b))))) : am_Wt p l e R s mi args below meth c Q D ca base KV n0 s0 sc pc ls (am_R b :: am_I j :: am_R a :: st) h :=
  fun wl ws H locs lc hR hS hL => by
    obtain ⟨hty, hcell⟩ := hR.ra hc
    obtain ⟨hci, -, ⟨cb, b1, b2, b3, -⟩, -⟩ := hR.ob hb
    have hj : am_i32 j := am_wh0 (am_wd ws)
    have hK : va_K D am_cls (am_tys ca) s := C.2.2.2.2.2.1
    have hkb := hK.1 _ _ (am_cl_at hci)
    obtain ⟨-, hfb, kb, hkb1, hkb2⟩ := hkb
    obtain ⟨kA, comp, r1, r2, r3⟩ : ∃ (kA : Class) (comp : ClassId), s.vm.classes[ca ty]? = some kA ∧ kA.kind = .array comp (.object (am_rcl ty)) ∧ s.vm.findClass (am_rcl ty) = some comp := by
      rcases hty with rfl | rfl
      · obtain ⟨kA, comp, r1, r2, r3, -⟩ := (hK.2 3 _ rfl).2
        exact ⟨kA, comp, r1, r2, r3⟩
      · obtain ⟨kA, comp, r1, r2, r3, -⟩ := (hK.2 4 _ rfl).2
        exact ⟨kA, comp, r1, r2, r3⟩
    have hcomp : comp = D.1 (am_ofc ty) := by
      have e : am_rcl ty = am_cl0 (am_ofc ty) := by rcases hty with rfl | rfl <;> rfl
      rw [e] at r3
      exact Option.some.inj (r3.symm.trans hfb)
    refine W.aast (t := .object (am_rcl ty)) C.1 C.2.1 hcell (fun q z => by cases z) (fun q => by cases q) (hk := r1) (hkind := r2) (href := rfl) (hkcomp := by rw [hcomp]; exact hkb1) (hin := ⟨fun q => am_in hj h0 h1 (Or.inl q), by rw [arrV_size, am_clamp hj]; omega⟩) b1 (fun q z => by rw [b3] at z; cases z) (hkv := by rw [b2]; exact hkb1) (by rw [b2, hcomp]; exact va_asg _ _) rfl rfl hd (fun H' e1 e2 e3 => ?_)
    rw [am_clamp hj] at e1 ⊢
    have hR' : am_Rep D ca base KV sc (am_set h a (am_ra ty n (va_up f j.toNat (some b)))) H' := by
      refine hR.set (hR.lt (am_ne_no hc (fun q => by cases q))) (c := am_ra ty n (va_up f j.toNat (some b))) trivial ⟨hty, ?_⟩ e2 e3
      rw [e1, arrV_store]
      congr 2
      funext k
      unfold updV va_up
      by_cases q : k = j.toNat
      · rw [if_pos q, if_pos q]; rfl
      · rw [if_neg q, if_neg q]
    exact k wl (am_wd (am_wd (am_wd ws))) H' _ lc hR' (hS.put e2 e3 (by omega)) hL
theorem am_s_alen (C : am_Cx p R s mi args meth c D ca base KV sc m) (hd : decode m.2.1 pc = .ok (.arraylength, 1)) {a n : Nat} (hn : n < 1000000) (hc : (∃ ty f, h.1 a = am_ar ty n f) ∨ ∃ ty f, h.1 a = am_ra ty n f) (k : am_Wt p l e R s mi args below meth c Q D ca base KV n0 s0 sc (pc + 1) ls (am_I n :: st) h) : am_Wt p l e R s mi args below meth c Q D ca base KV n0 s0 sc pc ls (am_R a :: st) h :=
  fun wl ws H locs lc hR hS hL => by
    have kk := k wl (am_w1 ws (⟨by omega, by omega⟩ : am_i32 n)) H locs lc hR hS hL
    rcases hc with ⟨ty, f, hc⟩ | ⟨ty, f, hc⟩
    · obtain ⟨hty, hcell, -⟩ := hR.ar hc
      have hA : ∃ t, ArrOfT s (ca ty) t := by
        rcases (show ty = 0 ∨ ty = 1 ∨ ty = 2 by omega) with rfl | rfl | rfl
        · exact ⟨_, C.arr (ty := 0) rfl⟩
        · exact ⟨_, C.arr (ty := 1) rfl⟩
        · exact ⟨_, C.arr (ty := 2) rfl⟩
      obtain ⟨t, hA⟩ := hA
      exact W.alen (n := Int32.ofInt n) C.1 C.2.1 hcell (hA n _) (by rw [arrV_size]; rfl) rfl rfl hd kk
    · obtain ⟨hty, hcell⟩ := hR.ra hc
      have hA : ∃ t, ArrOfT s (ca ty) t := by
        rcases hty with rfl | rfl
        · exact ⟨_, C.arr (ty := 3) rfl⟩
        · exact ⟨_, C.arr (ty := 4) rfl⟩
      obtain ⟨t, hA⟩ := hA
      exact W.alen (n := Int32.ofInt n) C.1 C.2.1 hcell (hA n _) (by rw [arrV_size]; rfl) rfl rfl hd kk
/-! constant arrays -/
theorem am_s_tald (C : am_Cx p R s mi args meth c D ca base KV sc m) (hd : decode m.2.1 pc = .ok (.iaload, 1)) {t : Nat} {j x : Int} (hx : am_rk h t 0 j = some x) (k : am_Wt p l e R s mi args below meth c Q D ca base KV n0 s0 sc (pc + 1) ls (am_I x :: st) h) : am_Wt p l e R s mi args below meth c Q D ca base KV n0 s0 sc pc ls (am_I j :: am_K t :: st) h :=
  fun wl ws H locs lc hR hS hL => by
    have hj : am_i32 j := am_wh0 ws
    show W p l e R s mi args below meth c H locs (h.2.1 - n0) (h.2.2.1 - s0) Q (F0 mi pc lc (.int (Int32.ofInt j) :: KV t :: st.map (am_cv base KV)))
    obtain ⟨-, -, -, -, -, ⟨g1, g2, t6, g3, g4⟩, g7, -⟩ := C.2.2.2.2.2.2.1
    unfold am_rk at hx
    by_cases q : t = 2
    · subst q
      rw [if_pos rfl] at hx
      have hsc : h.2.2.2 = sc := hR.2.1
      by_cases z : (0 : Nat) = 0 ∧ 0 ≤ j ∧ j < h.2.2.2.1
      · rw [if_pos z] at hx
        cases hx
        rw [hsc] at z
        rw [g3]
        refine va_ti C.1 C.2.1 g4 hS (am_in hj z.2.1 z.2.2) (v := .int (Int32.ofInt (h.2.2.2.2 j.toNat))) (by rw [am_clamp hj, hsc]) hd ?_
        exact k wl (am_w2 ws (show am_i32 _ from by rw [hsc]; exact g2 _)) H locs lc hR hS hL
      · rw [if_neg z] at hx; cases hx
    · rw [if_neg q] at hx
      by_cases z : (am_kar t).1 = 0 ∧ 0 ≤ j
      · rw [if_pos z] at hx
        obtain ⟨a, e1, e2⟩ := g7 t z.1
        have hlt : j.toNat < (am_kar t).2.length := (List.getElem?_eq_some_iff.mp hx).1
        rw [e1]
        refine va_ti C.1 C.2.1 e2 hS (am_in hj z.2 (by omega)) (v := .int (Int32.ofInt x)) (by rw [am_clamp hj, List.getD_eq_getElem?_getD, hx]; rfl) hd ?_
        refine k wl (am_w2 ws ?_) H locs lc hR hS hL
        have key : ∀ y ∈ (am_kar t).2, am_i32 y := by
          intro y hy
          unfold am_kar at hy
          split at hy <;> simp at hy <;> (rcases hy with hy; constructor <;> omega)
        exact key x (List.mem_of_getElem? hx)
      · rw [if_neg z] at hx; cases hx
end AMSTEP4
