/-! ===== THE LAW'S CALL OF ZONE, both ends ===== -/
section ZLL
variable {l : Launch} {D : va_G} {ca : Nat → ClassId} {base : Nat} {KV : Nat → Value} {sc : Nat × (Nat → Int)}
theorem zl_r0 {h h1 h2 : am_H} {x o : Nat} {z w v : Int} (hM : am_Mt l D ca base KV sc am_m305 [am_R x, am_I z, am_I w] h (some (am_I v)) h1) (hw : am_wr h1 o 2 0 v = some h2) (hz : am_zk h x z w = some true) (hg : am_ge h h1) :
    Met l zl_n zl_ws (am_rm zl_m h h2) (am_Pc D ca base KV sc [am_R x, am_I z, am_I w, am_R o] h) (am_Qc D ca base KV sc (some (am_I 0)) h2) (h2.2.1 - h.2.1) (h2.2.2.1 - h.2.2.1) (fun q => base ≤ q) := by
  obtain ⟨n, f, w1, w2, w3, rfl⟩ := am_wr_inv hw
  obtain ⟨d, a, n', f', fs, gs, f1, -⟩ := zl_zk hz
  refine zl_mkz (Nat.le_succ 4) ?_
  intro p e s mi args below meth c Q C htb hret
  refine am_s_aload_n C (k := 3) (x := o) zd_0 rfl ?_
  refine am_s_iconst C zd_1 ⟨by omega, by omega⟩ ?_
  refine am_s_aload_n C (k := 0) (x := x) zd_2 rfl ?_
  refine am_s_iload_n C (k := 1) (x := z) zd_3 rfl ?_
  refine am_s_iload_n C (k := 2) (x := w) zd_4 rfl ?_
  refine am_s_callV C (z := am_m305) (rk := 1) (idx := 7) (n := 2) (q1 := 5109) (q2 := 5110) (q3 := 5111) (ci := 8) (b := x) (As := [am_I z, am_I w]) (rest := [am_I 0, am_R o]) zd_5 ow_305 (by decide +kernel) (by decide +kernel) rfl rfl rfl rfl f1 rfl hM (Nat.le_of_ble_eq_true rfl) hg (Nat.le_refl _) (Nat.le_refl _) (Nat.le_refl _) (Nat.le_refl _) ?_
  refine am_s_i2l C zd_8 ?_
  refine am_s_last C zd_9 w1 w2 w3 ?_
  refine am_s_goto C (off := 7) zd_10 (by decide) ?_
  refine am_s_iconst C zd_17 ⟨by omega, by omega⟩ ?_
  intro wl ws H locs lc hR hS hL
  exact (hret H locs lc 18 hR hS).2 0 .int rfl zd_18 rfl rfl ⟨by omega, by omega⟩
theorem zl_r1 (hl : l.stackTraces = false) {h : am_H} {x o : Nat} {z w : Int} (hz : am_zk h x z w = some false) :
    Met l zl_n zl_ws (am_rm zl_m h (am_push h am_no 6)) (am_Pc D ca base KV sc [am_R x, am_I z, am_I w, am_R o] h) (am_Qc D ca base KV sc (some (am_I 1)) (am_push h am_no 6)) ((am_push h am_no 6).2.1 - h.2.1) ((am_push h am_no 6).2.2.1 - h.2.2.1) (fun q => base ≤ q) := by
  obtain ⟨d, a, n', f', fs, gs, f1, -⟩ := zl_zk hz
  refine zl_mkz (Nat.le_succ 4) ?_
  intro p e s mi args below meth c Q C htb hret
  refine am_s_aload_n C (k := 3) (x := o) zd_0 rfl ?_
  refine am_s_iconst C zd_1 ⟨by omega, by omega⟩ ?_
  refine am_s_aload_n C (k := 0) (x := x) zd_2 rfl ?_
  refine am_s_iload_n C (k := 1) (x := z) zd_3 rfl ?_
  refine am_s_iload_n C (k := 2) (x := w) zd_4 rfl ?_
  intro wl ws H locs lc hR hS hL
  have hw3 : ∀ v ∈ [am_R x, am_I z, am_I w], am_wv v := by
    intro v hv
    refine ws v ?_
    simp only [List.mem_cons, List.not_mem_nil, or_false] at hv ⊢
    rcases hv with rfl | rfl | rfl <;> simp
  have hr := vx_runV (p := p) (e := e) (below := below) (meth := meth) (locs := locs) (cells := h.2.1 - h.2.1) (slots := h.2.2.1 - h.2.2.1) (g := F0 mi 5 lc ([am_I w, am_I z, am_R x, am_I 0, am_R o].map (am_cv base KV))) (As := [am_I z, am_I w].map (am_cv base KV)) (rest := [am_I 0, am_R o].map (am_cv base KV)) (b := base + x) ⟨C.1, C.2.1, rfl, C.2.2.2.1, C.2.2.2.2.1⟩ (zl_thr hl hz) ⟨am_callB (rk := 1) (q1 := 5109) (n := 2) C zl_own (by decide +kernel) (by decide +kernel) rfl, C.word (q := 5110) rfl rfl, C.word (q := 5111) rfl rfl⟩ ⟨am_blind, by
      obtain ⟨hci, -, ⟨cell, b1, b2, b3, -⟩, -⟩ := hR.ob f1
      have hK : va_K D am_cls (am_tys ca) s := C.2.2.2.2.2.1
      exact ⟨cell, b1, by rw [b3]; rfl, by rw [b2]; exact (hK.1 _ _ (am_cl_at hci)).2.1⟩, am_pre C hR hS (as := [am_R x, am_I z, am_I w]) hw3⟩ rfl rfl hL.1 rfl (am_roomW C.kv (rest := [am_I 0, am_R o]) (Nat.le_of_ble_eq_true rfl)) zd_5 ⟨by rw [Nat.sub_self, Nat.zero_add]; exact Nat.le_refl _, by rw [Nat.sub_self, Nat.zero_add]; exact Nat.le_refl _⟩
  intro T hT X
  rcases hr T hT X with ⟨v', st₀, t, T', L, h0, X', hL', e1, e2, hF, st⟩ | ⟨q, st₀, t, T', L, E, ce, h0, X', hL', e1, e2, ⟨hE, hR1, hF⟩, hce, hcv, hcl, st⟩
  · exact hF.elim
  · subst hE
    obtain ⟨-, -, hS1⟩ := vx_keep (A1 := fun q => base ≤ q) h0 e1 hS (fun q _ hq => hq) (fun q hq => hq) hL' hF
    rw [Nat.sub_self, Nat.sub_self, Nat.zero_add, Nat.zero_add] at X'
    have hlt : 4 < c.maxLocals := by rw [C.2.2.1]; decide
    have fin := vx_catch (Q := Q) (locs := locs ++ L) (l := l) (e := e) (below := below) (meth := meth) (R := am_rm zl_m h (am_push h am_no 6)) (cells := (am_push h am_no 6).2.1 - h.2.1) (slots := (am_push h am_no 6).2.2.1 - h.2.2.1) (own := "ZoneLedgerLaw") (name := "java/util/NoSuchElementException") (H := T'.heap) (ls := lc) (pc := 5) (rest := [am_I 0, am_R o].map (am_cv base KV)) C.2.2.2.1 [] { startPc := 0, endPc := 10, handlerPc := 13, catchType := 13 } [] htb (fun z hz => nomatch hz) rfl (by decide) (C.word (q := 5108) rfl rfl) (zl_cast C) (by rw [e1]; exact hce) hcv hcl
      (lv_astore C.1 C.2.1 zd_13 hL.has hlt rfl (fun lc' h' => lv_iconst C.1 C.2.1 zd_15 rfl ((hret T'.heap (locs ++ L) lc' 16 (by rw [e1]; exact hR1) hS1).2 1 .int rfl zd_16 rfl rfl ⟨by omega, by omega⟩)))
    obtain ⟨t2, a1, b1⟩ := fin T' rfl X'
    exact ⟨t2, st.trans a1, b1⟩
theorem zl_c : Cond.codeWith zl_n method_3_code 5 (some .int) [(0, 10, 13, 13)] ∈ am_lwg := List.mem_filter.mpr ⟨am_W_mem (q := 5107) rfl, rfl⟩
theorem zl_ZL (hl : l.stackTraces = false) : am_ZL l D ca base KV sc := by
  intro p e R s mi args below meth c Q n0 s0 m C hfr hlo pc ls st h idx x o q z w hd hq hsum hn0 hs0
  have cw : ∀ h2 : am_H, vx_CSW R s args m.1.cls idx zl_n method_3_code 5 (some .int) [(0, 10, 13, 13)] zl_ws (am_rm zl_m h h2) (h2.2.1 - h.2.1) (h2.2.2.1 - h.2.2.1) 4 := fun h2 =>
    ⟨⟨rfl, rfl, Nat.le_trans (by decide : 9 + 1 ≤ 11) hfr, Nat.le_trans (by decide : 8 + (5 + 11) + 200 ≤ 271) hlo, pay_in C.2.2.2.2.1 (fun w hw => by
      rcases List.mem_cons.mp hw with rfl | hw
      · exact ⟨zl_c, am_good_lwg zl_c⟩
      · exact ⟨hw, am_good_lwg hw⟩), List.mem_cons_self⟩, C.2.2.2.2.1 _ zl_c, C.word (q := 1000) rfl rfl, ⟨by decide, by decide⟩, fun sig hs => by
        have h4 : (parseMethodDescriptor zl_n.desc).map (fun d => d.parameters.length) = some 4 := by decide +kernel
        rw [hs] at h4
        exact (Option.some.inj h4).symm, C.word hq rfl, C.word (q := 5106) rfl rfl⟩
  have run : ∀ (v : am_V) (h2 : am_H), Met l zl_n zl_ws (am_rm zl_m h h2) (am_Pc D ca base KV sc [am_R x, am_I z, am_I w, am_R o] h) (am_Qc D ca base KV sc (some v) h2) (h2.2.1 - h.2.1) (h2.2.2.1 - h.2.2.1) (fun q => base ≤ q) → am_ge h h2 → h2.2.1 - n0 ≤ R.cells → h2.2.2.1 - s0 ≤ R.slots → am_Wt p l e R s mi args below meth c Q D ca base KV n0 s0 sc (pc + 3) ls (v :: st) h2 → am_Wt p l e R s mi args below meth c Q D ca base KV n0 s0 sc pc ls (am_R o :: am_I w :: am_I z :: am_R x :: st) h := by
    intro v h2 hM hg hc hs k
    refine am_s_call C (as := [am_R x, am_I z, am_I w, am_R o]) (rest := st) (v := some v) (h1 := h2) hg hn0 hs0 (fun H locs lc hR hS hz hw => ⟨_, vx_runSW (As := [am_R x, am_I z, am_I w, am_R o].map (am_cv base KV)) (rest := st.map (am_cv base KV)) ⟨C.1, C.2.1, rfl, C.2.2.2.1, C.2.2.2.2.1⟩ hM (cw h2) ⟨am_blind, am_pre C hR hS (as := [am_R x, am_I z, am_I w, am_R o]) hw⟩ rfl rfl hz rfl (am_roomW C.kv hsum) hd ⟨?_, ?_⟩⟩) rfl k
    · have := hg.1; omega
    · have := hg.2; omega
  refine ⟨fun mz v h1 h2 hmz hM hw hz hg hc hs k => ?_, fun hz hc hs k => ?_⟩
  · have e305 : am_m305 = mz := Option.some.inj ((rfl : am_ms[305]? = some am_m305).symm.trans hmz)
    subst e305
    refine run (am_I 0) h2 (zl_r0 hM hw hz hg) ?_ hc hs k
    obtain ⟨n, f, w1, w2, w3, rfl⟩ := am_wr_inv hw
    exact hg
  · exact run (am_I 1) (am_push h am_no 6) (zl_r1 hl hz) (am_ge_push h am_no 6) hc hs k
end ZLL
