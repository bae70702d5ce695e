/-! one step more of fuel -/
set_option maxHeartbeats 2000000 in
theorem am_Sn_succ {l : Launch} {D : va_G} {ca : Nat → ClassId} {base : Nat} {KV : Nat → Value} {sc : Nat × (Nat → Int)} (hOK : am_OK) (hZ : am_ZL l D ca base KV sc) {n : Nat} (hS : am_Sn l D ca base KV sc n) : am_Sn l D ca base KV sc (n + 1) := by
  intro y m hy p e R s mi args below meth c Q n0 s0 C v h1 hc hs hret pc ls st h hF hn0 hs0
  have go : ∀ (pc : Nat) (ls st : List am_V) (h : am_H), am_F am_ms n y pc ls st h = some (v, h1) → n0 ≤ h.2.1 → s0 ≤ h.2.2.1 → am_Wt p l e R s mi args below meth c Q D ca base KV n0 s0 sc pc ls st h := fun pc ls st h hF a b => hS y m hy p e R s mi args below meth c Q n0 s0 C v h1 hc hs hret pc ls st h hF a b
  have fin : ∀ {pc : Nat} {ls st : List am_V} {h' : am_H}, am_F am_ms n y pc ls st h' = some (v, h1) → am_ge h' h1 := fun q => am_F_ge n y _ _ _ _ _ q
  obtain ⟨⟨i, len, hn⟩, e1, e2⟩ := Option.bind_eq_some_iff.mp (show (am_code am_ms y pc).bind _ = some (v, h1) from hF)
  obtain ⟨hlk, hd, hto⟩ := am_row hOK hy e1
  dsimp only at hlk hd hto e2
  have k20 : ∀ idx, i = .invokestatic idx → am_n hn 0 = 20 → m.2.2.2.2.1 = 11 ∧ m.2.2.2.2.2.1 = 271 := fun idx hi h0 => am_k20 hy (len := len) (by rw [← hi]; exact e1) h0
  clear e1 hF
  cases i with
  | iconst k =>
    obtain ⟨rfl, a1, a2⟩ := hlk
    exact am_s_iconst C hd ⟨by have := of_decide_eq_true a1; omega, by have := of_decide_eq_true a2; omega⟩ (go _ _ _ _ e2 hn0 hs0)
  | bipush k =>
    obtain ⟨rfl, a1, a2⟩ := hlk
    exact am_s_bipush C hd (of_decide_eq_true a1) (of_decide_eq_true a2) (go _ _ _ _ e2 hn0 hs0)
  | sipush k =>
    obtain ⟨rfl, a1, a2⟩ := hlk
    exact am_s_sipush C hd (of_decide_eq_true a1) (of_decide_eq_true a2) (go _ _ _ _ e2 hn0 hs0)
  | lconst k =>
    have hl : len = 1 := hlk
    subst hl
    exact am_s_lconst C hd (go _ _ _ _ e2 hn0 hs0)
  | ldc idx =>
    obtain ⟨rfl, hlk⟩ := hlk
    simp only [am_ex] at e2
    split at e2
    · rename_i h0
      rw [h0] at hlk
      exact am_s_ldc C hd hlk.1 (of_decide_eq_true hlk.2) (go _ _ _ _ e2 hn0 hs0)
    · rename_i h0
      rw [h0] at hlk
      exact am_s_ldcs C hd hlk.2 hlk.1 (go _ _ _ _ e2 hn0 hs0)
    · cases e2
  | ldc_w idx =>
    obtain ⟨rfl, a1, a2⟩ := hlk
    exact am_s_ldcw C hd a1 (of_decide_eq_true a2) (go _ _ _ _ e2 hn0 hs0)
  | ldc2_w idx =>
    obtain ⟨rfl, a1, a2⟩ := hlk
    exact am_s_ldc2 C hd a1 (of_decide_eq_true a2) (go _ _ _ _ e2 hn0 hs0)
  | iload k =>
    have hl : len = 2 := hlk
    subst hl
    obtain ⟨x, hx, e3⟩ := am_ldI_inv e2
    exact am_s_iload C hd hx (go _ _ _ _ e3 hn0 hs0)
  | iload_n k =>
    have hl : len = 1 := hlk
    subst hl
    obtain ⟨x, hx, e3⟩ := am_ldI_inv e2
    exact am_s_iload_n C hd hx (go _ _ _ _ e3 hn0 hs0)
  | lload k =>
    have hl : len = 2 := hlk
    subst hl
    obtain ⟨x, hx, e3⟩ := am_ldL_inv e2
    exact am_s_lload C hd hx (go _ _ _ _ e3 hn0 hs0)
  | lload_n k =>
    have hl : len = 1 := hlk
    subst hl
    obtain ⟨x, hx, e3⟩ := am_ldL_inv e2
    exact am_s_lload_n C hd hx (go _ _ _ _ e3 hn0 hs0)
  | aload k =>
    have hl : len = 2 := hlk
    subst hl
    rcases am_ldA_inv e2 with ⟨x, hx, e3⟩ | ⟨x, hx, hx1, e3⟩
    · exact am_s_aload C hd hx (go _ _ _ _ e3 hn0 hs0)
    · exact am_s_aloadK C hd hx hx1 (go _ _ _ _ e3 hn0 hs0)
  | aload_n k =>
    have hl : len = 1 := hlk
    subst hl
    rcases am_ldA_inv e2 with ⟨x, hx, e3⟩ | ⟨x, hx, hx1, e3⟩
    · exact am_s_aload_n C hd hx (go _ _ _ _ e3 hn0 hs0)
    · exact am_s_aload_nK C hd hx hx1 (go _ _ _ _ e3 hn0 hs0)
  | istore k =>
    have hl : len = 2 := hlk
    subst hl
    obtain ⟨x, st', rfl, hok, e3⟩ := am_stI_inv e2
    exact am_s_istore C hd hok (go _ _ _ _ e3 hn0 hs0)
  | istore_n k =>
    have hl : len = 1 := hlk
    subst hl
    obtain ⟨x, st', rfl, hok, e3⟩ := am_stI_inv e2
    exact am_s_istore_n C hd hok (go _ _ _ _ e3 hn0 hs0)
  | astore k =>
    have hl : len = 2 := hlk
    subst hl
    rcases am_stA_inv e2 with ⟨x, st', rfl, hok, e3⟩ | ⟨x, st', rfl, hok, e3⟩
    · exact am_s_astore C hd hok (go _ _ _ _ e3 hn0 hs0)
    · exact am_s_astoreK C hd hok (go _ _ _ _ e3 hn0 hs0)
  | astore_n k =>
    have hl : len = 1 := hlk
    subst hl
    rcases am_stA_inv e2 with ⟨x, st', rfl, hok, e3⟩ | ⟨x, st', rfl, hok, e3⟩
    · exact am_s_astore_n C hd hok (go _ _ _ _ e3 hn0 hs0)
    · exact am_s_astore_nK C hd hok (go _ _ _ _ e3 hn0 hs0)
  | iinc k d =>
    obtain ⟨rfl, -, -⟩ := hlk
    simp only [am_ex] at e2
    split at e2
    · rename_i x hx
      obtain ⟨hok, e3⟩ := am_bif e2
      exact am_s_iinc C hd hok hx (go _ _ _ _ e3 hn0 hs0)
    · cases e2
  | iadd =>
    have hl : len = 1 := hlk
    subst hl
    obtain ⟨x, y', st', rfl, e3⟩ := am_b2_inv e2
    exact am_s_iadd C hd (go _ _ _ _ e3 hn0 hs0)
  | isub =>
    have hl : len = 1 := hlk
    subst hl
    obtain ⟨x, y', st', rfl, e3⟩ := am_b2_inv e2
    exact am_s_isub C hd (go _ _ _ _ e3 hn0 hs0)
  | imul =>
    have hl : len = 1 := hlk
    subst hl
    obtain ⟨x, y', st', rfl, e3⟩ := am_b2_inv e2
    exact am_s_imul C hd (go _ _ _ _ e3 hn0 hs0)
  | iand =>
    have hl : len = 1 := hlk
    subst hl
    obtain ⟨x, y', st', rfl, e3⟩ := am_b2_inv e2
    exact am_s_iand C hd (go _ _ _ _ e3 hn0 hs0)
  | ior =>
    have hl : len = 1 := hlk
    subst hl
    obtain ⟨x, y', st', rfl, e3⟩ := am_b2_inv e2
    exact am_s_ior C hd (go _ _ _ _ e3 hn0 hs0)
  | ishl =>
    have hl : len = 1 := hlk
    subst hl
    obtain ⟨x, y', st', rfl, e3⟩ := am_b2_inv e2
    exact am_s_ishl C hd (go _ _ _ _ e3 hn0 hs0)
  | ishr =>
    have hl : len = 1 := hlk
    subst hl
    obtain ⟨x, y', st', rfl, e3⟩ := am_b2_inv e2
    exact am_s_ishr C hd (go _ _ _ _ e3 hn0 hs0)
  | iushr =>
    have hl : len = 1 := hlk
    subst hl
    obtain ⟨x, y', st', rfl, e3⟩ := am_b2_inv e2
    exact am_s_iushr C hd (go _ _ _ _ e3 hn0 hs0)
  | idiv =>
    have hl : len = 1 := hlk
    subst hl
    obtain ⟨x, y', st', rfl, h0, e3⟩ := am_d2_inv e2
    exact am_s_idiv C hd h0 (go _ _ _ _ e3 hn0 hs0)
  | irem =>
    have hl : len = 1 := hlk
    subst hl
    obtain ⟨x, y', st', rfl, h0, e3⟩ := am_d2_inv e2
    exact am_s_irem C hd h0 (go _ _ _ _ e3 hn0 hs0)
  | ladd =>
    have hl : len = 1 := hlk
    subst hl
    obtain ⟨x, y', st', rfl, e3⟩ := am_l2_inv e2
    exact am_s_ladd C hd (go _ _ _ _ e3 hn0 hs0)
  | lmul =>
    have hl : len = 1 := hlk
    subst hl
    obtain ⟨x, y', st', rfl, e3⟩ := am_l2_inv e2
    exact am_s_lmul C hd (go _ _ _ _ e3 hn0 hs0)
  | land =>
    have hl : len = 1 := hlk
    subst hl
    obtain ⟨x, y', st', rfl, e3⟩ := am_l2_inv e2
    exact am_s_land C hd (go _ _ _ _ e3 hn0 hs0)
  | lor =>
    have hl : len = 1 := hlk
    subst hl
    obtain ⟨x, y', st', rfl, e3⟩ := am_l2_inv e2
    exact am_s_lor C hd (go _ _ _ _ e3 hn0 hs0)
  | ldiv =>
    have hl : len = 1 := hlk
    subst hl
    obtain ⟨x, y', st', rfl, h0, e3⟩ := am_e2_inv e2
    exact am_s_ldiv C hd h0 (go _ _ _ _ e3 hn0 hs0)
  | lrem =>
    have hl : len = 1 := hlk
    subst hl
    obtain ⟨x, y', st', rfl, h0, e3⟩ := am_e2_inv e2
    exact am_s_lrem C hd h0 (go _ _ _ _ e3 hn0 hs0)
  | lshl =>
    have hl : len = 1 := hlk
    subst hl
    obtain ⟨x, y', st', rfl, e3⟩ := am_s2_inv e2
    exact am_s_lshl C hd (go _ _ _ _ e3 hn0 hs0)
  | lushr =>
    have hl : len = 1 := hlk
    subst hl
    obtain ⟨x, y', st', rfl, e3⟩ := am_s2_inv e2
    exact am_s_lushr C hd (go _ _ _ _ e3 hn0 hs0)
  | lcmp =>
    have hl : len = 1 := hlk
    subst hl
    simp only [am_ex] at e2
    split at e2
    · exact am_s_lcmp C hd (go _ _ _ _ e2 hn0 hs0)
    · cases e2
  | i2l =>
    have hl : len = 1 := hlk
    subst hl
    simp only [am_ex] at e2
    split at e2
    · exact am_s_i2l C hd (go _ _ _ _ e2 hn0 hs0)
    · cases e2
  | l2i =>
    have hl : len = 1 := hlk
    subst hl
    simp only [am_ex] at e2
    split at e2
    · exact am_s_l2i C hd (go _ _ _ _ e2 hn0 hs0)
    · cases e2
  | i2b =>
    have hl : len = 1 := hlk
    subst hl
    simp only [am_ex] at e2
    split at e2
    · exact am_s_i2b C hd (go _ _ _ _ e2 hn0 hs0)
    · cases e2
  | i2c =>
    have hl : len = 1 := hlk
    subst hl
    simp only [am_ex] at e2
    split at e2
    · exact am_s_i2c C hd (go _ _ _ _ e2 hn0 hs0)
    · cases e2
  | dup =>
    have hl : len = 1 := hlk
    subst hl
    simp only [am_ex] at e2
    split at e2
    · obtain ⟨a1, e3⟩ := am_bif e2
      exact am_s_dup C hd (Nat.eq_of_beq_eq_true a1) (go _ _ _ _ e3 hn0 hs0)
    · cases e2
  | pop =>
    have hl : len = 1 := hlk
    subst hl
    simp only [am_ex] at e2
    split at e2
    · obtain ⟨a1, e3⟩ := am_bif e2
      exact am_s_pop C hd (Nat.eq_of_beq_eq_true a1) (go _ _ _ _ e3 hn0 hs0)
    · cases e2
  | dup2 =>
    have hl : len = 1 := hlk
    subst hl
    simp only [am_ex] at e2
    split at e2
    · obtain ⟨a1, e3⟩ := am_bif e2
      simp only [Bool.and_eq_true] at a1
      exact am_s_dup2 C hd (Nat.eq_of_beq_eq_true a1.1) (Nat.eq_of_beq_eq_true a1.2) (go _ _ _ _ e3 hn0 hs0)
    · cases e2
  | if_icmp cn off =>
    have hl : len = 3 := hlk
    subst hl
    simp only [am_ex] at e2
    split at e2
    · exact am_s_icmp C hd (of_decide_eq_true hto) (fun q => go _ _ _ _ (by rw [q] at e2; exact e2) hn0 hs0) (fun q => go _ _ _ _ (by rw [q] at e2; exact e2) hn0 hs0)
    · cases e2
  | ifCond cn off =>
    have hl : len = 3 := hlk
    subst hl
    simp only [am_ex] at e2
    split at e2
    · exact am_s_if C hd (of_decide_eq_true hto) (fun q => go _ _ _ _ (by rw [q] at e2; exact e2) hn0 hs0) (fun q => go _ _ _ _ (by rw [q] at e2; exact e2) hn0 hs0)
    · cases e2
  | goto off =>
    have hl : len = 3 := hlk
    subst hl
    exact am_s_goto C hd (of_decide_eq_true hto) (go _ _ _ _ e2 hn0 hs0)
  | ifnull off =>
    have hl : len = 3 := hlk
    subst hl
    simp only [am_ex] at e2
    split at e2
    · exact am_s_ifnull C hd (go _ _ _ _ e2 hn0 hs0)
    · obtain ⟨a1, e3⟩ := am_bif e2
      have a2 := Nat.eq_of_beq_eq_true a1
      subst a2
      exact am_s_ifnullN C hd (of_decide_eq_true hto) (go _ _ _ _ e3 hn0 hs0)
    · cases e2
  | ifnonnull off =>
    have hl : len = 3 := hlk
    subst hl
    simp only [am_ex] at e2
    split at e2
    · exact am_s_ifnonnull C hd (of_decide_eq_true hto) (go _ _ _ _ e2 hn0 hs0)
    · obtain ⟨a1, e3⟩ := am_bif e2
      have a2 := Nat.eq_of_beq_eq_true a1
      subst a2
      exact am_s_ifnonnullN C hd (go _ _ _ _ e3 hn0 hs0)
    · cases e2
  | tableswitch dflt lo hi offs =>
    obtain ⟨a1, a2⟩ := hlk
    simp only [am_to, Bool.and_eq_true, decide_eq_true_eq] at hto
    simp only [am_ex] at e2
    split at e2
    · exact am_s_tsw C hd (of_decide_eq_true a1) a2 hto.1 (fun o ho => of_decide_eq_true (List.all_eq_true.mp hto.2 o ho)) (go _ _ _ _ e2 hn0 hs0)
    · cases e2
  | lookupswitch dflt ps =>
    simp only [am_to, Bool.and_eq_true, decide_eq_true_eq] at hto
    simp only [am_ex] at e2
    split at e2
    · exact am_s_lsw C hd hlk (am_lso hto.1 _ (fun o ho => of_decide_eq_true (List.all_eq_true.mp hto.2 o ho))) (go _ _ _ _ e2 hn0 hs0)
    · cases e2
  | getfield idx =>
    obtain ⟨rfl, hlk⟩ := hlk
    simp only [am_ex] at e2
    split at e2
    · rename_i a st'
      by_cases h99 : am_n hn 0 = 99
      · intro wl ws H locs lc hR
        exfalso
        have key : ∃ fs, h.1 a = am_ob (am_n hn 0) fs := by
          split at e2
          · obtain ⟨x, f1, -⟩ := Option.bind_eq_some_iff.mp e2
            obtain ⟨fs, g1, -⟩ := am_gfL_inv f1
            exact ⟨fs, g1⟩
          · obtain ⟨x, f1, -⟩ := Option.bind_eq_some_iff.mp e2
            obtain ⟨fs, g1, -⟩ := am_gfR_inv f1
            exact ⟨fs, g1⟩
          · obtain ⟨x, f1, -⟩ := Option.bind_eq_some_iff.mp e2
            obtain ⟨fs, g1, -⟩ := am_gfI_inv f1
            exact ⟨fs, g1⟩
        obtain ⟨fs, g1⟩ := key
        have := (hR.ob g1).1
        omega
      · split at hlk
        · rename_i q; exact absurd q h99
        · obtain ⟨b1, b2, b3, b4⟩ := hlk
          have hk := Nat.blt_eq.mp b1
          split at e2
          · obtain ⟨x, f1, f2⟩ := Option.bind_eq_some_iff.mp e2
            obtain ⟨fs, g1, g2⟩ := am_gfL_inv f1
            exact am_s_getf C hd hk b2 b3 g1 g2 (go _ _ _ _ f2 hn0 hs0)
          · obtain ⟨x, f1, f2⟩ := Option.bind_eq_some_iff.mp e2
            obtain ⟨fs, g1, g2⟩ := am_gfR_inv f1
            exact am_s_getf C hd hk b2 b3 g1 g2 (go _ _ _ _ f2 hn0 hs0)
          · obtain ⟨x, f1, f2⟩ := Option.bind_eq_some_iff.mp e2
            obtain ⟨fs, g1, g2⟩ := am_gfI_inv f1
            exact am_s_getf C hd hk b2 b3 g1 g2 (go _ _ _ _ f2 hn0 hs0)
    · obtain ⟨a1, e3⟩ := am_bif e2
      simp only [Bool.and_eq_true] at a1
      have a2 := Nat.eq_of_beq_eq_true a1.1
      rw [a2] at hlk
      obtain ⟨b1, b2⟩ := hlk
      have b3 := Nat.le_of_ble_eq_true b1
      refine am_s_getk C hd b2 (by omega) a1.2 (fun q => ?_) (fun q => ?_)
      · rw [q] at e3; exact go _ _ _ _ e3 hn0 hs0
      · rw [q] at e3; exact go _ _ _ _ e3 hn0 hs0
    · cases e2
  | putfield idx =>
    obtain ⟨rfl, b1, b2, b3, b4, b5⟩ := hlk
    simp only [am_ex] at e2
    split at e2
    · obtain ⟨a1, e3⟩ := am_bif e2
      obtain ⟨h', f1, f2⟩ := Option.bind_eq_some_iff.mp e3
      obtain ⟨fs, g1, rfl⟩ := am_pf_inv f1
      exact am_s_putf C hd (Nat.blt_eq.mp b1) b2 b3 b5 g1 (by rw [b4]; exact a1) (go _ _ _ _ f2 hn0 hs0)
    · cases e2
  | getstatic idx =>
    obtain ⟨rfl, hlk⟩ := hlk
    simp only [am_ex] at e2
    split at e2
    · rename_i h0
      rw [h0] at hlk
      refine am_s_gets C hd hlk.1 ?_ (go _ _ _ _ e2 hn0 hs0)
      have h3 := hlk.2
      simp only [Bool.or_eq_true, Bool.and_eq_true] at h3
      rcases h3 with q | q
      · exact Or.inl (Nat.eq_of_beq_eq_true q)
      · exact Or.inr ⟨Nat.le_of_ble_eq_true q.1, Nat.le_of_ble_eq_true q.2⟩
    · rename_i h0
      rw [h0] at hlk
      have h4 : hn.getD 1 0 = 1 := hlk.2
      rw [h4] at e2
      exact am_s_getz C hd hlk.1 (go _ _ _ _ e2 hn0 hs0)
    · cases e2
  | new idx =>
    obtain ⟨rfl, b0, b1, b2, b3, b4⟩ := hlk
    simp only [am_ex] at e2
    rw [b1] at e2
    have g := fin e2
    have hci : am_n hn 0 < 10 := Nat.blt_eq.mp b0
    exact am_s_new C hd hci b2 b3 b4 hn0 hs0 (by have := g.1; have : (am_push h (am_ob (am_n hn 0) (am_dfl (am_n hn 0))) (am_clN (am_n hn 0))).2.1 = h.2.1 + 1 := rfl; omega) (by have := g.2; have : (am_push h (am_ob (am_n hn 0) (am_dfl (am_n hn 0))) (am_clN (am_n hn 0))).2.2.1 = h.2.2.1 + am_clN (am_n hn 0) := rfl; omega) (go _ _ _ _ e2 (Nat.le_succ_of_le hn0) (Nat.le_trans hs0 (Nat.le_add_right _ _)))
  | newarray t =>
    obtain ⟨rfl, b1, b2⟩ := hlk
    simp only [am_ex] at e2
    split at e2
    · rename_i k st'
      split at e2
      · rename_i hk
        have g := fin e2
        exact am_s_newa C hd (Nat.blt_eq.mp b2) b1 hk.1 hk.2 hn0 hs0 (by have := g.1; have : (am_push h (am_ar (am_ty t) k.toNat (fun _ => 0)) k.toNat).2.1 = h.2.1 + 1 := rfl; omega) (by have := g.2; have : (am_push h (am_ar (am_ty t) k.toNat (fun _ => 0)) k.toNat).2.2.1 = h.2.2.1 + k.toNat := rfl; omega) (go _ _ _ _ e2 (Nat.le_succ_of_le hn0) (Nat.le_trans hs0 (Nat.le_add_right _ _)))
      · cases e2
    · cases e2
  | anewarray idx =>
    obtain ⟨rfl, hlk⟩ := hlk
    simp only [am_ex] at e2
    split at e2
    · rename_i k st'
      split at e2
      · rename_i hk
        have g := fin e2
        have key : ∃ q, (am_n hn 0 = 3 ∨ am_n hn 0 = 4) ∧ am_W q (.classLink m.1.cls idx (am_rcl (am_n hn 0))) := by
          split at hlk
          · rename_i h0; rw [h0]; exact ⟨_, Or.inl rfl, hlk⟩
          · rename_i h0; rw [h0]; exact ⟨_, Or.inr rfl, hlk⟩
          · cases hlk
        obtain ⟨q, k1, k2⟩ := key
        exact am_s_anew C hd k1 k2 hk.1 hk.2 hn0 hs0 (by have := g.1; have : (am_push h (am_ra (am_n hn 0) k.toNat (fun _ => none)) k.toNat).2.1 = h.2.1 + 1 := rfl; omega) (by have := g.2; have : (am_push h (am_ra (am_n hn 0) k.toNat (fun _ => none)) k.toNat).2.2.1 = h.2.2.1 + k.toNat := rfl; omega) (go _ _ _ _ e2 (Nat.le_succ_of_le hn0) (Nat.le_trans hs0 (Nat.le_add_right _ _)))
      · cases e2
    · cases e2
  | iaload =>
    have hl : len = 1 := hlk
    subst hl
    simp only [am_ex] at e2
    split at e2
    · obtain ⟨x, f1, f2⟩ := Option.bind_eq_some_iff.mp e2
      obtain ⟨k, f, g1, g2, g3, rfl⟩ := am_rd_inv f1
      exact am_s_iald C hd g1 g2 g3 (go _ _ _ _ f2 hn0 hs0)
    · obtain ⟨x, f1, f2⟩ := Option.bind_eq_some_iff.mp e2
      exact am_s_tald C hd f1 (go _ _ _ _ f2 hn0 hs0)
    · cases e2
  | baload =>
    have hl : len = 1 := hlk
    subst hl
    simp only [am_ex] at e2
    split at e2
    · obtain ⟨x, f1, f2⟩ := Option.bind_eq_some_iff.mp e2
      obtain ⟨k, f, g1, g2, g3, rfl⟩ := am_rd_inv f1
      exact am_s_bald C hd g1 g2 g3 (go _ _ _ _ f2 hn0 hs0)
    · obtain ⟨x, f1, f2⟩ := Option.bind_eq_some_iff.mp e2
      exact am_s_tbald C hd f1 (go _ _ _ _ f2 hn0 hs0)
    · cases e2
  | laload =>
    have hl : len = 1 := hlk
    subst hl
    simp only [am_ex] at e2
    split at e2
    · obtain ⟨x, f1, f2⟩ := Option.bind_eq_some_iff.mp e2
      obtain ⟨k, f, g1, g2, g3, rfl⟩ := am_rd_inv f1
      exact am_s_lald C hd g1 g2 g3 (go _ _ _ _ f2 hn0 hs0)
    · cases e2
  | iastore =>
    have hl : len = 1 := hlk
    subst hl
    simp only [am_ex] at e2
    split at e2
    · obtain ⟨x, f1, f2⟩ := Option.bind_eq_some_iff.mp e2
      obtain ⟨k, f, g1, g2, g3, rfl⟩ := am_wr_inv f1
      exact am_s_iast C hd g1 g2 g3 (go _ _ _ _ f2 hn0 hs0)
    · cases e2
  | bastore =>
    have hl : len = 1 := hlk
    subst hl
    simp only [am_ex] at e2
    split at e2
    · obtain ⟨x, f1, f2⟩ := Option.bind_eq_some_iff.mp e2
      obtain ⟨k, f, g1, g2, g3, rfl⟩ := am_wr_inv f1
      exact am_s_bast C hd g1 g2 g3 (go _ _ _ _ f2 hn0 hs0)
    · cases e2
  | lastore =>
    have hl : len = 1 := hlk
    subst hl
    simp only [am_ex] at e2
    split at e2
    · obtain ⟨x, f1, f2⟩ := Option.bind_eq_some_iff.mp e2
      obtain ⟨k, f, g1, g2, g3, rfl⟩ := am_wr_inv f1
      exact am_s_last C hd g1 g2 g3 (go _ _ _ _ f2 hn0 hs0)
    · cases e2
  | aaload =>
    have hl : len = 1 := hlk
    subst hl
    simp only [am_ex] at e2
    split at e2
    · obtain ⟨x, f1, f2⟩ := Option.bind_eq_some_iff.mp e2
      obtain ⟨ty, k, f, g1, g2, g3, rfl⟩ := am_rr_inv f1
      refine am_s_aald C hd g1 g2 g3 (fun q => ?_) (fun b q => ?_)
      · rw [q] at f2; exact go _ _ _ _ f2 hn0 hs0
      · rw [q] at f2; exact go _ _ _ _ f2 hn0 hs0
    · cases e2
  | aastore =>
    have hl : len = 1 := hlk
    subst hl
    simp only [am_ex] at e2
    split at e2
    · obtain ⟨x, f1, f2⟩ := Option.bind_eq_some_iff.mp e2
      obtain ⟨ty, k, f, fs, g1, g2, g3, g4, rfl⟩ := am_wrr_inv f1
      exact am_s_aast C hd g1 g2 g3 g4 (go _ _ _ _ f2 hn0 hs0)
    · cases e2
  | arraylength =>
    have hl : len = 1 := hlk
    subst hl
    simp only [am_ex] at e2
    split at e2
    · obtain ⟨x, f1, f2⟩ := Option.bind_eq_some_iff.mp e2
      obtain ⟨k, rfl, g2, g3⟩ := am_len_inv f1
      exact am_s_alen C hd g2 g3 (go _ _ _ _ f2 hn0 hs0)
    · obtain ⟨x, f1, f2⟩ := Option.bind_eq_some_iff.mp e2
      exact am_s_tlen C hd f1 (go _ _ _ _ f2 hn0 hs0)
    · cases e2
  | ireturn =>
    obtain ⟨rfl, hb4, hr⟩ := hlk
    have hb4 := Nat.blt_eq.mp hb4
    simp only [am_ex] at e2
    split at e2
    · rename_i x
      obtain ⟨a1, e3⟩ := am_bif e2
      cases e3
      intro wl ws H locs lc hR hSS hL
      refine ((hret H locs lc pc hR hSS).2 x _ rfl hd hr ?_ (am_wh0 ws))
      have hx : am_i32 x := am_wh0 ws
      unfold am_rok at a1
      split at a1
      · rename_i h0
        rw [h0]
        simp only [Bool.or_eq_true, decide_eq_true_eq] at a1
        rcases a1 with rfl | rfl <;> rfl
      · rename_i h0
        rw [h0]
        simp only [Bool.and_eq_true, decide_eq_true_eq] at a1
        show Value.int _ = _
        rw [lg_i2c_small (by rw [am_toInt hx]; exact a1.1) (by rw [am_toInt hx]; exact a1.2)]
      · rename_i h0
        rw [h0]
        simp only [Bool.and_eq_true, decide_eq_true_eq] at a1
        show Value.int _ = _
        rw [lg_i2b_small (by rw [am_toInt hx]; exact a1.1) (by rw [am_toInt hx]; exact a1.2)]
      · rename_i k1 k2 k3
        have h6 : am_n hn 0 = 0 := by
          rcases (show am_n hn 0 = 0 ∨ am_n hn 0 = 1 ∨ am_n hn 0 = 2 ∨ am_n hn 0 = 3 by omega) with q | q | q | q
          · exact q
          · exact absurd q k1
          · exact absurd q k2
          · exact absurd q k3
        rw [h6]
        rfl
    · cases e2
  | return_ =>
    obtain ⟨rfl, hr⟩ := hlk
    simp only [am_ex] at e2
    split at e2
    · cases e2
      intro wl ws H locs lc hR hSS hL
      exact (hret H locs lc pc hR hSS).1 rfl hd hr
    · cases e2
  | invokevirtual idx =>
    obtain ⟨rfl, b1, b2, b3, b4, b5, b6, b7⟩ := hlk
    have b3 := Nat.blt_eq.mp b3
    simp only [am_ex, am_iv] at e2
    split at b7
    · rename_i h0
      simp only [h0] at e2
      split at e2
      · rename_i a ha
        obtain ⟨u, f1, f2⟩ := Option.bind_eq_some_iff.mp e2
        obtain ⟨fs, g1⟩ := am_isc_inv f1
        obtain ⟨k1, k2, k3⟩ := am_cl_inv f2
        obtain ⟨mz, v2, h2, hd2, ho, hM, hg1, hg2, hF2, -⟩ := am_callee hOK hS hy b1 k3
        obtain ⟨s1, s2, s3⟩ := am_split_at b3 ha
        rw [s1] at hM
        rw [hd2] at b1 b2 b4 b5 b6 b7
        have key := am_s_callV (p := p) (e := e) (s := s) (mi := mi) (args := args) (below := below) (meth := meth) (c := c) (Q := Q) (ls := ls) C hd ho b1 b2 b4 b5 b6 b7 g1 s3 hM k2 hg1 hn0 hs0 (by have := hg2.1; omega) (by have := hg2.2; omega) (go _ _ _ _ hF2 (Nat.le_trans hn0 hg1.1) (Nat.le_trans hs0 hg1.2))
        rw [s2] at key
        exact key
      · cases e2
    · rename_i h0
      simp only [h0] at e2
      split at e2
      · rename_i a ha
        obtain ⟨f1, f2⟩ := am_bif e2
        obtain ⟨k1, k2, k3⟩ := am_cl_inv f2
        obtain ⟨mz, v2, h2, hd2, ho, hM, hg1, hg2, hF2, -⟩ := am_callee hOK hS hy b1 k3
        obtain ⟨s1, s2, s3⟩ := am_split_at b3 ha
        rw [s1] at hM
        rw [hd2] at b1 b2 b4 b5 b6 b7
        have key := am_s_callT (p := p) (e := e) (s := s) (mi := mi) (args := args) (below := below) (meth := meth) (c := c) (Q := Q) (ls := ls) C hd ho b1 b2 b4 b5 b6 b7 f1 s3 hM k2 hg1 hn0 hs0 (by have := hg2.1; omega) (by have := hg2.2; omega) (go _ _ _ _ hF2 (Nat.le_trans hn0 hg1.1) (Nat.le_trans hs0 hg1.2))
        rw [s2] at key
        exact key
      · cases e2
    · cases b7
  | invokespecial idx =>
    obtain ⟨rfl, hlk⟩ := hlk
    simp only [am_ex, am_iv] at e2
    split at hlk
    · rename_i h0
      simp only [h0] at e2
      obtain ⟨b1, b2, b3, b4, b5⟩ := hlk
      split at e2
      · obtain ⟨f1, f2⟩ := am_bif e2
        exact am_s_objinit C hd b1 b2 b3 (Nat.le_of_ble_eq_true b4) (Nat.le_of_ble_eq_true b5) (Nat.le_of_ble_eq_true f1) (go _ _ _ _ f2 hn0 hs0)
      · cases e2
    · obtain ⟨b1, b2, b3, b8, b5, b6, b7⟩ := hlk
      have b3 := Nat.blt_eq.mp b3
      split at b7
      · rename_i h0
        simp only [h0] at e2
        split at e2
        · rename_i a ha
          obtain ⟨k1, k2, k3⟩ := am_cl_inv e2
          obtain ⟨mz, v2, h2, hd2, ho, hM, hg1, hg2, hF2, hrn⟩ := am_callee hOK hS hy b1 k3
          obtain ⟨s1, s2, s3⟩ := am_split_at b3 ha
          rw [s1] at hM
          rw [hd2] at b1 b2 b5 b6 b7
          have hr0 : mz.2.2.2.1 = none := hrn b8
          have key := am_s_callI (p := p) (e := e) (s := s) (mi := mi) (args := args) (below := below) (meth := meth) (c := c) (Q := Q) (ls := ls) C hd ho b1 hr0 b2 b7 b5 b6 s3 hM k2 hg1 hn0 hs0 (by have := hg2.1; omega) (by have := hg2.2; omega) (go _ _ _ _ hF2 (Nat.le_trans hn0 hg1.1) (Nat.le_trans hs0 hg1.2))
          rw [s2] at key
          exact key
        · cases e2
      · rename_i h0
        simp only [h0] at e2
        split at e2
        · rename_i a ha
          obtain ⟨k1, k2, k3⟩ := am_cl_inv e2
          obtain ⟨mz, v2, h2, hd2, ho, hM, hg1, hg2, hF2, hrn⟩ := am_callee hOK hS hy b1 k3
          obtain ⟨s1, s2, s3⟩ := am_split_at b3 ha
          rw [s1] at hM
          rw [hd2] at b1 b2 b5 b6 b7
          have hr0 : mz.2.2.2.1 = none := hrn b8
          have key := am_s_callIN (p := p) (e := e) (s := s) (mi := mi) (args := args) (below := below) (meth := meth) (c := c) (Q := Q) (ls := ls) C hd ho b1 hr0 b2 b7 b5 b6 s3 hM k2 hg1 hn0 hs0 (by have := hg2.1; omega) (by have := hg2.2; omega) (go _ _ _ _ hF2 (Nat.le_trans hn0 hg1.1) (Nat.le_trans hs0 hg1.2))
          rw [s2] at key
          exact key
        · cases e2
      · cases b7
  | invokestatic idx =>
    obtain ⟨rfl, hlk⟩ := hlk
    simp only [am_ex, am_iv] at e2
    split at hlk
    · rename_i h0
      simp only [h0] at e2
      obtain ⟨b1, b2, b3, b4, b5, b6⟩ := hlk
      split at e2
      · rename_i k dp d sp sv st'
        obtain ⟨f1, f2⟩ := am_bif e2
        obtain ⟨h', f3, f4⟩ := Option.bind_eq_some_iff.mp f2
        have b5 := Nat.le_of_ble_eq_true b5
        have b6 := Nat.le_of_ble_eq_true b6
        have f1 := Nat.le_of_ble_eq_true f1
        unfold am_cpy at f3
        split at f3
        · rename_i a
          split at f3
          · rename_i t k0 f hca
            split at f3
            · rename_i ht
              subst ht
              obtain ⟨n1, g, c1, c2, c3, c4, c5, c6, rfl⟩ := am_cp_inv f3
              intro wl ws H locs lc hR hSS hL
              exact am_s_copy (p := p) (e := e) (s := s) (mi := mi) (args := args) (below := below) (meth := meth) (c := c) (Q := Q) (ls := ls) C hd b1 b2 b3 b4 b5 b6 f1 c1 (src := am_R a) (b0 := base + a) rfl (hR.ar hca).2.2 c2 c3 c4 c5 c6 (fun H locs hR hS => ⟨_, (hR.ar hca).2.1, C.arr (ty := 0) rfl k0 _, (fun q => by cases q), (by rw [arrV_size]; exact Nat.le_refl _), fun j hj => by rw [arrV_read _ _ hj]; rfl⟩) (go _ _ _ _ f4 hn0 hs0) wl ws H locs lc hR hSS hL
            · cases f3
          · cases f3
        · rename_i t
          split at f3
          · rename_i ht
            obtain ⟨n1, g, c1, c2, c3, c4, c5, c6, rfl⟩ := am_cp_inv f3
            obtain ⟨-, -, -, -, -, -, g7, -⟩ := C.2.2.2.2.2.2.1
            obtain ⟨t0, e3, cell, t1, t2, t3, t4, -, t5, t6⟩ := g7 t ht
            refine am_s_copy (p := p) (e := e) (s := s) (mi := mi) (args := args) (below := below) (meth := meth) (c := c) (Q := Q) (ls := ls) C hd b1 b2 b3 b4 b5 b6 f1 c1 (src := am_K t) (b0 := t0) e3 (fun j => ?_) c2 c3 c4 c5 c6 (fun H locs hR hS => ⟨cell, (by rw [hS.2.1 t0 (Array.getElem?_eq_some_iff.mp t1).1 t6]; exact t1), t2, t3, t4, t5⟩) (go _ _ _ _ f4 hn0 hs0)
            rw [List.getD_eq_getElem?_getD]
            cases hj : (am_kar t).2[j]? with
            | none => exact am_i32_0
            | some x => exact am_kar_i32 (List.mem_of_getElem? hj)
          · cases f3
        · cases f3
      · cases e2
    · rename_i h0
      simp only [h0] at e2
      obtain ⟨b1, b2, b3, b4, b5, b6⟩ := hlk
      split at e2
      · obtain ⟨f1, f2⟩ := am_bif e2
        have g := fin f2
        exact am_s_max C hd b1 b2 b3 b4 (Nat.le_of_ble_eq_true b5) (Nat.le_of_ble_eq_true b6) (Nat.le_of_ble_eq_true f1) (by have := g.1; omega) (by have := g.2; omega) (go _ _ _ _ f2 hn0 hs0)
      · cases e2
    · rename_i h0
      simp only [h0] at e2
      obtain ⟨b1, b2, b3, b4, b5, b6⟩ := hlk
      split at e2
      · obtain ⟨f1, f2⟩ := am_bif e2
        have g := fin f2
        exact am_s_min C hd b1 b2 b3 b4 (Nat.le_of_ble_eq_true b5) (Nat.le_of_ble_eq_true b6) (Nat.le_of_ble_eq_true f1) (by have := g.1; omega) (by have := g.2; omega) (go _ _ _ _ f2 hn0 hs0)
      · cases e2
    · rename_i h0
      simp only [h0] at e2
      obtain ⟨b1, b2⟩ := hlk
      split at e2
      · rename_i o w z x st'
        obtain ⟨f1, f2⟩ := am_bif e2
        obtain ⟨bb, f3, f4⟩ := Option.bind_eq_some_iff.mp f2
        obtain ⟨hz1, hz2⟩ := hZ p e R s mi args below meth c Q n0 s0 m C (by have g1 := (k20 idx rfl h0).1; have g2 := C.2.2.2.2.2.2.2.2.2.2.1; omega) (by have g1 := (k20 idx rfl h0).2; have g2 := C.2.2.2.2.2.2.2.2.2.2.2; omega) pc ls st' h idx x o _ z w hd b2 (Nat.le_of_ble_eq_true f1) hn0 hs0
        cases bb with
        | false =>
          have f5 : am_F am_ms n y (pc + 3) ls (am_I 1 :: st') (am_push h am_no 6) = some (v, h1) := f4
          have g := fin f5
          exact hz2 f3 (by have := g.1; have : (am_push h am_no 6).2.1 = h.2.1 + 1 := rfl; omega) (by have := g.2; have : (am_push h am_no 6).2.2.1 = h.2.2.1 + 6 := rfl; omega) (go _ _ _ _ f5 (Nat.le_succ_of_le hn0) (Nat.le_trans hs0 (Nat.le_add_right _ _)))
        | true =>
          rw [b1] at f4
          obtain ⟨⟨x2, h2⟩, u1, u2⟩ := Option.bind_eq_some_iff.mp (show (am_oI (am_en am_ms 305 [am_R x, am_I z, am_I w] (am_F am_ms n 305 0 (am_pad (am_maxL am_ms 305) [am_R x, am_I z, am_I w]) [] h))).bind _ = some (v, h1) from f4)
          obtain ⟨o', u3, u4⟩ := Option.bind_eq_some_iff.mp u2
          obtain ⟨h3, u5, u6⟩ := Option.bind_eq_some_iff.mp u4
          have ho' : o' = o := (Option.some.inj u3).symm
          subst ho'
          obtain ⟨⟨v2, h2'⟩, v3, v4⟩ := Option.bind_eq_some_iff.mp u1
          have hv2 : v2 = some (am_I x2) ∧ h2' = h2 := by
            cases v2 with
            | none => cases v4
            | some v2 =>
              rcases v2 with yy | yy | yy | yy
              · cases v4; exact ⟨rfl, rfl⟩
              · cases v4
              · cases v4
              · cases v4
          obtain ⟨rfl, rfl⟩ := hv2
          have g1 := am_F_ge n 305 0 _ [] h _ ((am_en_some am_ms).mp v3).2
          have g2 := am_ge_wr u5
          have g3 := fin u6
          have hmz : am_ms[305]? = some am_m305 := rfl
          have ho : am_own am_m305 := (hOK 305 _ hmz).2.2.2 (by decide)
          exact hz1 am_m305 x2 h2' h3 hmz (am_met l D ca base KV sc hS hmz ho v3) u5 f3 g1 (by have := g3.1; omega) (by have := g3.2; omega) (go _ _ _ _ u6 (Nat.le_trans hn0 (g1.tr g2).1) (Nat.le_trans hs0 (g1.tr g2).2))
      · cases e2
    · obtain ⟨b1, b2, b5, b7⟩ := hlk
      split at b7
      · rename_i h0
        simp only [h0] at e2
        obtain ⟨k1, k2, k3⟩ := am_cl_inv e2
        obtain ⟨mz, v2, h2, hd2, ho, hM, hg1, hg2, hF2, -⟩ := am_callee hOK hS hy b1 k3
        rw [hd2] at b1 b2 b5 b7
        have key := am_s_callS (p := p) (e := e) (s := s) (mi := mi) (args := args) (below := below) (meth := meth) (c := c) (Q := Q) (ls := ls) C hd ho b1 b2 b7 b5 (by rw [List.length_reverse, List.length_take]; omega) hM k2 hg1 hn0 hs0 (by have := hg2.1; omega) (by have := hg2.2; omega) (go _ _ _ _ hF2 (Nat.le_trans hn0 hg1.1) (Nat.le_trans hs0 hg1.2))
        rw [List.reverse_reverse, List.take_append_drop] at key
        exact key
      · rename_i h0
        simp only [h0] at e2
        obtain ⟨k1, k2, k3⟩ := am_cl_inv e2
        obtain ⟨mz, v2, h2, hd2, ho, hM, hg1, hg2, hF2, -⟩ := am_callee hOK hS hy b1 k3
        rw [hd2] at b1 b2 b5 b7
        have key := am_s_callSN (p := p) (e := e) (s := s) (mi := mi) (args := args) (below := below) (meth := meth) (c := c) (Q := Q) (ls := ls) C hd ho b1 b2 b7 b5 (by rw [List.length_reverse, List.length_take]; omega) hM k2 hg1 hn0 hs0 (by have := hg2.1; omega) (by have := hg2.2; omega) (go _ _ _ _ hF2 (Nat.le_trans hn0 hg1.1) (Nat.le_trans hs0 hg1.2))
        rw [List.reverse_reverse, List.take_append_drop] at key
        exact key
      · cases b7
  | _ => cases e2
/-- for every fuel -/
theorem am_Sn_all {l : Launch} {D : va_G} {ca : Nat → ClassId} {base : Nat} {KV : Nat → Value} {sc : Nat × (Nat → Int)} (hOK : am_OK) (hZ : am_ZL l D ca base KV sc) : ∀ n, am_Sn l D ca base KV sc n
  | 0 => fun y m hy p e R s mi args below meth c Q n0 s0 C v h1 hc hs hret pc ls st h hF => by cases hF
  | n + 1 => am_Sn_succ hOK hZ (am_Sn_all hOK hZ n)
