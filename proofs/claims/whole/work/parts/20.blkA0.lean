/-! ===== BLOCK LAWS: printed by a program of ours ===== -/
noncomputable def am_cI (z : Nat) (as : List am_V) (h : am_H) : Option (Int × am_H) := am_oI (am_call am_ms z as h)
noncomputable def am_cV (z : Nat) (as : List am_V) (h : am_H) : Option am_H := am_oV (am_call am_ms z as h)
set_option maxHeartbeats 4000000 in
theorem bk_0_0 (x0 : Nat) (h : am_H) : am_run am_ms 0 0 [am_R x0] [] h = (if 0 ≤ 240 ∧ 240 ≤ 100000 then ((am_pf (am_push h (am_ar 0 (240 : Int).toNat (fun _ => 0)) (240 : Int).toNat) x0 6 0 (am_R h.2.1)).bind fun h1 => some (none, h1)) else none) :=
  (am_xs_run am_ms 0 [(.aload_n 0, 1, []), (.invokespecial 1, 3, [10, 0, 1, 0, 0, 1037, 1030, 1031]), (.aload_n 0, 1, []), (.sipush 240, 3, []), (.newarray .int, 2, [1048]), (.putfield 9, 3, [6, 0, 1038, 3]), (.return_, 1, [])] 0 _ _ h (by decide +kernel)).trans rfl
theorem en_0 (x0 : Nat) (h : am_H) : am_call am_ms 0 [am_R x0] h = am_run am_ms 0 0 [am_R x0] [] h := rfl
set_option maxHeartbeats 4000000 in
theorem bk_1_0 (x0 : Nat) (h : am_H) : am_run am_ms 1 0 [am_R x0] [] h = (if 0 ≤ 16 ∧ 16 ≤ 100000 then ((am_pf (am_push h (am_ar 0 (16 : Int).toNat (fun _ => 0)) (16 : Int).toNat) x0 5 0 (am_R h.2.1)).bind fun h1 => (if 0 ≤ 16 ∧ 16 ≤ 100000 then ((am_pf (am_push h1 (am_ar 0 (16 : Int).toNat (fun _ => 0)) (16 : Int).toNat) x0 5 1 (am_R h1.2.1)).bind fun h2 => (if 0 ≤ 16 ∧ 16 ≤ 100000 then ((am_pf (am_push h2 (am_ar 0 (16 : Int).toNat (fun _ => 0)) (16 : Int).toNat) x0 5 2 (am_R h2.2.1)).bind fun h3 => am_run am_ms 1 28 [am_R x0] [] h3) else none)) else none)) else none) :=
  (am_xs_run am_ms 1 [(.aload_n 0, 1, []), (.invokespecial 3, 3, [10, 0, 1, 0, 0, 1060, 1030, 1031]), (.aload_n 0, 1, []), (.bipush 16, 2, []), (.newarray .int, 2, [1048]), (.putfield 9, 3, [5, 0, 1061, 3]), (.aload_n 0, 1, []), (.bipush 16, 2, []), (.newarray .int, 2, [1048]), (.putfield 15, 3, [5, 1, 1063, 3]), (.aload_n 0, 1, []), (.bipush 16, 2, []), (.newarray .int, 2, [1048]), (.putfield 18, 3, [5, 2, 1065, 3])] 0 _ _ h (by decide +kernel)).trans rfl
theorem en_1 (x0 : Nat) (h : am_H) : am_call am_ms 1 [am_R x0] h = am_run am_ms 1 0 [am_R x0] [] h := rfl
set_option maxHeartbeats 4000000 in
theorem bk_1_28 (x0 : Nat) (h : am_H) : am_run am_ms 1 28 [am_R x0] [] h = some (none, h) :=
  (am_xs_run am_ms 1 [(.return_, 1, [])] 28 _ _ h (by decide +kernel)).trans rfl
set_option maxHeartbeats 4000000 in
theorem bk_3_0 (x0 : Nat) (h : am_H) : am_run am_ms 3 0 [am_R x0] [] h = (if 0 ≤ 60 ∧ 60 ≤ 100000 then ((am_pf (am_push h (am_ar 0 (60 : Int).toNat (fun _ => 0)) (60 : Int).toNat) x0 3 0 (am_R h.2.1)).bind fun h1 => (if 0 ≤ 60 ∧ 60 ≤ 100000 then ((am_pf (am_push h1 (am_ar 0 (60 : Int).toNat (fun _ => 0)) (60 : Int).toNat) x0 3 1 (am_R h1.2.1)).bind fun h2 => (if 0 ≤ 60 ∧ 60 ≤ 100000 then ((am_pf (am_push h2 (am_ar 0 (60 : Int).toNat (fun _ => 0)) (60 : Int).toNat) x0 3 2 (am_R h2.2.1)).bind fun h3 => am_run am_ms 3 28 [am_R x0] [] h3) else none)) else none)) else none) :=
  (am_xs_run am_ms 3 [(.aload_n 0, 1, []), (.invokespecial 3, 3, [10, 0, 1, 0, 0, 1128, 1030, 1031]), (.aload_n 0, 1, []), (.bipush 60, 2, []), (.newarray .int, 2, [1048]), (.putfield 11, 3, [3, 0, 1129, 3]), (.aload_n 0, 1, []), (.bipush 60, 2, []), (.newarray .int, 2, [1048]), (.putfield 15, 3, [3, 1, 1130, 3]), (.aload_n 0, 1, []), (.bipush 60, 2, []), (.newarray .int, 2, [1048]), (.putfield 18, 3, [3, 2, 1131, 3])] 0 _ _ h (by decide +kernel)).trans rfl
theorem en_3 (x0 : Nat) (h : am_H) : am_call am_ms 3 [am_R x0] h = am_run am_ms 3 0 [am_R x0] [] h := rfl
set_option maxHeartbeats 4000000 in
theorem bk_3_28 (x0 : Nat) (h : am_H) : am_run am_ms 3 28 [am_R x0] [] h = some (none, h) :=
  (am_xs_run am_ms 3 [(.return_, 1, [])] 28 _ _ h (by decide +kernel)).trans rfl
set_option maxHeartbeats 4000000 in
theorem bk_5_0 (x0 : Nat) (h : am_H) : am_run am_ms 5 0 [am_R x0] [] h = some (none, h) :=
  (am_xs_run am_ms 5 [(.aload_n 0, 1, []), (.invokespecial 1, 3, [10, 0, 1, 0, 0, 1222, 1030, 1031]), (.return_, 1, [])] 0 _ _ h (by decide +kernel)).trans rfl
theorem en_5 (x0 : Nat) (h : am_H) : am_call am_ms 5 [am_R x0] h = am_run am_ms 5 0 [am_R x0] [] h := rfl
set_option maxHeartbeats 4000000 in
theorem bk_10_0 (x0 : Int) (h : am_H) : am_run am_ms 10 0 [am_I x0, am_K 1, am_K 1] [] h = am_run am_ms 10 5 [am_I x0, am_I 0, am_I 24] [] h :=
  (am_xs_run am_ms 10 [(.iconst 0, 1, []), (.istore_n 1, 1, []), (.bipush 24, 2, []), (.istore_n 2, 1, [])] 0 _ _ h (by decide +kernel)).trans rfl
theorem en_10 (x0 : Int) (h : am_H) : am_call am_ms 10 [am_I x0] h = am_run am_ms 10 0 [am_I x0, am_K 1, am_K 1] [] h := rfl
set_option maxHeartbeats 4000000 in
theorem bk_10_5 (x0 : Int) (x1 : Int) (x2 : Int) (h : am_H) : am_run am_ms 10 5 [am_I x0, am_I x1, am_I x2] [] h = (bif decide (x2 < 0) then am_run am_ms 10 28 [am_I x0, am_I x1, am_I x2] [] h else (bif decide ((am_and (am_ushr x0 x2) 255) = 0) then am_run am_ms 10 22 [am_I x0, am_I x1, am_I x2] [] h else am_run am_ms 10 22 [am_I x0, am_I (am_w (x1 + 1)), am_I x2] [] h)) :=
  (am_xs_run am_ms 10 [(.iload_n 2, 1, []), (.ifCond .lt 22, 3, []), (.iload_n 0, 1, []), (.iload_n 2, 1, []), (.iushr, 1, []), (.sipush 255, 3, []), (.iand, 1, []), (.ifCond .eq 6, 3, []), (.iinc 1 1, 3, [])] 5 _ _ h (by decide +kernel)).trans rfl
set_option maxHeartbeats 4000000 in
theorem bk_10_22 (x0 : Int) (x1 : Int) (x2 : Int) (h : am_H) : am_run am_ms 10 22 [am_I x0, am_I x1, am_I x2] [] h = am_run am_ms 10 5 [am_I x0, am_I x1, am_I (am_w (x2 + (-8)))] [] h :=
  (am_xs_run am_ms 10 [(.iinc 2 (-8), 3, []), (.goto (-20), 3, [])] 22 _ _ h (by decide +kernel)).trans rfl
set_option maxHeartbeats 4000000 in
theorem bk_10_28 (x0 : Int) (x1 : Int) (x2 : Int) (h : am_H) : am_run am_ms 10 28 [am_I x0, am_I x1, am_I x2] [] h = some (some (am_I x1), h) :=
  (am_xs_run am_ms 10 [(.iload_n 1, 1, []), (.ireturn, 1, [0])] 28 _ _ h (by decide +kernel)).trans rfl
set_option maxHeartbeats 4000000 in
theorem bk_11_0 (x0 : Nat) (x1 : Int) (h : am_H) : am_run am_ms 11 0 [am_R x0, am_I x1, am_K 1, am_K 1] [] h = am_run am_ms 11 3 [am_R x0, am_I x1, am_I 24, am_K 1] [] h :=
  (am_xs_run am_ms 11 [(.bipush 24, 2, []), (.istore_n 2, 1, [])] 0 _ _ h (by decide +kernel)).trans rfl
theorem en_11 (x0 : Nat) (x1 : Int) (h : am_H) : am_call am_ms 11 [am_R x0, am_I x1] h = am_run am_ms 11 0 [am_R x0, am_I x1, am_K 1, am_K 1] [] h := rfl
set_option maxHeartbeats 4000000 in
theorem bk_11_3 (x0 : Nat) (x1 : Int) (x2 : Int) (x3 : am_V) (h : am_H) : am_run am_ms 11 3 [am_R x0, am_I x1, am_I x2, x3] [] h = (bif decide (x2 < 0) then am_run am_ms 11 55 [am_R x0, am_I x1, am_I x2, x3] [] h else (bif decide ((am_and (am_ushr x1 x2) 255) = 0) then am_run am_ms 11 49 [am_R x0, am_I x1, am_I x2, am_I (am_and (am_ushr x1 x2) 255)] [] h else ((am_gfI h x0 6 1).bind fun f1 => (bif decide (240 ≤ f1) then am_run am_ms 11 49 [am_R x0, am_I x1, am_I x2, am_I (am_and (am_ushr x1 x2) 255)] [] h else am_run am_ms 11 29 [am_R x0, am_I x1, am_I x2, am_I (am_and (am_ushr x1 x2) 255)] [] h)))) :=
  (am_xs_run am_ms 11 [(.iload_n 2, 1, []), (.ifCond .lt 51, 3, []), (.iload_n 1, 1, []), (.iload_n 2, 1, []), (.iushr, 1, []), (.sipush 255, 3, []), (.iand, 1, []), (.istore_n 3, 1, []), (.iload_n 3, 1, []), (.ifCond .eq 33, 3, []), (.aload_n 0, 1, []), (.getfield 13, 3, [6, 1, 1041, 0]), (.sipush 240, 3, []), (.if_icmp .ge 23, 3, [])] 3 _ _ h (by decide +kernel)).trans rfl
set_option maxHeartbeats 4000000 in
theorem bk_11_29 (x0 : Nat) (x1 : Int) (x2 : Int) (x3 : Int) (h : am_H) : am_run am_ms 11 29 [am_R x0, am_I x1, am_I x2, am_I x3] [] h = ((am_gfR h x0 6 0).bind fun f1 => ((am_gfI h x0 6 1).bind fun f2 => ((am_wr h f1 0 f2 x3).bind fun h3 => ((am_gfI h3 x0 6 1).bind fun f4 => ((am_pf h3 x0 6 1 (am_I (am_w (f4 + 1)))).bind fun h5 => am_run am_ms 11 49 [am_R x0, am_I x1, am_I x2, am_I x3] [] h5))))) :=
  (am_xs_run am_ms 11 [(.aload_n 0, 1, []), (.getfield 9, 3, [6, 0, 1038, 3]), (.aload_n 0, 1, []), (.getfield 13, 3, [6, 1, 1041, 0]), (.iload_n 3, 1, []), (.iastore, 1, []), (.aload_n 0, 1, []), (.dup, 1, []), (.getfield 13, 3, [6, 1, 1041, 0]), (.iconst 1, 1, []), (.iadd, 1, []), (.putfield 13, 3, [6, 1, 1041, 0])] 29 _ _ h (by decide +kernel)).trans rfl
set_option maxHeartbeats 4000000 in
theorem bk_11_49 (x0 : Nat) (x1 : Int) (x2 : Int) (x3 : Int) (h : am_H) : am_run am_ms 11 49 [am_R x0, am_I x1, am_I x2, am_I x3] [] h = am_run am_ms 11 3 [am_R x0, am_I x1, am_I (am_w (x2 + (-8))), am_I x3] [] h :=
  (am_xs_run am_ms 11 [(.iinc 2 (-8), 3, []), (.goto (-49), 3, [])] 49 _ _ h (by decide +kernel)).trans rfl
set_option maxHeartbeats 4000000 in
theorem bk_11_55 (x0 : Nat) (x1 : Int) (x2 : Int) (x3 : am_V) (h : am_H) : am_run am_ms 11 55 [am_R x0, am_I x1, am_I x2, x3] [] h = some (none, h) :=
  (am_xs_run am_ms 11 [(.return_, 1, [])] 55 _ _ h (by decide +kernel)).trans rfl
set_option maxHeartbeats 4000000 in
theorem bk_19_0 (x0 : Nat) (h : am_H) : am_run am_ms 19 0 [am_K x0] [] h = (bif decide (1 = 0) then am_run am_ms 19 13 [am_K x0] [] h else (bif Nat.beq x0 1 then none else (bif am_istx x0 then am_run am_ms 19 14 [am_K x0] [am_I 0] h else none))) :=
  (am_xs_run am_ms 19 [(.getstatic 38, 3, [1, 1, 2127, 2128, 1012]), (.ifCond .eq 10, 3, []), (.aload_n 0, 1, []), (.getfield 15, 3, [99, 1, 8111, 0]), (.goto 4, 3, [])] 0 _ _ h (by decide +kernel)).trans rfl
theorem en_19 (x0 : Nat) (h : am_H) : am_call am_ms 19 [am_K x0] h = am_run am_ms 19 0 [am_K x0] [] h := rfl
set_option maxHeartbeats 4000000 in
theorem bk_19_13 (x0 : Nat) (h : am_H) : am_run am_ms 19 13 [am_K x0] [] h = am_run am_ms 19 14 [am_K x0] [am_I 1] h :=
  (am_xs_run am_ms 19 [(.iconst 1, 1, [])] 13 _ _ h (by decide +kernel)).trans rfl
set_option maxHeartbeats 4000000 in
theorem bk_19_14 (x0 : Nat) (y0 : Int) (h : am_H) : am_run am_ms 19 14 [am_K x0] [am_I y0] h = (bif am_rok 3 y0 then some (some (am_I y0), h) else none) :=
  (am_xs_run am_ms 19 [(.ireturn, 1, [3])] 14 _ _ h (by decide +kernel)).trans rfl
set_option maxHeartbeats 4000000 in
theorem bk_20_0 (x0 : Nat) (h : am_H) : am_run am_ms 20 0 [am_K x0] [] h = (bif Nat.beq x0 1 then none else (bif am_istx x0 then ((am_lenk h (x0 + 16)).bind fun n1 => (bif Nat.beq x0 1 then none else (bif am_istx x0 then ((am_cI 19 [am_K x0] h).bind fun r2 => some (some (am_I (am_shr n1 r2.1)), r2.2)) else none))) else none)) :=
  (am_xs_run am_ms 20 [(.aload_n 0, 1, []), (.getfield 9, 3, [99, 0, 8110, 0]), (.arraylength, 1, []), (.aload_n 0, 1, []), (.invokevirtual 335, 3, [5, 19, 1, 0, 1, 2123, 2124, 2125]), (.ishr, 1, []), (.ireturn, 1, [0])] 0 _ _ h (by decide +kernel)).trans rfl
theorem en_20 (x0 : Nat) (h : am_H) : am_call am_ms 20 [am_K x0] h = am_run am_ms 20 0 [am_K x0] [] h := rfl
set_option maxHeartbeats 4000000 in
theorem bk_21_0 (x0 : Nat) (h : am_H) : am_run am_ms 21 0 [am_K x0] [] h = (bif decide (1 = 0) then am_run am_ms 21 17 [am_K x0] [] h else (bif Nat.beq x0 1 then none else (bif am_istx x0 then (bif decide (¬ 0 = 0) then am_run am_ms 21 17 [am_K x0] [] h else am_run am_ms 21 18 [am_K x0] [am_I 1] h) else none))) :=
  (am_xs_run am_ms 21 [(.getstatic 38, 3, [1, 1, 2127, 2128, 1012]), (.ifCond .eq 14, 3, []), (.aload_n 0, 1, []), (.getfield 15, 3, [99, 1, 8111, 0]), (.ifCond .ne 7, 3, []), (.iconst 1, 1, []), (.goto 4, 3, [])] 0 _ _ h (by decide +kernel)).trans rfl
theorem en_21 (x0 : Nat) (h : am_H) : am_call am_ms 21 [am_K x0] h = am_run am_ms 21 0 [am_K x0] [] h := rfl
set_option maxHeartbeats 4000000 in
theorem bk_21_17 (x0 : Nat) (h : am_H) : am_run am_ms 21 17 [am_K x0] [] h = am_run am_ms 21 18 [am_K x0] [am_I 0] h :=
  (am_xs_run am_ms 21 [(.iconst 0, 1, [])] 17 _ _ h (by decide +kernel)).trans rfl
set_option maxHeartbeats 4000000 in
theorem bk_21_18 (x0 : Nat) (y0 : Int) (h : am_H) : am_run am_ms 21 18 [am_K x0] [am_I y0] h = (bif am_rok 1 y0 then some (some (am_I y0), h) else none) :=
  (am_xs_run am_ms 21 [(.ireturn, 1, [1])] 18 _ _ h (by decide +kernel)).trans rfl
set_option maxHeartbeats 4000000 in
theorem bk_22_0 (x0 : Int) (h : am_H) : am_run am_ms 22 0 [am_I x0] [] h = (bif decide (x0 < 0) then am_run am_ms 22 15 [am_I x0] [] h else (bif decide (255 < x0) then am_run am_ms 22 15 [am_I x0] [] h else am_run am_ms 22 16 [am_I x0] [am_I 1] h)) :=
  (am_xs_run am_ms 22 [(.iload_n 0, 1, []), (.ifCond .lt 14, 3, []), (.iload_n 0, 1, []), (.sipush 255, 3, []), (.if_icmp .gt 7, 3, []), (.iconst 1, 1, []), (.goto 4, 3, [])] 0 _ _ h (by decide +kernel)).trans rfl
theorem en_22 (x0 : Int) (h : am_H) : am_call am_ms 22 [am_I x0] h = am_run am_ms 22 0 [am_I x0] [] h := rfl
set_option maxHeartbeats 4000000 in
theorem bk_22_15 (x0 : Int) (h : am_H) : am_run am_ms 22 15 [am_I x0] [] h = am_run am_ms 22 16 [am_I x0] [am_I 0] h :=
  (am_xs_run am_ms 22 [(.iconst 0, 1, [])] 15 _ _ h (by decide +kernel)).trans rfl
set_option maxHeartbeats 4000000 in
theorem bk_22_16 (x0 : Int) (y0 : Int) (h : am_H) : am_run am_ms 22 16 [am_I x0] [am_I y0] h = (bif am_rok 1 y0 then some (some (am_I y0), h) else none) :=
  (am_xs_run am_ms 22 [(.ireturn, 1, [1])] 16 _ _ h (by decide +kernel)).trans rfl
set_option maxHeartbeats 4000000 in
theorem bk_23_0 (x0 : Nat) (x1 : Int) (x2 : Int) (x3 : Int) (h : am_H) : am_run am_ms 23 0 [am_K x0, am_I x1, am_I x2, am_I x3, am_K 1, am_K 1] [] h = am_run am_ms 23 7 [am_K x0, am_I x1, am_I x2, am_I x3, am_I (am_i2b x1), am_I x2] [] h :=
  (am_xs_run am_ms 23 [(.iload_n 1, 1, []), (.i2b, 1, []), (.istore 4, 2, []), (.iload_n 2, 1, []), (.istore 5, 2, [])] 0 _ _ h (by decide +kernel)).trans rfl
theorem en_23 (x0 : Nat) (x1 : Int) (x2 : Int) (x3 : Int) (h : am_H) : am_call am_ms 23 [am_K x0, am_I x1, am_I x2, am_I x3] h = am_run am_ms 23 0 [am_K x0, am_I x1, am_I x2, am_I x3, am_K 1, am_K 1] [] h := rfl
set_option maxHeartbeats 4000000 in
theorem bk_23_7 (x0 : Nat) (x1 : Int) (x2 : Int) (x3 : Int) (x4 : Int) (x5 : Int) (h : am_H) : am_run am_ms 23 7 [am_K x0, am_I x1, am_I x2, am_I x3, am_I x4, am_I x5] [] h = (bif decide (x3 ≤ x5) then am_run am_ms 23 31 [am_K x0, am_I x1, am_I x2, am_I x3, am_I x4, am_I x5] [] h else (bif Nat.beq x0 1 then none else ((am_rk h x0 1 x5).bind fun v1 => (bif decide (¬ v1 = x4) then am_run am_ms 23 25 [am_K x0, am_I x1, am_I x2, am_I x3, am_I x4, am_I x5] [] h else some (some (am_I x5), h))))) :=
  (am_xs_run am_ms 23 [(.iload 5, 2, []), (.iload_n 3, 1, []), (.if_icmp .ge 21, 3, []), (.aload_n 0, 1, []), (.iload 5, 2, []), (.baload, 1, []), (.iload 4, 2, []), (.if_icmp .ne 6, 3, []), (.iload 5, 2, []), (.ireturn, 1, [0])] 7 _ _ h (by decide +kernel)).trans rfl
set_option maxHeartbeats 4000000 in
theorem bk_23_25 (x0 : Nat) (x1 : Int) (x2 : Int) (x3 : Int) (x4 : Int) (x5 : Int) (h : am_H) : am_run am_ms 23 25 [am_K x0, am_I x1, am_I x2, am_I x3, am_I x4, am_I x5] [] h = am_run am_ms 23 7 [am_K x0, am_I x1, am_I x2, am_I x3, am_I x4, am_I (am_w (x5 + 1))] [] h :=
  (am_xs_run am_ms 23 [(.iinc 5 1, 3, []), (.goto (-21), 3, [])] 25 _ _ h (by decide +kernel)).trans rfl
set_option maxHeartbeats 4000000 in
theorem bk_23_31 (x0 : Nat) (x1 : Int) (x2 : Int) (x3 : Int) (x4 : Int) (x5 : Int) (h : am_H) : am_run am_ms 23 31 [am_K x0, am_I x1, am_I x2, am_I x3, am_I x4, am_I x5] [] h = some (some (am_I (-1)), h) :=
  (am_xs_run am_ms 23 [(.iconst (-1), 1, []), (.ireturn, 1, [0])] 31 _ _ h (by decide +kernel)).trans rfl
set_option maxHeartbeats 4000000 in
theorem bk_24_0 (x0 : Nat) (x1 : Int) (x2 : Int) (x3 : Int) (h : am_H) : am_run am_ms 24 0 [am_K x0, am_I x1, am_I x2, am_I x3] [] h = ((am_cI 22 [am_I x1] h).bind fun r1 => (bif decide (¬ r1.1 = 0) then am_run am_ms 24 9 [am_K x0, am_I x1, am_I x2, am_I x3] [] r1.2 else some (some (am_I (-1)), r1.2))) :=
  (am_xs_run am_ms 24 [(.iload_n 1, 1, []), (.invokestatic 88, 3, [1, 22, 1, 0, 1, 2145, 2146]), (.ifCond .ne 5, 3, []), (.iconst (-1), 1, []), (.ireturn, 1, [0])] 0 _ _ h (by decide +kernel)).trans rfl
theorem en_24 (x0 : Nat) (x1 : Int) (x2 : Int) (x3 : Int) (h : am_H) : am_call am_ms 24 [am_K x0, am_I x1, am_I x2, am_I x3] h = am_run am_ms 24 0 [am_K x0, am_I x1, am_I x2, am_I x3] [] h := rfl
set_option maxHeartbeats 4000000 in
theorem bk_24_9 (x0 : Nat) (x1 : Int) (x2 : Int) (x3 : Int) (h : am_H) : am_run am_ms 24 9 [am_K x0, am_I x1, am_I x2, am_I x3] [] h = (bif Nat.beq x0 1 then none else ((am_lenk h x0).bind fun n1 => (bif decide ((am_max x2 0) < (am_min x3 n1)) then am_run am_ms 24 29 [am_K x0, am_I x1, am_I (am_max x2 0), am_I (am_min x3 n1)] [] h else some (some (am_I (-1)), h)))) :=
  (am_xs_run am_ms 24 [(.iload_n 2, 1, []), (.iconst 0, 1, []), (.invokestatic 92, 3, [12, 0, 2, 0, 1, 2148, 2149, 1014, 2150]), (.istore_n 2, 1, []), (.iload_n 3, 1, []), (.aload_n 0, 1, []), (.arraylength, 1, []), (.invokestatic 38, 3, [13, 0, 2, 0, 1, 2151, 2152, 1014, 2153]), (.istore_n 3, 1, []), (.iload_n 2, 1, []), (.iload_n 3, 1, []), (.if_icmp .lt 5, 3, []), (.iconst (-1), 1, []), (.ireturn, 1, [0])] 9 _ _ h (by decide +kernel)).trans rfl
set_option maxHeartbeats 4000000 in
theorem bk_24_29 (x0 : Nat) (x1 : Int) (x2 : Int) (x3 : Int) (h : am_H) : am_run am_ms 24 29 [am_K x0, am_I x1, am_I x2, am_I x3] [] h = (bif Nat.beq x0 1 then none else ((am_cI 23 [am_K x0, am_I x1, am_I x2, am_I x3] h).bind fun r1 => some (some (am_I r1.1), r1.2))) :=
  (am_xs_run am_ms 24 [(.aload_n 0, 1, []), (.iload_n 1, 1, []), (.iload_n 2, 1, []), (.iload_n 3, 1, []), (.invokestatic 95, 3, [1, 23, 4, 0, 1, 2154, 2155]), (.ireturn, 1, [0])] 29 _ _ h (by decide +kernel)).trans rfl
set_option maxHeartbeats 4000000 in
theorem bk_25_0 (x0 : Nat) (x1 : Int) (x2 : Int) (h : am_H) : am_run am_ms 25 0 [am_K x0, am_I x1, am_I x2] [] h = (bif Nat.beq x0 1 then none else (bif am_istx x0 then ((am_cI 21 [am_K x0] h).bind fun r1 => (bif decide (r1.1 = 0) then am_run am_ms 25 23 [am_K x0, am_I x1, am_I x2] [] r1.2 else (bif Nat.beq x0 1 then none else (bif am_istx x0 then (bif Nat.beq x0 1 then none else (bif am_istx x0 then ((am_cI 20 [am_K x0] r1.2).bind fun r2 => ((am_cI 24 [am_K (x0 + 16), am_I x1, am_I x2, am_I r2.1] r2.2).bind fun r3 => am_run am_ms 25 36 [am_K x0, am_I x1, am_I x2] [am_I r3.1] r3.2)) else none)) else none)))) else none)) :=
  (am_xs_run am_ms 25 [(.aload_n 0, 1, []), (.invokevirtual 492, 3, [5, 21, 1, 0, 1, 2137, 2138, 2139]), (.ifCond .eq 19, 3, []), (.aload_n 0, 1, []), (.getfield 9, 3, [99, 0, 8110, 0]), (.iload_n 1, 1, []), (.iload_n 2, 1, []), (.aload_n 0, 1, []), (.invokevirtual 505, 3, [5, 20, 1, 0, 1, 2141, 2120, 2121]), (.invokestatic 637, 3, [1, 24, 4, 0, 1, 2142, 2143]), (.goto 16, 3, [])] 0 _ _ h (by decide +kernel)).trans rfl
theorem en_25 (x0 : Nat) (x1 : Int) (x2 : Int) (h : am_H) : am_call am_ms 25 [am_K x0, am_I x1, am_I x2] h = am_run am_ms 25 0 [am_K x0, am_I x1, am_I x2] [] h := rfl
set_option maxHeartbeats 4000000 in
theorem bk_25_23 (x0 : Nat) (x1 : Int) (x2 : Int) (h : am_H) : am_run am_ms 25 23 [am_K x0, am_I x1, am_I x2] [] h = (bif Nat.beq x0 1 then none else (bif am_istx x0 then (bif Nat.beq x0 1 then none else (bif am_istx x0 then ((am_cI 20 [am_K x0] h).bind fun r1 => am_run am_ms 25 33 [am_K x0, am_I x1, am_I x2] [am_I r1.1, am_I x2, am_I x1, am_K (x0 + 16)] r1.2) else none)) else none)) :=
  (am_xs_run am_ms 25 [(.aload_n 0, 1, []), (.getfield 9, 3, [99, 0, 8110, 0]), (.iload_n 1, 1, []), (.iload_n 2, 1, []), (.aload_n 0, 1, []), (.invokevirtual 505, 3, [5, 20, 1, 0, 1, 2141, 2120, 2121])] 23 _ _ h (by decide +kernel)).trans rfl
set_option maxHeartbeats 4000000 in
theorem bk_25_36 (x0 : Nat) (x1 : Int) (x2 : Int) (y0 : Int) (h : am_H) : am_run am_ms 25 36 [am_K x0, am_I x1, am_I x2] [am_I y0] h = some (some (am_I y0), h) :=
  (am_xs_run am_ms 25 [(.ireturn, 1, [0])] 36 _ _ h (by decide +kernel)).trans rfl
set_option maxHeartbeats 4000000 in
theorem bk_26_0 (x0 : Nat) (x1 : Int) (h : am_H) : am_run am_ms 26 0 [am_K x0, am_I x1] [] h = (bif Nat.beq x0 1 then none else (bif am_istx x0 then ((am_cI 25 [am_K x0, am_I x1, am_I 0] h).bind fun r1 => some (some (am_I r1.1), r1.2)) else none)) :=
  (am_xs_run am_ms 26 [(.aload_n 0, 1, []), (.iload_n 1, 1, []), (.iconst 0, 1, []), (.invokevirtual 633, 3, [5, 25, 3, 0, 1, 2133, 2134, 2135]), (.ireturn, 1, [0])] 0 _ _ h (by decide +kernel)).trans rfl
theorem en_26 (x0 : Nat) (x1 : Int) (h : am_H) : am_call am_ms 26 [am_K x0, am_I x1] h = am_run am_ms 26 0 [am_K x0, am_I x1] [] h := rfl
set_option maxHeartbeats 4000000 in
theorem bk_36_0 (x0 : Nat) (x1 : Int) (x2 : Int) (x3 : Int) (h : am_H) : am_run am_ms 36 0 [am_R x0, am_I x1, am_I x2, am_I x3] [] h = ((am_gfI h x0 5 3).bind fun f1 => (bif decide (16 ≤ f1) then am_run am_ms 36 49 [am_R x0, am_I x1, am_I x2, am_I x3] [] h else ((am_gfR h x0 5 0).bind fun f2 => ((am_gfI h x0 5 3).bind fun f3 => ((am_wr h f2 0 f3 x1).bind fun h4 => ((am_gfR h4 x0 5 1).bind fun f5 => ((am_gfI h4 x0 5 3).bind fun f6 => am_run am_ms 36 27 [am_R x0, am_I x1, am_I x2, am_I x3] [am_I f6, am_R f5] h4))))))) :=
  (am_xs_run am_ms 36 [(.aload_n 0, 1, []), (.getfield 21, 3, [5, 3, 1067, 0]), (.bipush 16, 2, []), (.if_icmp .ge 43, 3, []), (.aload_n 0, 1, []), (.getfield 9, 3, [5, 0, 1061, 3]), (.aload_n 0, 1, []), (.getfield 21, 3, [5, 3, 1067, 0]), (.iload_n 1, 1, []), (.iastore, 1, []), (.aload_n 0, 1, []), (.getfield 15, 3, [5, 1, 1063, 3]), (.aload_n 0, 1, []), (.getfield 21, 3, [5, 3, 1067, 0])] 0 _ _ h (by decide +kernel)).trans rfl
theorem en_36 (x0 : Nat) (x1 : Int) (x2 : Int) (x3 : Int) (h : am_H) : am_call am_ms 36 [am_R x0, am_I x1, am_I x2, am_I x3] h = am_run am_ms 36 0 [am_R x0, am_I x1, am_I x2, am_I x3] [] h := rfl
set_option maxHeartbeats 4000000 in
theorem bk_36_27 (x0 : Nat) (x1 : Int) (x2 : Int) (x3 : Int) (y0 : Int) (y1 : Nat) (h : am_H) : am_run am_ms 36 27 [am_R x0, am_I x1, am_I x2, am_I x3] [am_I y0, am_R y1] h = ((am_wr h y1 0 y0 x2).bind fun h1 => ((am_gfR h1 x0 5 2).bind fun f2 => ((am_gfI h1 x0 5 3).bind fun f3 => ((am_wr h1 f2 0 f3 x3).bind fun h4 => ((am_gfI h4 x0 5 3).bind fun f5 => ((am_pf h4 x0 5 3 (am_I (am_w (f5 + 1)))).bind fun h6 => am_run am_ms 36 49 [am_R x0, am_I x1, am_I x2, am_I x3] [] h6)))))) :=
  (am_xs_run am_ms 36 [(.iload_n 2, 1, []), (.iastore, 1, []), (.aload_n 0, 1, []), (.getfield 18, 3, [5, 2, 1065, 3]), (.aload_n 0, 1, []), (.getfield 21, 3, [5, 3, 1067, 0]), (.iload_n 3, 1, []), (.iastore, 1, []), (.aload_n 0, 1, []), (.dup, 1, []), (.getfield 21, 3, [5, 3, 1067, 0]), (.iconst 1, 1, []), (.iadd, 1, []), (.putfield 21, 3, [5, 3, 1067, 0])] 27 _ _ h (by decide +kernel)).trans rfl
set_option maxHeartbeats 4000000 in
theorem bk_36_49 (x0 : Nat) (x1 : Int) (x2 : Int) (x3 : Int) (h : am_H) : am_run am_ms 36 49 [am_R x0, am_I x1, am_I x2, am_I x3] [] h = some (none, h) :=
  (am_xs_run am_ms 36 [(.return_, 1, [])] 49 _ _ h (by decide +kernel)).trans rfl
set_option maxHeartbeats 4000000 in
theorem bk_44_0 (x0 : Int) (x1 : Int) (x2 : Nat) (h : am_H) : am_run am_ms 44 0 [am_I x0, am_I x1, am_K x2] [] h = (bif decide (x0 < 0) then am_run am_ms 44 9 [am_I x0, am_I x1, am_K x2] [] h else (bif decide (x0 < x1) then am_run am_ms 44 16 [am_I x0, am_I x1, am_K x2] [] h else am_run am_ms 44 9 [am_I x0, am_I x1, am_K x2] [] h)) :=
  (am_xs_run am_ms 44 [(.iload_n 0, 1, []), (.ifCond .lt 8, 3, []), (.iload_n 0, 1, []), (.iload_n 1, 1, []), (.if_icmp .lt 10, 3, [])] 0 _ _ h (by decide +kernel)).trans rfl
theorem en_44 (x0 : Int) (x1 : Int) (x2 : Nat) (h : am_H) : am_call am_ms 44 [am_I x0, am_I x1, am_K x2] h = am_run am_ms 44 0 [am_I x0, am_I x1, am_K x2] [] h := rfl
set_option maxHeartbeats 4000000 in
theorem bk_44_9 (x0 : Int) (x1 : Int) (x2 : Nat) (h : am_H) : am_run am_ms 44 9 [am_I x0, am_I x1, am_K x2] [] h = (bif Nat.beq x2 1 then none else am_run am_ms 44 12 [am_I x0, am_I x1, am_K x2] [am_I x1, am_I x0, am_K x2] h) :=
  (am_xs_run am_ms 44 [(.aload_n 2, 1, []), (.iload_n 0, 1, []), (.iload_n 1, 1, [])] 9 _ _ h (by decide +kernel)).trans rfl
set_option maxHeartbeats 4000000 in
theorem bk_44_16 (x0 : Int) (x1 : Int) (x2 : Nat) (h : am_H) : am_run am_ms 44 16 [am_I x0, am_I x1, am_K x2] [] h = some (some (am_I x0), h) :=
  (am_xs_run am_ms 44 [(.iload_n 0, 1, []), (.ireturn, 1, [0])] 16 _ _ h (by decide +kernel)).trans rfl
set_option maxHeartbeats 4000000 in
theorem bk_45_0 (x0 : Int) (x1 : Int) (h : am_H) : am_run am_ms 45 0 [am_I x0, am_I x1] [] h = ((am_cI 44 [am_I x0, am_I x1, am_K 40] h).bind fun r1 => some (none, r1.2)) :=
  (am_xs_run am_ms 45 [(.iload_n 0, 1, []), (.iload_n 1, 1, []), (.getstatic 1053, 3, [0, 40, 2175, 2176, 1016]), (.invokestatic 1059, 3, [1, 44, 3, 0, 1, 6102, 6103]), (.pop, 1, []), (.return_, 1, [])] 0 _ _ h (by decide +kernel)).trans rfl
theorem en_45 (x0 : Int) (x1 : Int) (h : am_H) : am_call am_ms 45 [am_I x0, am_I x1] h = am_run am_ms 45 0 [am_I x0, am_I x1] [] h := rfl
set_option maxHeartbeats 4000000 in
theorem bk_46_0 (x0 : Nat) (x1 : Int) (h : am_H) : am_run am_ms 46 0 [am_K x0, am_I x1] [] h = (bif Nat.beq x0 1 then none else ((am_lenk h x0).bind fun n1 => ((am_cV 45 [am_I x1, am_I n1] h).bind fun h2 => (bif Nat.beq x0 1 then none else ((am_rk h2 x0 1 x1).bind fun v3 => (bif am_rok 2 (am_i2c (am_and v3 255)) then some (some (am_I (am_i2c (am_and v3 255))), h2) else none)))))) :=
  (am_xs_run am_ms 46 [(.iload_n 1, 1, []), (.aload_n 0, 1, []), (.arraylength, 1, []), (.invokestatic 9, 3, [1, 45, 2, 0, 0, 6099, 6100]), (.aload_n 0, 1, []), (.iload_n 1, 1, []), (.baload, 1, []), (.sipush 255, 3, []), (.iand, 1, []), (.i2c, 1, []), (.ireturn, 1, [2])] 0 _ _ h (by decide +kernel)).trans rfl
theorem en_46 (x0 : Nat) (x1 : Int) (h : am_H) : am_call am_ms 46 [am_K x0, am_I x1] h = am_run am_ms 46 0 [am_K x0, am_I x1] [] h := rfl
set_option maxHeartbeats 4000000 in
theorem bk_47_0 (x0 : Nat) (x1 : Int) (h : am_H) : am_run am_ms 47 0 [am_K x0, am_I x1] [] h = (bif Nat.beq x0 1 then none else (bif am_istx x0 then ((am_cI 21 [am_K x0] h).bind fun r1 => (bif decide (r1.1 = 0) then am_run am_ms 47 16 [am_K x0, am_I x1] [] r1.2 else (bif Nat.beq x0 1 then none else (bif am_istx x0 then ((am_cI 46 [am_K (x0 + 16), am_I x1] r1.2).bind fun r2 => (bif am_rok 2 r2.1 then some (some (am_I r2.1), r2.2) else none)) else none)))) else none)) :=
  (am_xs_run am_ms 47 [(.aload_n 0, 1, []), (.invokevirtual 492, 3, [5, 21, 1, 0, 1, 2137, 2138, 2139]), (.ifCond .eq 12, 3, []), (.aload_n 0, 1, []), (.getfield 9, 3, [99, 0, 8110, 0]), (.iload_n 1, 1, []), (.invokestatic 495, 3, [1, 46, 2, 0, 1, 6096, 6097]), (.ireturn, 1, [2])] 0 _ _ h (by decide +kernel)).trans rfl
theorem en_47 (x0 : Nat) (x1 : Int) (h : am_H) : am_call am_ms 47 [am_K x0, am_I x1] h = am_run am_ms 47 0 [am_K x0, am_I x1] [] h := rfl
set_option maxHeartbeats 4000000 in
theorem bk_47_16 (x0 : Nat) (x1 : Int) (h : am_H) : am_run am_ms 47 16 [am_K x0, am_I x1] [] h = (bif Nat.beq x0 1 then none else (bif am_istx x0 then am_run am_ms 47 21 [am_K x0, am_I x1] [am_I x1, am_K (x0 + 16)] h else none)) :=
  (am_xs_run am_ms 47 [(.aload_n 0, 1, []), (.getfield 9, 3, [99, 0, 8110, 0]), (.iload_n 1, 1, [])] 16 _ _ h (by decide +kernel)).trans rfl
set_option maxHeartbeats 4000000 in
theorem bk_62_0 (x0 : Nat) (x1 : Int) (h : am_H) : am_run am_ms 62 0 [am_R x0, am_I x1, am_K 1, am_K 1] [] h = ((am_len h x0).bind fun n1 => am_run am_ms 62 5 [am_R x0, am_I x1, am_I 0, am_I n1] [] h) :=
  (am_xs_run am_ms 62 [(.iconst 0, 1, []), (.istore_n 2, 1, []), (.aload_n 0, 1, []), (.arraylength, 1, []), (.istore_n 3, 1, [])] 0 _ _ h (by decide +kernel)).trans rfl
theorem en_62 (x0 : Nat) (x1 : Int) (h : am_H) : am_call am_ms 62 [am_R x0, am_I x1] h = am_run am_ms 62 0 [am_R x0, am_I x1, am_K 1, am_K 1] [] h := rfl
set_option maxHeartbeats 4000000 in
theorem bk_62_5 (x0 : Nat) (x1 : Int) (x2 : Int) (x3 : Int) (h : am_H) : am_run am_ms 62 5 [am_R x0, am_I x1, am_I x2, am_I x3] [] h = (bif decide (x3 ≤ x2) then am_run am_ms 62 20 [am_R x0, am_I x1, am_I x2, am_I x3] [] h else ((am_wr h x0 0 x2 x1).bind fun h1 => am_run am_ms 62 5 [am_R x0, am_I x1, am_I (am_w (x2 + 1)), am_I x3] [] h1)) :=
  (am_xs_run am_ms 62 [(.iload_n 2, 1, []), (.iload_n 3, 1, []), (.if_icmp .ge 13, 3, []), (.aload_n 0, 1, []), (.iload_n 2, 1, []), (.iload_n 1, 1, []), (.iastore, 1, []), (.iinc 2 1, 3, []), (.goto (-12), 3, [])] 5 _ _ h (by decide +kernel)).trans rfl
set_option maxHeartbeats 4000000 in
theorem bk_62_20 (x0 : Nat) (x1 : Int) (x2 : Int) (x3 : Int) (h : am_H) : am_run am_ms 62 20 [am_R x0, am_I x1, am_I x2, am_I x3] [] h = some (none, h) :=
  (am_xs_run am_ms 62 [(.return_, 1, [])] 20 _ _ h (by decide +kernel)).trans rfl
set_option maxHeartbeats 4000000 in
theorem bk_63_0 (x0 : Nat) (h : am_H) : am_run am_ms 63 0 [am_R x0] [] h = ((am_pf h x0 3 3 (am_I 0)).bind fun h1 => ((am_pf h1 x0 3 4 (am_I 0)).bind fun h2 => some (none, h2))) :=
  (am_xs_run am_ms 63 [(.aload_n 0, 1, []), (.iconst 0, 1, []), (.putfield 21, 3, [3, 3, 1132, 0]), (.aload_n 0, 1, []), (.iconst 0, 1, []), (.putfield 25, 3, [3, 4, 1133, 0]), (.return_, 1, [])] 0 _ _ h (by decide +kernel)).trans rfl
theorem en_63 (x0 : Nat) (h : am_H) : am_call am_ms 63 [am_R x0] h = am_run am_ms 63 0 [am_R x0] [] h := rfl
set_option maxHeartbeats 4000000 in
theorem bk_76_0 (x0 : Nat) (x1 : Nat) (h : am_H) : am_run am_ms 76 0 [am_R x0, am_R x1] [] h = ((am_gfR h x1 3 0).bind fun f1 => ((am_gfR h x0 3 0).bind fun f2 => ((am_cpy h (am_R f1) 0 f2 0 60).bind fun h3 => ((am_gfR h3 x1 3 1).bind fun f4 => ((am_gfR h3 x0 3 1).bind fun f5 => am_run am_ms 76 25 [am_R x0, am_R x1] [am_I 0, am_R f5, am_I 0, am_R f4] h3))))) :=
  (am_xs_run am_ms 76 [(.aload_n 1, 1, []), (.getfield 11, 3, [3, 0, 1129, 3]), (.iconst 0, 1, []), (.aload_n 0, 1, []), (.getfield 11, 3, [3, 0, 1129, 3]), (.iconst 0, 1, []), (.bipush 60, 2, []), (.invokestatic 29, 3, [11, 0, 5, 0, 0, 3090, 2101, 2100, 1011]), (.aload_n 1, 1, []), (.getfield 15, 3, [3, 1, 1130, 3]), (.iconst 0, 1, []), (.aload_n 0, 1, []), (.getfield 15, 3, [3, 1, 1130, 3]), (.iconst 0, 1, [])] 0 _ _ h (by decide +kernel)).trans rfl
theorem en_76 (x0 : Nat) (x1 : Nat) (h : am_H) : am_call am_ms 76 [am_R x0, am_R x1] h = am_run am_ms 76 0 [am_R x0, am_R x1] [] h := rfl
set_option maxHeartbeats 4000000 in
theorem bk_76_25 (x0 : Nat) (x1 : Nat) (y0 : Int) (y1 : Nat) (y2 : Int) (y3 : Nat) (h : am_H) : am_run am_ms 76 25 [am_R x0, am_R x1] [am_I y0, am_R y1, am_I y2, am_R y3] h = ((am_cpy h (am_R y3) y2 y1 y0 60).bind fun h1 => ((am_gfR h1 x1 3 2).bind fun f2 => ((am_gfR h1 x0 3 2).bind fun f3 => ((am_cpy h1 (am_R f2) 0 f3 0 60).bind fun h4 => ((am_gfI h4 x1 3 3).bind fun f5 => ((am_pf h4 x0 3 3 (am_I f5)).bind fun h6 => am_run am_ms 76 53 [am_R x0, am_R x1] [] h6)))))) :=
  (am_xs_run am_ms 76 [(.bipush 60, 2, []), (.invokestatic 29, 3, [11, 0, 5, 0, 0, 3090, 2101, 2100, 1011]), (.aload_n 1, 1, []), (.getfield 18, 3, [3, 2, 1131, 3]), (.iconst 0, 1, []), (.aload_n 0, 1, []), (.getfield 18, 3, [3, 2, 1131, 3]), (.iconst 0, 1, []), (.bipush 60, 2, []), (.invokestatic 29, 3, [11, 0, 5, 0, 0, 3090, 2101, 2100, 1011]), (.aload_n 0, 1, []), (.aload_n 1, 1, []), (.getfield 21, 3, [3, 3, 1132, 0]), (.putfield 21, 3, [3, 3, 1132, 0])] 25 _ _ h (by decide +kernel)).trans rfl
set_option maxHeartbeats 4000000 in
theorem bk_76_53 (x0 : Nat) (x1 : Nat) (h : am_H) : am_run am_ms 76 53 [am_R x0, am_R x1] [] h = ((am_gfI h x1 3 4).bind fun f1 => ((am_pf h x0 3 4 (am_I f1)).bind fun h2 => some (none, h2))) :=
  (am_xs_run am_ms 76 [(.aload_n 0, 1, []), (.aload_n 1, 1, []), (.getfield 25, 3, [3, 4, 1133, 0]), (.putfield 25, 3, [3, 4, 1133, 0]), (.return_, 1, [])] 53 _ _ h (by decide +kernel)).trans rfl
set_option maxHeartbeats 4000000 in
theorem bk_90_0 (x0 : Nat) (x1 : Int) (x2 : Int) (x3 : Int) (h : am_H) : am_run am_ms 90 0 [am_R x0, am_I x1, am_I x2, am_I x3] [] h = ((am_gfI h x0 3 3).bind fun f1 => (bif decide (f1 < 0) then am_run am_ms 90 16 [am_R x0, am_I x1, am_I x2, am_I x3] [] h else ((am_gfI h x0 3 3).bind fun f2 => (bif decide (f2 < 60) then am_run am_ms 90 21 [am_R x0, am_I x1, am_I x2, am_I x3] [] h else am_run am_ms 90 16 [am_R x0, am_I x1, am_I x2, am_I x3] [] h)))) :=
  (am_xs_run am_ms 90 [(.aload_n 0, 1, []), (.getfield 21, 3, [3, 3, 1132, 0]), (.ifCond .lt 12, 3, []), (.aload_n 0, 1, []), (.getfield 21, 3, [3, 3, 1132, 0]), (.bipush 60, 2, []), (.if_icmp .lt 8, 3, [])] 0 _ _ h (by decide +kernel)).trans rfl
theorem en_90 (x0 : Nat) (x1 : Int) (x2 : Int) (x3 : Int) (h : am_H) : am_call am_ms 90 [am_R x0, am_I x1, am_I x2, am_I x3] h = am_run am_ms 90 0 [am_R x0, am_I x1, am_I x2, am_I x3] [] h := rfl
set_option maxHeartbeats 4000000 in
theorem bk_90_16 (x0 : Nat) (x1 : Int) (x2 : Int) (x3 : Int) (h : am_H) : am_run am_ms 90 16 [am_R x0, am_I x1, am_I x2, am_I x3] [] h = ((am_pf h x0 3 3 (am_I 0)).bind fun h1 => am_run am_ms 90 21 [am_R x0, am_I x1, am_I x2, am_I x3] [] h1) :=
  (am_xs_run am_ms 90 [(.aload_n 0, 1, []), (.iconst 0, 1, []), (.putfield 21, 3, [3, 3, 1132, 0])] 16 _ _ h (by decide +kernel)).trans rfl
set_option maxHeartbeats 4000000 in
theorem bk_90_21 (x0 : Nat) (x1 : Int) (x2 : Int) (x3 : Int) (h : am_H) : am_run am_ms 90 21 [am_R x0, am_I x1, am_I x2, am_I x3] [] h = ((am_gfR h x0 3 0).bind fun f1 => ((am_gfI h x0 3 3).bind fun f2 => ((am_wr h f1 0 f2 x1).bind fun h3 => ((am_gfR h3 x0 3 1).bind fun f4 => ((am_gfI h3 x0 3 3).bind fun f5 => ((am_wr h3 f4 0 f5 x2).bind fun h6 => ((am_gfR h6 x0 3 2).bind fun f7 => am_run am_ms 90 45 [am_R x0, am_I x1, am_I x2, am_I x3] [am_R f7] h6))))))) :=
  (am_xs_run am_ms 90 [(.aload_n 0, 1, []), (.getfield 11, 3, [3, 0, 1129, 3]), (.aload_n 0, 1, []), (.getfield 21, 3, [3, 3, 1132, 0]), (.iload_n 1, 1, []), (.iastore, 1, []), (.aload_n 0, 1, []), (.getfield 15, 3, [3, 1, 1130, 3]), (.aload_n 0, 1, []), (.getfield 21, 3, [3, 3, 1132, 0]), (.iload_n 2, 1, []), (.iastore, 1, []), (.aload_n 0, 1, []), (.getfield 18, 3, [3, 2, 1131, 3])] 21 _ _ h (by decide +kernel)).trans rfl
set_option maxHeartbeats 4000000 in
theorem bk_90_45 (x0 : Nat) (x1 : Int) (x2 : Int) (x3 : Int) (y0 : Nat) (h : am_H) : am_run am_ms 90 45 [am_R x0, am_I x1, am_I x2, am_I x3] [am_R y0] h = ((am_gfI h x0 3 3).bind fun f1 => ((am_wr h y0 0 f1 x3).bind fun h2 => ((am_gfI h2 x0 3 3).bind fun f3 => ((am_pf h2 x0 3 3 (am_I (am_w (f3 + 1)))).bind fun h4 => ((am_gfI h4 x0 3 4).bind fun f5 => (bif decide (60 ≤ f5) then am_run am_ms 90 80 [am_R x0, am_I x1, am_I x2, am_I x3] [] h4 else am_run am_ms 90 70 [am_R x0, am_I x1, am_I x2, am_I x3] [] h4)))))) :=
  (am_xs_run am_ms 90 [(.aload_n 0, 1, []), (.getfield 21, 3, [3, 3, 1132, 0]), (.iload_n 3, 1, []), (.iastore, 1, []), (.aload_n 0, 1, []), (.dup, 1, []), (.getfield 21, 3, [3, 3, 1132, 0]), (.iconst 1, 1, []), (.iadd, 1, []), (.putfield 21, 3, [3, 3, 1132, 0]), (.aload_n 0, 1, []), (.getfield 25, 3, [3, 4, 1133, 0]), (.bipush 60, 2, []), (.if_icmp .ge 13, 3, [])] 45 _ _ h (by decide +kernel)).trans rfl
set_option maxHeartbeats 4000000 in
theorem bk_90_70 (x0 : Nat) (x1 : Int) (x2 : Int) (x3 : Int) (h : am_H) : am_run am_ms 90 70 [am_R x0, am_I x1, am_I x2, am_I x3] [] h = ((am_gfI h x0 3 4).bind fun f1 => ((am_pf h x0 3 4 (am_I (am_w (f1 + 1)))).bind fun h2 => am_run am_ms 90 80 [am_R x0, am_I x1, am_I x2, am_I x3] [] h2)) :=
  (am_xs_run am_ms 90 [(.aload_n 0, 1, []), (.dup, 1, []), (.getfield 25, 3, [3, 4, 1133, 0]), (.iconst 1, 1, []), (.iadd, 1, []), (.putfield 25, 3, [3, 4, 1133, 0])] 70 _ _ h (by decide +kernel)).trans rfl
set_option maxHeartbeats 4000000 in
theorem bk_90_80 (x0 : Nat) (x1 : Int) (x2 : Int) (x3 : Int) (h : am_H) : am_run am_ms 90 80 [am_R x0, am_I x1, am_I x2, am_I x3] [] h = some (none, h) :=
  (am_xs_run am_ms 90 [(.return_, 1, [])] 80 _ _ h (by decide +kernel)).trans rfl
set_option maxHeartbeats 4000000 in
theorem bk_104_0 (x0 : Nat) (x1 : Nat) (h : am_H) : am_run am_ms 104 0 [am_R x0, am_R x1] [] h = ((am_gfR h x1 5 0).bind fun f1 => ((am_gfR h x0 5 0).bind fun f2 => ((am_cpy h (am_R f1) 0 f2 0 16).bind fun h3 => ((am_gfR h3 x1 5 1).bind fun f4 => ((am_gfR h3 x0 5 1).bind fun f5 => am_run am_ms 104 25 [am_R x0, am_R x1] [am_I 0, am_R f5, am_I 0, am_R f4] h3))))) :=
  (am_xs_run am_ms 104 [(.aload_n 1, 1, []), (.getfield 9, 3, [5, 0, 1061, 3]), (.iconst 0, 1, []), (.aload_n 0, 1, []), (.getfield 9, 3, [5, 0, 1061, 3]), (.iconst 0, 1, []), (.bipush 16, 2, []), (.invokestatic 26, 3, [11, 0, 5, 0, 0, 3197, 2101, 2100, 1011]), (.aload_n 1, 1, []), (.getfield 15, 3, [5, 1, 1063, 3]), (.iconst 0, 1, []), (.aload_n 0, 1, []), (.getfield 15, 3, [5, 1, 1063, 3]), (.iconst 0, 1, [])] 0 _ _ h (by decide +kernel)).trans rfl
theorem en_104 (x0 : Nat) (x1 : Nat) (h : am_H) : am_call am_ms 104 [am_R x0, am_R x1] h = am_run am_ms 104 0 [am_R x0, am_R x1] [] h := rfl
set_option maxHeartbeats 4000000 in
theorem bk_104_25 (x0 : Nat) (x1 : Nat) (y0 : Int) (y1 : Nat) (y2 : Int) (y3 : Nat) (h : am_H) : am_run am_ms 104 25 [am_R x0, am_R x1] [am_I y0, am_R y1, am_I y2, am_R y3] h = ((am_cpy h (am_R y3) y2 y1 y0 16).bind fun h1 => ((am_gfR h1 x1 5 2).bind fun f2 => ((am_gfR h1 x0 5 2).bind fun f3 => ((am_cpy h1 (am_R f2) 0 f3 0 16).bind fun h4 => ((am_gfI h4 x1 5 3).bind fun f5 => ((am_pf h4 x0 5 3 (am_I f5)).bind fun h6 => am_run am_ms 104 53 [am_R x0, am_R x1] [] h6)))))) :=
  (am_xs_run am_ms 104 [(.bipush 16, 2, []), (.invokestatic 26, 3, [11, 0, 5, 0, 0, 3197, 2101, 2100, 1011]), (.aload_n 1, 1, []), (.getfield 18, 3, [5, 2, 1065, 3]), (.iconst 0, 1, []), (.aload_n 0, 1, []), (.getfield 18, 3, [5, 2, 1065, 3]), (.iconst 0, 1, []), (.bipush 16, 2, []), (.invokestatic 26, 3, [11, 0, 5, 0, 0, 3197, 2101, 2100, 1011]), (.aload_n 0, 1, []), (.aload_n 1, 1, []), (.getfield 21, 3, [5, 3, 1067, 0]), (.putfield 21, 3, [5, 3, 1067, 0])] 25 _ _ h (by decide +kernel)).trans rfl
set_option maxHeartbeats 4000000 in
theorem bk_104_53 (x0 : Nat) (x1 : Nat) (h : am_H) : am_run am_ms 104 53 [am_R x0, am_R x1] [] h = some (none, h) :=
  (am_xs_run am_ms 104 [(.return_, 1, [])] 53 _ _ h (by decide +kernel)).trans rfl
set_option maxHeartbeats 4000000 in
theorem bk_201_0 (x0 : Nat) (x1 : Int) (h : am_H) : am_run am_ms 201 0 [am_R x0, am_I x1] [] h = ((am_gfL h x0 0 0).bind fun f1 => ((am_pf h x0 0 0 (am_L (am_q ((am_q (f1 * 6364136223846793005)) + 1442695040888963407)))).bind fun h2 => (bif decide (0 < x1) then am_run am_ms 201 24 [am_R x0, am_I x1] [] h2 else am_run am_ms 201 35 [am_R x0, am_I x1] [am_I 0] h2))) :=
  (am_xs_run am_ms 201 [(.aload_n 0, 1, []), (.aload_n 0, 1, []), (.getfield 7, 3, [0, 0, 1223, 2]), (.ldc2_w 13, 3, [0, 6364136223846793005, 4107]), (.lmul, 1, []), (.ldc2_w 15, 3, [0, 1442695040888963407, 4108]), (.ladd, 1, []), (.putfield 7, 3, [0, 0, 1223, 2]), (.iload_n 1, 1, []), (.ifCond .gt 7, 3, []), (.iconst 0, 1, []), (.goto 14, 3, [])] 0 _ _ h (by decide +kernel)).trans rfl
theorem en_201 (x0 : Nat) (x1 : Int) (h : am_H) : am_call am_ms 201 [am_R x0, am_I x1] h = am_run am_ms 201 0 [am_R x0, am_I x1] [] h := rfl
set_option maxHeartbeats 4000000 in
theorem bk_201_24 (x0 : Nat) (x1 : Int) (h : am_H) : am_run am_ms 201 24 [am_R x0, am_I x1] [] h = ((am_gfL h x0 0 0).bind fun f1 => (if x1 = 0 then none else am_run am_ms 201 35 [am_R x0, am_I x1] [am_I (am_w (am_lrem (am_lushr f1 33) x1))] h)) :=
  (am_xs_run am_ms 201 [(.aload_n 0, 1, []), (.getfield 7, 3, [0, 0, 1223, 2]), (.bipush 33, 2, []), (.lushr, 1, []), (.iload_n 1, 1, []), (.i2l, 1, []), (.lrem, 1, []), (.l2i, 1, [])] 24 _ _ h (by decide +kernel)).trans rfl
set_option maxHeartbeats 4000000 in
theorem bk_201_35 (x0 : Nat) (x1 : Int) (y0 : Int) (h : am_H) : am_run am_ms 201 35 [am_R x0, am_I x1] [am_I y0] h = some (some (am_I y0), h) :=
  (am_xs_run am_ms 201 [(.ireturn, 1, [0])] 35 _ _ h (by decide +kernel)).trans rfl
set_option maxHeartbeats 4000000 in
theorem bk_212_0 (x0 : Nat) (x1 : Int) (x2 : Int) (h : am_H) : am_run am_ms 212 0 [am_R x0, am_I x1, am_I x2, am_K 1] [] h = (bif decide (x1 < 0) then am_run am_ms 212 12 [am_R x0, am_I x1, am_I x2, am_K 1] [] h else ((am_gfI h x0 3 4).bind fun f1 => (bif decide (x1 < f1) then am_run am_ms 212 15 [am_R x0, am_I x1, am_I x2, am_K 1] [] h else am_run am_ms 212 12 [am_R x0, am_I x1, am_I x2, am_K 1] [] h))) :=
  (am_xs_run am_ms 212 [(.iload_n 1, 1, []), (.ifCond .lt 11, 3, []), (.iload_n 1, 1, []), (.aload_n 0, 1, []), (.getfield 25, 3, [3, 4, 1133, 0]), (.if_icmp .lt 6, 3, [])] 0 _ _ h (by decide +kernel)).trans rfl
theorem en_212 (x0 : Nat) (x1 : Int) (x2 : Int) (h : am_H) : am_call am_ms 212 [am_R x0, am_I x1, am_I x2] h = am_run am_ms 212 0 [am_R x0, am_I x1, am_I x2, am_K 1] [] h := rfl
set_option maxHeartbeats 4000000 in
theorem bk_212_12 (x0 : Nat) (x1 : Int) (x2 : Int) (h : am_H) : am_run am_ms 212 12 [am_R x0, am_I x1, am_I x2, am_K 1] [] h = some (some (am_I (-1000000)), h) :=
  (am_xs_run am_ms 212 [(.ldc 28, 2, [0, -1000000, 4133]), (.ireturn, 1, [0])] 12 _ _ h (by decide +kernel)).trans rfl
set_option maxHeartbeats 4000000 in
theorem bk_212_15 (x0 : Nat) (x1 : Int) (x2 : Int) (h : am_H) : am_run am_ms 212 15 [am_R x0, am_I x1, am_I x2, am_K 1] [] h = ((am_gfI h x0 3 3).bind fun f1 => (if 60 = 0 then none else am_run am_ms 212 31 [am_R x0, am_I x1, am_I x2, am_I (am_rem (am_w ((am_w ((am_w (f1 - 1)) - x1)) + 60)) 60)] [am_I x2] h)) :=
  (am_xs_run am_ms 212 [(.aload_n 0, 1, []), (.getfield 21, 3, [3, 3, 1132, 0]), (.iconst 1, 1, []), (.isub, 1, []), (.iload_n 1, 1, []), (.isub, 1, []), (.bipush 60, 2, []), (.iadd, 1, []), (.bipush 60, 2, []), (.irem, 1, []), (.istore_n 3, 1, []), (.iload_n 2, 1, [])] 15 _ _ h (by decide +kernel)).trans rfl
theorem bk_212_31 (x0 : Nat) (x1 : Int) (x2 : Int) (x3 : Int) (y0 : Int) (h : am_H) : am_run am_ms 212 31 [am_R x0, am_I x1, am_I x2, am_I x3] [am_I y0] h = am_run am_ms 212 (am_tsw 31 46 0 2 #[25, 32, 39] y0) [am_R x0, am_I x1, am_I x2, am_I x3] [] h := by
  rw [am_run_eq, show am_code am_ms 212 31 = some (.tableswitch 46 0 2 #[25, 32, 39], 25, []) from by decide +kernel]
  rfl
set_option maxHeartbeats 4000000 in
theorem bk_212_56 (x0 : Nat) (x1 : Int) (x2 : Int) (x3 : Int) (h : am_H) : am_run am_ms 212 56 [am_R x0, am_I x1, am_I x2, am_I x3] [] h = ((am_gfR h x0 3 0).bind fun f1 => ((am_rd h f1 0 x3).bind fun v2 => some (some (am_I v2), h))) :=
  (am_xs_run am_ms 212 [(.aload_n 0, 1, []), (.getfield 11, 3, [3, 0, 1129, 3]), (.iload_n 3, 1, []), (.iaload, 1, []), (.ireturn, 1, [0])] 56 _ _ h (by decide +kernel)).trans rfl
set_option maxHeartbeats 4000000 in
theorem bk_212_63 (x0 : Nat) (x1 : Int) (x2 : Int) (x3 : Int) (h : am_H) : am_run am_ms 212 63 [am_R x0, am_I x1, am_I x2, am_I x3] [] h = ((am_gfR h x0 3 1).bind fun f1 => ((am_rd h f1 0 x3).bind fun v2 => some (some (am_I v2), h))) :=
  (am_xs_run am_ms 212 [(.aload_n 0, 1, []), (.getfield 15, 3, [3, 1, 1130, 3]), (.iload_n 3, 1, []), (.iaload, 1, []), (.ireturn, 1, [0])] 63 _ _ h (by decide +kernel)).trans rfl
set_option maxHeartbeats 4000000 in
theorem bk_212_70 (x0 : Nat) (x1 : Int) (x2 : Int) (x3 : Int) (h : am_H) : am_run am_ms 212 70 [am_R x0, am_I x1, am_I x2, am_I x3] [] h = ((am_gfR h x0 3 2).bind fun f1 => ((am_rd h f1 0 x3).bind fun v2 => some (some (am_I v2), h))) :=
  (am_xs_run am_ms 212 [(.aload_n 0, 1, []), (.getfield 18, 3, [3, 2, 1131, 3]), (.iload_n 3, 1, []), (.iaload, 1, []), (.ireturn, 1, [0])] 70 _ _ h (by decide +kernel)).trans rfl
set_option maxHeartbeats 4000000 in
theorem bk_212_77 (x0 : Nat) (x1 : Int) (x2 : Int) (x3 : Int) (h : am_H) : am_run am_ms 212 77 [am_R x0, am_I x1, am_I x2, am_I x3] [] h = some (some (am_I (-1000000)), h) :=
  (am_xs_run am_ms 212 [(.ldc 28, 2, [0, -1000000, 4133]), (.ireturn, 1, [0])] 77 _ _ h (by decide +kernel)).trans rfl
set_option maxHeartbeats 4000000 in
theorem bk_216_0 (x0 : Nat) (x1 : Int) (x2 : Int) (h : am_H) : am_run am_ms 216 0 [am_R x0, am_I x1, am_I x2] [] h = (bif decide (x1 < 0) then am_run am_ms 216 12 [am_R x0, am_I x1, am_I x2] [] h else ((am_gfI h x0 5 3).bind fun f1 => (bif decide (x1 < f1) then am_run am_ms 216 15 [am_R x0, am_I x1, am_I x2] [] h else am_run am_ms 216 12 [am_R x0, am_I x1, am_I x2] [] h))) :=
  (am_xs_run am_ms 216 [(.iload_n 1, 1, []), (.ifCond .lt 11, 3, []), (.iload_n 1, 1, []), (.aload_n 0, 1, []), (.getfield 21, 3, [5, 3, 1067, 0]), (.if_icmp .lt 6, 3, [])] 0 _ _ h (by decide +kernel)).trans rfl
theorem en_216 (x0 : Nat) (x1 : Int) (x2 : Int) (h : am_H) : am_call am_ms 216 [am_R x0, am_I x1, am_I x2] h = am_run am_ms 216 0 [am_R x0, am_I x1, am_I x2] [] h := rfl
set_option maxHeartbeats 4000000 in
theorem bk_216_12 (x0 : Nat) (x1 : Int) (x2 : Int) (h : am_H) : am_run am_ms 216 12 [am_R x0, am_I x1, am_I x2] [] h = some (some (am_I (-1000000)), h) :=
  (am_xs_run am_ms 216 [(.ldc 25, 2, [0, -1000000, 4146]), (.ireturn, 1, [0])] 12 _ _ h (by decide +kernel)).trans rfl
set_option maxHeartbeats 4000000 in
theorem bk_216_15 (x0 : Nat) (x1 : Int) (x2 : Int) (h : am_H) : am_run am_ms 216 15 [am_R x0, am_I x1, am_I x2] [] h = am_run am_ms 216 16 [am_R x0, am_I x1, am_I x2] [am_I x2] h :=
  (am_xs_run am_ms 216 [(.iload_n 2, 1, [])] 15 _ _ h (by decide +kernel)).trans rfl
theorem bk_216_16 (x0 : Nat) (x1 : Int) (x2 : Int) (y0 : Int) (h : am_H) : am_run am_ms 216 16 [am_R x0, am_I x1, am_I x2] [am_I y0] h = am_run am_ms 216 (am_tsw 16 49 0 2 #[28, 35, 42] y0) [am_R x0, am_I x1, am_I x2] [] h := by
  rw [am_run_eq, show am_code am_ms 216 16 = some (.tableswitch 49 0 2 #[28, 35, 42], 28, []) from by decide +kernel]
  rfl
set_option maxHeartbeats 4000000 in
theorem bk_216_44 (x0 : Nat) (x1 : Int) (x2 : Int) (h : am_H) : am_run am_ms 216 44 [am_R x0, am_I x1, am_I x2] [] h = ((am_gfR h x0 5 0).bind fun f1 => ((am_rd h f1 0 x1).bind fun v2 => some (some (am_I v2), h))) :=
  (am_xs_run am_ms 216 [(.aload_n 0, 1, []), (.getfield 9, 3, [5, 0, 1061, 3]), (.iload_n 1, 1, []), (.iaload, 1, []), (.ireturn, 1, [0])] 44 _ _ h (by decide +kernel)).trans rfl
set_option maxHeartbeats 4000000 in
theorem bk_216_51 (x0 : Nat) (x1 : Int) (x2 : Int) (h : am_H) : am_run am_ms 216 51 [am_R x0, am_I x1, am_I x2] [] h = ((am_gfR h x0 5 1).bind fun f1 => ((am_rd h f1 0 x1).bind fun v2 => some (some (am_I v2), h))) :=
  (am_xs_run am_ms 216 [(.aload_n 0, 1, []), (.getfield 15, 3, [5, 1, 1063, 3]), (.iload_n 1, 1, []), (.iaload, 1, []), (.ireturn, 1, [0])] 51 _ _ h (by decide +kernel)).trans rfl
set_option maxHeartbeats 4000000 in
theorem bk_216_58 (x0 : Nat) (x1 : Int) (x2 : Int) (h : am_H) : am_run am_ms 216 58 [am_R x0, am_I x1, am_I x2] [] h = ((am_gfR h x0 5 2).bind fun f1 => ((am_rd h f1 0 x1).bind fun v2 => some (some (am_I v2), h))) :=
  (am_xs_run am_ms 216 [(.aload_n 0, 1, []), (.getfield 18, 3, [5, 2, 1065, 3]), (.iload_n 1, 1, []), (.iaload, 1, []), (.ireturn, 1, [0])] 58 _ _ h (by decide +kernel)).trans rfl
set_option maxHeartbeats 4000000 in
theorem bk_216_65 (x0 : Nat) (x1 : Int) (x2 : Int) (h : am_H) : am_run am_ms 216 65 [am_R x0, am_I x1, am_I x2] [] h = some (some (am_I (-1000000)), h) :=
  (am_xs_run am_ms 216 [(.ldc 25, 2, [0, -1000000, 4146]), (.ireturn, 1, [0])] 65 _ _ h (by decide +kernel)).trans rfl
