/-! ===== BLOCK LAWS: printed by a program of ours ===== -/
set_option maxHeartbeats 4000000 in
theorem bk_9_0 (x0 : Nat) (h : am_H) : am_run am_ms 9 0 [am_R x0] [] h = (if 0 ≤ 240 ∧ 240 ≤ 100000 then ((am_pf (am_push h (am_ar 1 (240 : Int).toNat (fun _ => 0)) (240 : Int).toNat) x0 9 1 (am_R h.2.1)).bind fun h1 => (if 0 ≤ 7 ∧ 7 ≤ 100000 then ((am_pf (am_push h1 (am_ar 0 (7 : Int).toNat (fun _ => 0)) (7 : Int).toNat) x0 9 5 (am_R h1.2.1)).bind fun h2 => (if 0 ≤ 7 ∧ 7 ≤ 100000 then ((am_pf (am_push h2 (am_ar 0 (7 : Int).toNat (fun _ => 0)) (7 : Int).toNat) x0 9 6 (am_R h2.2.1)).bind fun h3 => am_run am_ms 9 29 [am_R x0] [] h3) else none)) else none)) else none) :=
  (am_xs_run am_ms 9 [(.aload_n 0, 1, []), (.invokespecial 3, 3, [10, 0, 1, 0, 0, 5182, 1030, 1031]), (.aload_n 0, 1, []), (.sipush 240, 3, []), (.newarray .byte, 2, [3008]), (.putfield 9, 3, [9, 1, 5184, 3]), (.aload_n 0, 1, []), (.bipush 7, 2, []), (.newarray .int, 2, [1048]), (.putfield 13, 3, [9, 5, 5188, 3]), (.aload_n 0, 1, []), (.bipush 7, 2, []), (.newarray .int, 2, [1048]), (.putfield 17, 3, [9, 6, 5189, 3])] 0 _ _ h (by decide +kernel)).trans rfl
theorem en_9 (x0 : Nat) (h : am_H) : am_call am_ms 9 [am_R x0] h = am_run am_ms 9 0 [am_R x0] [] h := rfl
set_option maxHeartbeats 4000000 in
theorem bk_9_29 (x0 : Nat) (h : am_H) : am_run am_ms 9 29 [am_R x0] [] h = (if 0 ≤ 48 ∧ 48 ≤ 100000 then ((am_pf (am_push h (am_ar 0 (48 : Int).toNat (fun _ => 0)) (48 : Int).toNat) x0 9 7 (am_R h.2.1)).bind fun h1 => (if 0 ≤ 240 ∧ 240 ≤ 100000 then ((am_pf (am_push h1 (am_ar 0 (240 : Int).toNat (fun _ => 0)) (240 : Int).toNat) x0 9 8 (am_R h1.2.1)).bind fun h2 => (if 0 ≤ 5 ∧ 5 ≤ 100000 then ((am_pf (am_push h2 (am_ar 0 (5 : Int).toNat (fun _ => 0)) (5 : Int).toNat) x0 9 9 (am_R h2.2.1)).bind fun h3 => am_run am_ms 9 55 [am_R x0] [am_I 4, am_R x0] h3) else none)) else none)) else none) :=
  (am_xs_run am_ms 9 [(.aload_n 0, 1, []), (.bipush 48, 2, []), (.newarray .int, 2, [1048]), (.putfield 20, 3, [9, 7, 5190, 3]), (.aload_n 0, 1, []), (.sipush 240, 3, []), (.newarray .int, 2, [1048]), (.putfield 23, 3, [9, 8, 5191, 3]), (.aload_n 0, 1, []), (.iconst 5, 1, []), (.newarray .int, 2, [1048]), (.putfield 26, 3, [9, 9, 5192, 3]), (.aload_n 0, 1, []), (.iconst 4, 1, [])] 29 _ _ h (by decide +kernel)).trans rfl
set_option maxHeartbeats 4000000 in
theorem bk_9_55 (x0 : Nat) (y0 : Int) (y1 : Nat) (h : am_H) : am_run am_ms 9 55 [am_R x0] [am_I y0, am_R y1] h = (if 0 ≤ y0 ∧ y0 ≤ 100000 then ((am_pf (am_push h (am_ar 0 (y0 : Int).toNat (fun _ => 0)) (y0 : Int).toNat) y1 9 10 (am_R h.2.1)).bind fun h1 => (if 0 ≤ 609 ∧ 609 ≤ 100000 then ((am_pf (am_push h1 (am_ar 0 (609 : Int).toNat (fun _ => 0)) (609 : Int).toNat) x0 9 15 (am_R h1.2.1)).bind fun h2 => (if 0 ≤ 609 ∧ 609 ≤ 100000 then ((am_pf (am_push h2 (am_ar 0 (609 : Int).toNat (fun _ => 0)) (609 : Int).toNat) x0 9 16 (am_R h2.2.1)).bind fun h3 => (if 0 ≤ 609 ∧ 609 ≤ 100000 then ((am_pf (am_push h3 (am_ar 0 (609 : Int).toNat (fun _ => 0)) (609 : Int).toNat) x0 9 17 (am_R h3.2.1)).bind fun h4 => am_run am_ms 9 87 [am_R x0] [] h4) else none)) else none)) else none)) else none) :=
  (am_xs_run am_ms 9 [(.newarray .int, 2, [1048]), (.putfield 29, 3, [9, 10, 5193, 3]), (.aload_n 0, 1, []), (.sipush 609, 3, []), (.newarray .int, 2, [1048]), (.putfield 32, 3, [9, 15, 5198, 3]), (.aload_n 0, 1, []), (.sipush 609, 3, []), (.newarray .int, 2, [1048]), (.putfield 35, 3, [9, 16, 5199, 3]), (.aload_n 0, 1, []), (.sipush 609, 3, []), (.newarray .int, 2, [1048]), (.putfield 38, 3, [9, 17, 5200, 3])] 55 _ _ h (by decide +kernel)).trans rfl
set_option maxHeartbeats 4000000 in
theorem bk_9_87 (x0 : Nat) (h : am_H) : am_run am_ms 9 87 [am_R x0] [] h = (if 0 ≤ 609 ∧ 609 ≤ 100000 then ((am_pf (am_push h (am_ar 0 (609 : Int).toNat (fun _ => 0)) (609 : Int).toNat) x0 9 18 (am_R h.2.1)).bind fun h1 => (if 0 ≤ 24360 ∧ 24360 ≤ 100000 then ((am_pf (am_push h1 (am_ar 0 (24360 : Int).toNat (fun _ => 0)) (24360 : Int).toNat) x0 9 19 (am_R h1.2.1)).bind fun h2 => (if 0 ≤ 16 ∧ 16 ≤ 100000 then ((am_pf (am_push h2 (am_ar 0 (16 : Int).toNat (fun _ => 0)) (16 : Int).toNat) x0 9 26 (am_R h2.2.1)).bind fun h3 => am_run am_ms 9 117 [am_R x0] [am_I 128, am_R x0] h3) else none)) else none)) else none) :=
  (am_xs_run am_ms 9 [(.aload_n 0, 1, []), (.sipush 609, 3, []), (.newarray .int, 2, [1048]), (.putfield 41, 3, [9, 18, 5201, 3]), (.aload_n 0, 1, []), (.sipush 24360, 3, []), (.newarray .int, 2, [1048]), (.putfield 44, 3, [9, 19, 5202, 3]), (.aload_n 0, 1, []), (.bipush 16, 2, []), (.newarray .int, 2, [1048]), (.putfield 47, 3, [9, 26, 5209, 3]), (.aload_n 0, 1, []), (.sipush 128, 3, [])] 87 _ _ h (by decide +kernel)).trans rfl
set_option maxHeartbeats 4000000 in
theorem bk_9_117 (x0 : Nat) (y0 : Int) (y1 : Nat) (h : am_H) : am_run am_ms 9 117 [am_R x0] [am_I y0, am_R y1] h = (if 0 ≤ y0 ∧ y0 ≤ 100000 then ((am_pf (am_push h (am_ar 0 (y0 : Int).toNat (fun _ => 0)) (y0 : Int).toNat) y1 9 30 (am_R h.2.1)).bind fun h1 => some (none, h1)) else none) :=
  (am_xs_run am_ms 9 [(.newarray .int, 2, [1048]), (.putfield 50, 3, [9, 30, 5213, 3]), (.return_, 1, [])] 117 _ _ h (by decide +kernel)).trans rfl
set_option maxHeartbeats 4000000 in
theorem bk_13_0 (x0 : Int) (h : am_H) : am_run am_ms 13 0 [am_I x0, am_K 1, am_K 1] [] h = am_run am_ms 13 4 [am_I x0, am_I 0, am_I 0] [] h :=
  (am_xs_run am_ms 13 [(.iconst 0, 1, []), (.istore_n 1, 1, []), (.iconst 0, 1, []), (.istore_n 2, 1, [])] 0 _ _ h (by decide +kernel)).trans rfl
theorem en_13 (x0 : Int) (h : am_H) : am_call am_ms 13 [am_I x0] h = am_run am_ms 13 0 [am_I x0, am_K 1, am_K 1] [] h := rfl
set_option maxHeartbeats 4000000 in
theorem bk_13_4 (x0 : Int) (x1 : Int) (x2 : Int) (h : am_H) : am_run am_ms 13 4 [am_I x0, am_I x1, am_I x2] [] h = (bif decide (4 ≤ x2) then am_run am_ms 13 36 [am_I x0, am_I x1, am_I x2] [] h else (bif decide (¬ (am_and (am_shr x0 (am_w (8 * x2))) 255) = 0) then am_run am_ms 13 27 [am_I x0, am_I x1, am_I x2] [am_I x1] h else am_run am_ms 13 28 [am_I x0, am_I x1, am_I x2] [am_I 0, am_I x1] h)) :=
  (am_xs_run am_ms 13 [(.iload_n 2, 1, []), (.iconst 4, 1, []), (.if_icmp .ge 30, 3, []), (.iload_n 1, 1, []), (.iload_n 0, 1, []), (.bipush 8, 2, []), (.iload_n 2, 1, []), (.imul, 1, []), (.ishr, 1, []), (.sipush 255, 3, []), (.iand, 1, []), (.ifCond .ne 7, 3, []), (.iconst 0, 1, []), (.goto 4, 3, [])] 4 _ _ h (by decide +kernel)).trans rfl
set_option maxHeartbeats 4000000 in
theorem bk_13_27 (x0 : Int) (x1 : Int) (x2 : Int) (y0 : Int) (h : am_H) : am_run am_ms 13 27 [am_I x0, am_I x1, am_I x2] [am_I y0] h = am_run am_ms 13 28 [am_I x0, am_I x1, am_I x2] [am_I 1, am_I y0] h :=
  (am_xs_run am_ms 13 [(.iconst 1, 1, [])] 27 _ _ h (by decide +kernel)).trans rfl
set_option maxHeartbeats 4000000 in
theorem bk_13_28 (x0 : Int) (x1 : Int) (x2 : Int) (y0 : Int) (y1 : Int) (h : am_H) : am_run am_ms 13 28 [am_I x0, am_I x1, am_I x2] [am_I y0, am_I y1] h = am_run am_ms 13 4 [am_I x0, am_I (am_w (y1 + y0)), am_I (am_w (x2 + 1))] [] h :=
  (am_xs_run am_ms 13 [(.iadd, 1, []), (.istore_n 1, 1, []), (.iinc 2 1, 3, []), (.goto (-29), 3, [])] 28 _ _ h (by decide +kernel)).trans rfl
set_option maxHeartbeats 4000000 in
theorem bk_13_36 (x0 : Int) (x1 : Int) (x2 : Int) (h : am_H) : am_run am_ms 13 36 [am_I x0, am_I x1, am_I x2] [] h = some (some (am_I x1), h) :=
  (am_xs_run am_ms 13 [(.iload_n 1, 1, []), (.ireturn, 1, [0])] 36 _ _ h (by decide +kernel)).trans rfl
set_option maxHeartbeats 4000000 in
theorem bk_14_0 (x0 : Nat) (x1 : Int) (h : am_H) : am_run am_ms 14 0 [am_R x0, am_I x1, am_K 1, am_K 1] [] h = am_run am_ms 14 3 [am_R x0, am_I x1, am_I 24, am_K 1] [] h :=
  (am_xs_run am_ms 14 [(.bipush 24, 2, []), (.istore_n 2, 1, [])] 0 _ _ h (by decide +kernel)).trans rfl
theorem en_14 (x0 : Nat) (x1 : Int) (h : am_H) : am_call am_ms 14 [am_R x0, am_I x1] h = am_run am_ms 14 0 [am_R x0, am_I x1, am_K 1, am_K 1] [] h := rfl
set_option maxHeartbeats 4000000 in
theorem bk_14_3 (x0 : Nat) (x1 : Int) (x2 : Int) (x3 : am_V) (h : am_H) : am_run am_ms 14 3 [am_R x0, am_I x1, am_I x2, x3] [] h = (bif decide (x2 < 0) then am_run am_ms 14 49 [am_R x0, am_I x1, am_I x2, x3] [] h else (bif decide (¬ (am_and (am_shr x1 x2) 255) = 0) then am_run am_ms 14 22 [am_R x0, am_I x1, am_I x2, am_I (am_and (am_shr x1 x2) 255)] [] h else am_run am_ms 14 43 [am_R x0, am_I x1, am_I x2, am_I (am_and (am_shr x1 x2) 255)] [] h)) :=
  (am_xs_run am_ms 14 [(.iload_n 2, 1, []), (.ifCond .lt 45, 3, []), (.iload_n 1, 1, []), (.iload_n 2, 1, []), (.ishr, 1, []), (.sipush 255, 3, []), (.iand, 1, []), (.istore_n 3, 1, []), (.iload_n 3, 1, []), (.ifCond .ne 6, 3, []), (.goto 24, 3, [])] 3 _ _ h (by decide +kernel)).trans rfl
set_option maxHeartbeats 4000000 in
theorem bk_14_22 (x0 : Nat) (x1 : Int) (x2 : Int) (x3 : Int) (h : am_H) : am_run am_ms 14 22 [am_R x0, am_I x1, am_I x2, am_I x3] [] h = ((am_gfR h x0 9 1).bind fun f1 => ((am_gfI h x0 9 2).bind fun f2 => ((am_wr h f1 1 f2 (am_i2b (am_i2b x3))).bind fun h3 => ((am_gfI h3 x0 9 2).bind fun f4 => ((am_pf h3 x0 9 2 (am_I (am_w (f4 + 1)))).bind fun h5 => am_run am_ms 14 43 [am_R x0, am_I x1, am_I x2, am_I x3] [] h5))))) :=
  (am_xs_run am_ms 14 [(.aload_n 0, 1, []), (.getfield 9, 3, [9, 1, 5184, 3]), (.aload_n 0, 1, []), (.getfield 57, 3, [9, 2, 5185, 0]), (.iload_n 3, 1, []), (.i2b, 1, []), (.bastore, 1, []), (.aload_n 0, 1, []), (.dup, 1, []), (.getfield 57, 3, [9, 2, 5185, 0]), (.iconst 1, 1, []), (.iadd, 1, []), (.putfield 57, 3, [9, 2, 5185, 0])] 22 _ _ h (by decide +kernel)).trans rfl
set_option maxHeartbeats 4000000 in
theorem bk_14_43 (x0 : Nat) (x1 : Int) (x2 : Int) (x3 : Int) (h : am_H) : am_run am_ms 14 43 [am_R x0, am_I x1, am_I x2, am_I x3] [] h = am_run am_ms 14 3 [am_R x0, am_I x1, am_I (am_w (x2 + (-8))), am_I x3] [] h :=
  (am_xs_run am_ms 14 [(.iinc 2 (-8), 3, []), (.goto (-43), 3, [])] 43 _ _ h (by decide +kernel)).trans rfl
set_option maxHeartbeats 4000000 in
theorem bk_14_49 (x0 : Nat) (x1 : Int) (x2 : Int) (x3 : am_V) (h : am_H) : am_run am_ms 14 49 [am_R x0, am_I x1, am_I x2, x3] [] h = some (none, h) :=
  (am_xs_run am_ms 14 [(.return_, 1, [])] 49 _ _ h (by decide +kernel)).trans rfl
set_option maxHeartbeats 4000000 in
theorem bk_15_0 (x0 : Nat) (x1 : Int) (x2 : Int) (x3 : Int) (x4 : Int) (x5 : Int) (h : am_H) : am_run am_ms 15 0 [am_R x0, am_I x1, am_I x2, am_I x3, am_I x4, am_I x5] [] h = ((am_pf h x0 9 0 (am_I 0)).bind fun h1 => ((am_gfI h1 x0 9 2).bind fun f2 => ((am_cI 13 [am_I x1] h1).bind fun r3 => ((am_cI 13 [am_I x2] r3.2).bind fun r4 => ((am_cI 13 [am_I x3] r4.2).bind fun r5 => am_run am_ms 15 24 [am_R x0, am_I x1, am_I x2, am_I x3, am_I x4, am_I x5] [am_I (am_w ((am_w ((am_w (f2 + r3.1)) + r4.1)) + r5.1))] r5.2))))) :=
  (am_xs_run am_ms 15 [(.aload_n 0, 1, []), (.iconst 0, 1, []), (.putfield 53, 3, [9, 0, 5183, 0]), (.aload_n 0, 1, []), (.getfield 57, 3, [9, 2, 5185, 0]), (.iload_n 1, 1, []), (.invokestatic 60, 3, [1, 13, 1, 0, 1, 6045, 6046]), (.iadd, 1, []), (.iload_n 2, 1, []), (.invokestatic 60, 3, [1, 13, 1, 0, 1, 6045, 6046]), (.iadd, 1, []), (.iload_n 3, 1, []), (.invokestatic 60, 3, [1, 13, 1, 0, 1, 6045, 6046]), (.iadd, 1, [])] 0 _ _ h (by decide +kernel)).trans rfl
theorem en_15 (x0 : Nat) (x1 : Int) (x2 : Int) (x3 : Int) (x4 : Int) (x5 : Int) (h : am_H) : am_call am_ms 15 [am_R x0, am_I x1, am_I x2, am_I x3, am_I x4, am_I x5] h = am_run am_ms 15 0 [am_R x0, am_I x1, am_I x2, am_I x3, am_I x4, am_I x5] [] h := rfl
set_option maxHeartbeats 4000000 in
theorem bk_15_24 (x0 : Nat) (x1 : Int) (x2 : Int) (x3 : Int) (x4 : Int) (x5 : Int) (y0 : Int) (h : am_H) : am_run am_ms 15 24 [am_R x0, am_I x1, am_I x2, am_I x3, am_I x4, am_I x5] [am_I y0] h = ((am_cI 13 [am_I x4] h).bind fun r1 => ((am_cI 13 [am_I x5] r1.2).bind fun r2 => (bif decide ((am_w ((am_w (y0 + r1.1)) + r2.1)) ≤ 240) then am_run am_ms 15 44 [am_R x0, am_I x1, am_I x2, am_I x3, am_I x4, am_I x5] [] r2.2 else some (some (am_I (-1)), r2.2)))) :=
  (am_xs_run am_ms 15 [(.iload 4, 2, []), (.invokestatic 60, 3, [1, 13, 1, 0, 1, 6045, 6046]), (.iadd, 1, []), (.iload 5, 2, []), (.invokestatic 60, 3, [1, 13, 1, 0, 1, 6045, 6046]), (.iadd, 1, []), (.sipush 240, 3, []), (.if_icmp .le 5, 3, []), (.iconst (-1), 1, []), (.ireturn, 1, [0])] 24 _ _ h (by decide +kernel)).trans rfl
set_option maxHeartbeats 4000000 in
theorem bk_15_44 (x0 : Nat) (x1 : Int) (x2 : Int) (x3 : Int) (x4 : Int) (x5 : Int) (h : am_H) : am_run am_ms 15 44 [am_R x0, am_I x1, am_I x2, am_I x3, am_I x4, am_I x5] [] h = ((am_isc h x0 9).bind fun _ => ((am_cV 14 [am_R x0, am_I x1] h).bind fun h1 => ((am_isc h1 x0 9).bind fun _ => ((am_cV 14 [am_R x0, am_I x2] h1).bind fun h2 => ((am_isc h2 x0 9).bind fun _ => ((am_cV 14 [am_R x0, am_I x3] h2).bind fun h3 => ((am_isc h3 x0 9).bind fun _ => ((am_cV 14 [am_R x0, am_I x4] h3).bind fun h4 => am_run am_ms 15 68 [am_R x0, am_I x1, am_I x2, am_I x3, am_I x4, am_I x5] [am_I x5, am_R x0] h4)))))))) :=
  (am_xs_run am_ms 15 [(.aload_n 0, 1, []), (.iload_n 1, 1, []), (.invokevirtual 64, 3, [0, 14, 2, 9, 0, 6048, 6050, 37]), (.aload_n 0, 1, []), (.iload_n 2, 1, []), (.invokevirtual 64, 3, [0, 14, 2, 9, 0, 6048, 6050, 37]), (.aload_n 0, 1, []), (.iload_n 3, 1, []), (.invokevirtual 64, 3, [0, 14, 2, 9, 0, 6048, 6050, 37]), (.aload_n 0, 1, []), (.iload 4, 2, []), (.invokevirtual 64, 3, [0, 14, 2, 9, 0, 6048, 6050, 37]), (.aload_n 0, 1, []), (.iload 5, 2, [])] 44 _ _ h (by decide +kernel)).trans rfl
set_option maxHeartbeats 4000000 in
theorem bk_15_68 (x0 : Nat) (x1 : Int) (x2 : Int) (x3 : Int) (x4 : Int) (x5 : Int) (y0 : Int) (y1 : Nat) (h : am_H) : am_run am_ms 15 68 [am_R x0, am_I x1, am_I x2, am_I x3, am_I x4, am_I x5] [am_I y0, am_R y1] h = ((am_isc h y1 9).bind fun _ => ((am_cV 14 [am_R y1, am_I y0] h).bind fun h1 => ((am_gfI h1 x0 9 2).bind fun f2 => some (some (am_I f2), h1)))) :=
  (am_xs_run am_ms 15 [(.invokevirtual 64, 3, [0, 14, 2, 9, 0, 6048, 6050, 37]), (.aload_n 0, 1, []), (.getfield 57, 3, [9, 2, 5185, 0]), (.ireturn, 1, [0])] 68 _ _ h (by decide +kernel)).trans rfl
set_option maxHeartbeats 4000000 in
theorem bk_17_0 (x0 : Nat) (x1 : Int) (h : am_H) : am_run am_ms 17 0 [am_R x0, am_I x1] [] h = ((am_pf h x0 9 0 (am_I 0)).bind fun h1 => (bif decide (x1 < 0) then am_run am_ms 17 17 [am_R x0, am_I x1] [] h1 else ((am_gfI h1 x0 9 2).bind fun f2 => (bif decide (x1 ≤ f2) then am_run am_ms 17 19 [am_R x0, am_I x1] [] h1 else am_run am_ms 17 17 [am_R x0, am_I x1] [] h1)))) :=
  (am_xs_run am_ms 17 [(.aload_n 0, 1, []), (.iconst 0, 1, []), (.putfield 53, 3, [9, 0, 5183, 0]), (.iload_n 1, 1, []), (.ifCond .lt 11, 3, []), (.iload_n 1, 1, []), (.aload_n 0, 1, []), (.getfield 57, 3, [9, 2, 5185, 0]), (.if_icmp .le 5, 3, [])] 0 _ _ h (by decide +kernel)).trans rfl
theorem en_17 (x0 : Nat) (x1 : Int) (h : am_H) : am_call am_ms 17 [am_R x0, am_I x1] h = am_run am_ms 17 0 [am_R x0, am_I x1] [] h := rfl
set_option maxHeartbeats 4000000 in
theorem bk_17_17 (x0 : Nat) (x1 : Int) (h : am_H) : am_run am_ms 17 17 [am_R x0, am_I x1] [] h = some (some (am_I 0), h) :=
  (am_xs_run am_ms 17 [(.iconst 0, 1, []), (.ireturn, 1, [1])] 17 _ _ h (by decide +kernel)).trans rfl
set_option maxHeartbeats 4000000 in
theorem bk_17_19 (x0 : Nat) (x1 : Int) (h : am_H) : am_run am_ms 17 19 [am_R x0, am_I x1] [] h = ((am_pf h x0 9 2 (am_I x1)).bind fun h1 => some (some (am_I 1), h1)) :=
  (am_xs_run am_ms 17 [(.aload_n 0, 1, []), (.iload_n 1, 1, []), (.putfield 57, 3, [9, 2, 5185, 0]), (.iconst 1, 1, []), (.ireturn, 1, [1])] 19 _ _ h (by decide +kernel)).trans rfl
set_option maxHeartbeats 4000000 in
theorem bk_40_0 (x0 : Int) (x2 : Int) (x4 : Int) (h : am_H) : am_run am_ms 40 0 [am_L x0, am_K 1, am_L x2, am_K 1, am_L x4, am_K 1] [] h = (bif decide ((am_lcmp x0 x2) < 0) then am_run am_ms 40 17 [am_L x0, am_K 1, am_L x2, am_K 1, am_L x4, am_K 1] [] h else (bif decide (0 < (am_lcmp x0 x4)) then am_run am_ms 40 17 [am_L x0, am_K 1, am_L x2, am_K 1, am_L x4, am_K 1] [] h else am_run am_ms 40 18 [am_L x0, am_K 1, am_L x2, am_K 1, am_L x4, am_K 1] [am_I 1] h)) :=
  (am_xs_run am_ms 40 [(.lload_n 0, 1, []), (.lload_n 2, 1, []), (.lcmp, 1, []), (.ifCond .lt 14, 3, []), (.lload_n 0, 1, []), (.lload 4, 2, []), (.lcmp, 1, []), (.ifCond .gt 7, 3, []), (.iconst 1, 1, []), (.goto 4, 3, [])] 0 _ _ h (by decide +kernel)).trans rfl
theorem en_40 (x0 : Int) (x2 : Int) (x4 : Int) (h : am_H) : am_call am_ms 40 [am_L x0, am_L x2, am_L x4] h = am_run am_ms 40 0 [am_L x0, am_K 1, am_L x2, am_K 1, am_L x4, am_K 1] [] h := rfl
set_option maxHeartbeats 4000000 in
theorem bk_40_17 (x0 : Int) (x2 : Int) (x4 : Int) (h : am_H) : am_run am_ms 40 17 [am_L x0, am_K 1, am_L x2, am_K 1, am_L x4, am_K 1] [] h = am_run am_ms 40 18 [am_L x0, am_K 1, am_L x2, am_K 1, am_L x4, am_K 1] [am_I 0] h :=
  (am_xs_run am_ms 40 [(.iconst 0, 1, [])] 17 _ _ h (by decide +kernel)).trans rfl
set_option maxHeartbeats 4000000 in
theorem bk_40_18 (x0 : Int) (x2 : Int) (x4 : Int) (y0 : Int) (h : am_H) : am_run am_ms 40 18 [am_L x0, am_K 1, am_L x2, am_K 1, am_L x4, am_K 1] [am_I y0] h = (bif am_rok 1 y0 then some (some (am_I y0), h) else none) :=
  (am_xs_run am_ms 40 [(.ireturn, 1, [1])] 18 _ _ h (by decide +kernel)).trans rfl
set_option maxHeartbeats 4000000 in
theorem bk_41_0 (x0 : Int) (h : am_H) : am_run am_ms 41 0 [am_I x0] [] h = am_run am_ms 41 1 [am_I x0] [am_I x0] h :=
  (am_xs_run am_ms 41 [(.iload_n 0, 1, [])] 0 _ _ h (by decide +kernel)).trans rfl
theorem en_41 (x0 : Int) (h : am_H) : am_call am_ms 41 [am_I x0] h = am_run am_ms 41 0 [am_I x0] [] h := rfl
theorem bk_41_1 (x0 : Int) (y0 : Int) (h : am_H) : am_run am_ms 41 1 [am_I x0] [am_I y0] h = am_run am_ms 41 (am_tsw 1 54 0 6 #[43, 45, 48, 50, 54, 54, 52] y0) [am_I x0] [] h := by
  rw [am_run_eq, show am_code am_ms 41 1 = some (.tableswitch 54 0 6 #[43, 45, 48, 50, 54, 54, 52], 43, []) from by decide +kernel]
  rfl
set_option maxHeartbeats 4000000 in
theorem bk_41_44 (x0 : Int) (h : am_H) : am_run am_ms 41 44 [am_I x0] [] h = some (some (am_I 4), h) :=
  (am_xs_run am_ms 41 [(.iconst 4, 1, []), (.ireturn, 1, [0])] 44 _ _ h (by decide +kernel)).trans rfl
set_option maxHeartbeats 4000000 in
theorem bk_41_46 (x0 : Int) (h : am_H) : am_run am_ms 41 46 [am_I x0] [] h = some (some (am_I 8), h) :=
  (am_xs_run am_ms 41 [(.bipush 8, 2, []), (.ireturn, 1, [0])] 46 _ _ h (by decide +kernel)).trans rfl
set_option maxHeartbeats 4000000 in
theorem bk_41_49 (x0 : Int) (h : am_H) : am_run am_ms 41 49 [am_I x0] [] h = some (some (am_I 2), h) :=
  (am_xs_run am_ms 41 [(.iconst 2, 1, []), (.ireturn, 1, [0])] 49 _ _ h (by decide +kernel)).trans rfl
set_option maxHeartbeats 4000000 in
theorem bk_41_51 (x0 : Int) (h : am_H) : am_run am_ms 41 51 [am_I x0] [] h = some (some (am_I 3), h) :=
  (am_xs_run am_ms 41 [(.iconst 3, 1, []), (.ireturn, 1, [0])] 51 _ _ h (by decide +kernel)).trans rfl
set_option maxHeartbeats 4000000 in
theorem bk_41_53 (x0 : Int) (h : am_H) : am_run am_ms 41 53 [am_I x0] [] h = some (some (am_I 0), h) :=
  (am_xs_run am_ms 41 [(.iconst 0, 1, []), (.ireturn, 1, [0])] 53 _ _ h (by decide +kernel)).trans rfl
set_option maxHeartbeats 4000000 in
theorem bk_41_55 (x0 : Int) (h : am_H) : am_run am_ms 41 55 [am_I x0] [] h = some (some (am_I 1), h) :=
  (am_xs_run am_ms 41 [(.iconst 1, 1, []), (.ireturn, 1, [0])] 55 _ _ h (by decide +kernel)).trans rfl
set_option maxHeartbeats 4000000 in
theorem bk_42_0 (x0 : Nat) (h : am_H) : am_run am_ms 42 0 [am_R x0] [] h = ((am_gfI h x0 9 3).bind fun f1 => ((am_gfI h x0 9 2).bind fun f2 => (bif decide (f2 ≤ f1) then am_run am_ms 42 27 [am_R x0] [] h else ((am_gfR h x0 9 1).bind fun f3 => ((am_gfI h x0 9 3).bind fun f4 => ((am_rd h f3 1 f4).bind fun v5 => am_run am_ms 42 28 [am_R x0] [am_I (am_and v5 255)] h)))))) :=
  (am_xs_run am_ms 42 [(.aload_n 0, 1, []), (.getfield 68, 3, [9, 3, 5186, 0]), (.aload_n 0, 1, []), (.getfield 57, 3, [9, 2, 5185, 0]), (.if_icmp .ge 19, 3, []), (.aload_n 0, 1, []), (.getfield 9, 3, [9, 1, 5184, 3]), (.aload_n 0, 1, []), (.getfield 68, 3, [9, 3, 5186, 0]), (.baload, 1, []), (.sipush 255, 3, []), (.iand, 1, []), (.goto 4, 3, [])] 0 _ _ h (by decide +kernel)).trans rfl
theorem en_42 (x0 : Nat) (h : am_H) : am_call am_ms 42 [am_R x0] h = am_run am_ms 42 0 [am_R x0] [] h := rfl
set_option maxHeartbeats 4000000 in
theorem bk_42_27 (x0 : Nat) (h : am_H) : am_run am_ms 42 27 [am_R x0] [] h = am_run am_ms 42 28 [am_R x0] [am_I (-1)] h :=
  (am_xs_run am_ms 42 [(.iconst (-1), 1, [])] 27 _ _ h (by decide +kernel)).trans rfl
set_option maxHeartbeats 4000000 in
theorem bk_42_28 (x0 : Nat) (y0 : Int) (h : am_H) : am_run am_ms 42 28 [am_R x0] [am_I y0] h = some (some (am_I y0), h) :=
  (am_xs_run am_ms 42 [(.ireturn, 1, [0])] 28 _ _ h (by decide +kernel)).trans rfl
set_option maxHeartbeats 4000000 in
theorem bk_43_0 (x0 : Nat) (h : am_H) : am_run am_ms 43 0 [am_R x0] [] h = ((am_isc h x0 9).bind fun _ => ((am_cI 42 [am_R x0] h).bind fun r1 => (bif decide (¬ r1.1 = 32) then am_run am_ms 43 22 [am_R x0] [] r1.2 else ((am_gfI r1.2 x0 9 3).bind fun f2 => ((am_pf r1.2 x0 9 3 (am_I (am_w (f2 + 1)))).bind fun h3 => am_run am_ms 43 0 [am_R x0] [] h3))))) :=
  (am_xs_run am_ms 43 [(.aload_n 0, 1, []), (.invokevirtual 71, 3, [0, 42, 1, 9, 1, 6078, 6080, 41]), (.bipush 32, 2, []), (.if_icmp .ne 16, 3, []), (.aload_n 0, 1, []), (.dup, 1, []), (.getfield 68, 3, [9, 3, 5186, 0]), (.iconst 1, 1, []), (.iadd, 1, []), (.putfield 68, 3, [9, 3, 5186, 0]), (.goto (-19), 3, [])] 0 _ _ h (by decide +kernel)).trans rfl
theorem en_43 (x0 : Nat) (h : am_H) : am_call am_ms 43 [am_R x0] h = am_run am_ms 43 0 [am_R x0] [] h := rfl
set_option maxHeartbeats 4000000 in
theorem bk_43_22 (x0 : Nat) (h : am_H) : am_run am_ms 43 22 [am_R x0] [] h = ((am_isc h x0 9).bind fun _ => ((am_cI 42 [am_R x0] h).bind fun r1 => some (some (am_I r1.1), r1.2))) :=
  (am_xs_run am_ms 43 [(.aload_n 0, 1, []), (.invokevirtual 71, 3, [0, 42, 1, 9, 1, 6078, 6080, 41]), (.ireturn, 1, [0])] 22 _ _ h (by decide +kernel)).trans rfl
set_option maxHeartbeats 4000000 in
theorem bk_48_0 (x0 : Nat) (x1 : Int) (h : am_H) : am_run am_ms 48 0 [am_K x0, am_I x1, am_K 1] [] h = am_run am_ms 48 2 [am_K x0, am_I x1, am_I 0] [] h :=
  (am_xs_run am_ms 48 [(.iconst 0, 1, []), (.istore_n 2, 1, [])] 0 _ _ h (by decide +kernel)).trans rfl
theorem en_48 (x0 : Nat) (x1 : Int) (h : am_H) : am_call am_ms 48 [am_K x0, am_I x1] h = am_run am_ms 48 0 [am_K x0, am_I x1, am_K 1] [] h := rfl
set_option maxHeartbeats 4000000 in
theorem bk_48_2 (x0 : Nat) (x1 : Int) (x2 : Int) (h : am_H) : am_run am_ms 48 2 [am_K x0, am_I x1, am_I x2] [] h = (bif Nat.beq x0 1 then none else (bif am_istx x0 then ((am_cI 20 [am_K x0] h).bind fun r1 => (bif decide (r1.1 ≤ x2) then am_run am_ms 48 27 [am_K x0, am_I x1, am_I x2] [] r1.2 else (bif Nat.beq x0 1 then none else (bif am_istx x0 then ((am_cI 47 [am_K x0, am_I x2] r1.2).bind fun r2 => (bif decide (¬ r2.1 = x1) then am_run am_ms 48 21 [am_K x0, am_I x1, am_I x2] [] r2.2 else some (some (am_I x2), r2.2))) else none)))) else none)) :=
  (am_xs_run am_ms 48 [(.iload_n 2, 1, []), (.aload_n 0, 1, []), (.invokevirtual 78, 3, [5, 20, 1, 0, 1, 6091, 2120, 2121]), (.if_icmp .ge 20, 3, []), (.aload_n 0, 1, []), (.iload_n 2, 1, []), (.invokevirtual 82, 3, [5, 47, 2, 0, 1, 6092, 6093, 6094]), (.iload_n 1, 1, []), (.if_icmp .ne 5, 3, []), (.iload_n 2, 1, []), (.ireturn, 1, [0])] 2 _ _ h (by decide +kernel)).trans rfl
set_option maxHeartbeats 4000000 in
theorem bk_48_21 (x0 : Nat) (x1 : Int) (x2 : Int) (h : am_H) : am_run am_ms 48 21 [am_K x0, am_I x1, am_I x2] [] h = am_run am_ms 48 2 [am_K x0, am_I x1, am_I (am_w (x2 + 1))] [] h :=
  (am_xs_run am_ms 48 [(.iinc 2 1, 3, []), (.goto (-22), 3, [])] 21 _ _ h (by decide +kernel)).trans rfl
set_option maxHeartbeats 4000000 in
theorem bk_48_27 (x0 : Nat) (x1 : Int) (x2 : Int) (h : am_H) : am_run am_ms 48 27 [am_K x0, am_I x1, am_I x2] [] h = some (some (am_I (-1)), h) :=
  (am_xs_run am_ms 48 [(.iconst (-1), 1, []), (.ireturn, 1, [0])] 27 _ _ h (by decide +kernel)).trans rfl
set_option maxHeartbeats 4000000 in
theorem bk_49_0 (x0 : Int) (x1 : Int) (h : am_H) : am_run am_ms 49 0 [am_I x0, am_I x1] [] h = (bif decide (¬ (am_and (am_shr x0 x1) 1) = 1) then am_run am_ms 49 13 [am_I x0, am_I x1] [] h else am_run am_ms 49 14 [am_I x0, am_I x1] [am_I 1] h) :=
  (am_xs_run am_ms 49 [(.iload_n 0, 1, []), (.iload_n 1, 1, []), (.ishr, 1, []), (.iconst 1, 1, []), (.iand, 1, []), (.iconst 1, 1, []), (.if_icmp .ne 7, 3, []), (.iconst 1, 1, []), (.goto 4, 3, [])] 0 _ _ h (by decide +kernel)).trans rfl
theorem en_49 (x0 : Int) (x1 : Int) (h : am_H) : am_call am_ms 49 [am_I x0, am_I x1] h = am_run am_ms 49 0 [am_I x0, am_I x1] [] h := rfl
set_option maxHeartbeats 4000000 in
theorem bk_49_13 (x0 : Int) (x1 : Int) (h : am_H) : am_run am_ms 49 13 [am_I x0, am_I x1] [] h = am_run am_ms 49 14 [am_I x0, am_I x1] [am_I 0] h :=
  (am_xs_run am_ms 49 [(.iconst 0, 1, [])] 13 _ _ h (by decide +kernel)).trans rfl
set_option maxHeartbeats 4000000 in
theorem bk_49_14 (x0 : Int) (x1 : Int) (y0 : Int) (h : am_H) : am_run am_ms 49 14 [am_I x0, am_I x1] [am_I y0] h = (bif am_rok 1 y0 then some (some (am_I y0), h) else none) :=
  (am_xs_run am_ms 49 [(.ireturn, 1, [1])] 14 _ _ h (by decide +kernel)).trans rfl
set_option maxHeartbeats 4000000 in
theorem bk_50_0 (x0 : Nat) (h : am_H) : am_run am_ms 50 0 [am_R x0] [] h = ((am_gfI h x0 9 4).bind fun f1 => (bif decide (¬ f1 = (-1)) then am_run am_ms 50 16 [am_R x0] [] h else ((am_gfI h x0 9 3).bind fun f2 => ((am_pf h x0 9 4 (am_I f2)).bind fun h3 => am_run am_ms 50 16 [am_R x0] [] h3)))) :=
  (am_xs_run am_ms 50 [(.aload_n 0, 1, []), (.getfield 75, 3, [9, 4, 5187, 0]), (.iconst (-1), 1, []), (.if_icmp .ne 11, 3, []), (.aload_n 0, 1, []), (.aload_n 0, 1, []), (.getfield 68, 3, [9, 3, 5186, 0]), (.putfield 75, 3, [9, 4, 5187, 0])] 0 _ _ h (by decide +kernel)).trans rfl
theorem en_50 (x0 : Nat) (h : am_H) : am_call am_ms 50 [am_R x0] h = am_run am_ms 50 0 [am_R x0] [] h := rfl
set_option maxHeartbeats 4000000 in
theorem bk_50_16 (x0 : Nat) (h : am_H) : am_run am_ms 50 16 [am_R x0] [] h = some (none, h) :=
  (am_xs_run am_ms 50 [(.return_, 1, [])] 16 _ _ h (by decide +kernel)).trans rfl
set_option maxHeartbeats 4000000 in
theorem bk_51_0 (x0 : Int) (h : am_H) : am_run am_ms 51 0 [am_I x0] [] h = am_run am_ms 51 1 [am_I x0] [am_I x0] h :=
  (am_xs_run am_ms 51 [(.iload_n 0, 1, [])] 0 _ _ h (by decide +kernel)).trans rfl
theorem en_51 (x0 : Int) (h : am_H) : am_call am_ms 51 [am_I x0] h = am_run am_ms 51 0 [am_I x0] [] h := rfl
theorem bk_51_1 (x0 : Int) (y0 : Int) (h : am_H) : am_run am_ms 51 1 [am_I x0] [am_I y0] h = am_run am_ms 51 (am_lsw 1 41 #[(0, 35), (1, 37), (6, 39)] y0) [am_I x0] [] h := by
  rw [am_run_eq, show am_code am_ms 51 1 = some (.lookupswitch 41 #[(0, 35), (1, 37), (6, 39)], 35, []) from by decide +kernel]
  rfl
set_option maxHeartbeats 4000000 in
theorem bk_51_36 (x0 : Int) (h : am_H) : am_run am_ms 51 36 [am_I x0] [] h = some (some (am_I 3), h) :=
  (am_xs_run am_ms 51 [(.iconst 3, 1, []), (.ireturn, 1, [0])] 36 _ _ h (by decide +kernel)).trans rfl
set_option maxHeartbeats 4000000 in
theorem bk_51_38 (x0 : Int) (h : am_H) : am_run am_ms 51 38 [am_I x0] [] h = some (some (am_I 2), h) :=
  (am_xs_run am_ms 51 [(.iconst 2, 1, []), (.ireturn, 1, [0])] 38 _ _ h (by decide +kernel)).trans rfl
set_option maxHeartbeats 4000000 in
theorem bk_51_40 (x0 : Int) (h : am_H) : am_run am_ms 51 40 [am_I x0] [] h = some (some (am_I 0), h) :=
  (am_xs_run am_ms 51 [(.iconst 0, 1, []), (.ireturn, 1, [0])] 40 _ _ h (by decide +kernel)).trans rfl
set_option maxHeartbeats 4000000 in
theorem bk_51_42 (x0 : Int) (h : am_H) : am_run am_ms 51 42 [am_I x0] [] h = some (some (am_I 1), h) :=
  (am_xs_run am_ms 51 [(.iconst 1, 1, []), (.ireturn, 1, [0])] 42 _ _ h (by decide +kernel)).trans rfl
set_option maxHeartbeats 4000000 in
theorem bk_52_0 (x0 : Int) (h : am_H) : am_run am_ms 52 0 [am_I x0] [] h = am_run am_ms 52 1 [am_I x0] [am_I x0] h :=
  (am_xs_run am_ms 52 [(.iload_n 0, 1, [])] 0 _ _ h (by decide +kernel)).trans rfl
theorem en_52 (x0 : Int) (h : am_H) : am_call am_ms 52 [am_I x0] h = am_run am_ms 52 0 [am_I x0] [] h := rfl
theorem bk_52_1 (x0 : Int) (y0 : Int) (h : am_H) : am_run am_ms 52 1 [am_I x0] [am_I y0] h = am_run am_ms 52 (am_tsw 1 48 1 6 #[39, 48, 48, 42, 44, 46] y0) [am_I x0] [] h := by
  rw [am_run_eq, show am_code am_ms 52 1 = some (.tableswitch 48 1 6 #[39, 48, 48, 42, 44, 46], 39, []) from by decide +kernel]
  rfl
set_option maxHeartbeats 4000000 in
theorem bk_52_40 (x0 : Int) (h : am_H) : am_run am_ms 52 40 [am_I x0] [] h = some (some (am_I 16), h) :=
  (am_xs_run am_ms 52 [(.bipush 16, 2, []), (.ireturn, 1, [0])] 40 _ _ h (by decide +kernel)).trans rfl
set_option maxHeartbeats 4000000 in
theorem bk_52_43 (x0 : Int) (h : am_H) : am_run am_ms 52 43 [am_I x0] [] h = some (some (am_I 3), h) :=
  (am_xs_run am_ms 52 [(.iconst 3, 1, []), (.ireturn, 1, [0])] 43 _ _ h (by decide +kernel)).trans rfl
set_option maxHeartbeats 4000000 in
theorem bk_52_45 (x0 : Int) (h : am_H) : am_run am_ms 52 45 [am_I x0] [] h = some (some (am_I 2), h) :=
  (am_xs_run am_ms 52 [(.iconst 2, 1, []), (.ireturn, 1, [0])] 45 _ _ h (by decide +kernel)).trans rfl
set_option maxHeartbeats 4000000 in
theorem bk_52_47 (x0 : Int) (h : am_H) : am_run am_ms 52 47 [am_I x0] [] h = some (some (am_I 3), h) :=
  (am_xs_run am_ms 52 [(.iconst 3, 1, []), (.ireturn, 1, [0])] 47 _ _ h (by decide +kernel)).trans rfl
set_option maxHeartbeats 4000000 in
theorem bk_52_49 (x0 : Int) (h : am_H) : am_run am_ms 52 49 [am_I x0] [] h = some (some (am_I 8), h) :=
  (am_xs_run am_ms 52 [(.bipush 8, 2, []), (.ireturn, 1, [0])] 49 _ _ h (by decide +kernel)).trans rfl
set_option maxHeartbeats 4000000 in
theorem bk_53_0 (x0 : Nat) (h : am_H) : am_run am_ms 53 0 [am_R x0] [] h = ((am_isc h x0 9).bind fun _ => ((am_cI 42 [am_R x0] h).bind fun r1 => (bif decide (r1.1 < 48) then am_run am_ms 53 22 [am_R x0] [] r1.2 else ((am_isc r1.2 x0 9).bind fun _ => ((am_cI 42 [am_R x0] r1.2).bind fun r2 => (bif decide (57 < r2.1) then am_run am_ms 53 22 [am_R x0] [] r2.2 else am_run am_ms 53 23 [am_R x0] [am_I 1] r2.2)))))) :=
  (am_xs_run am_ms 53 [(.aload_n 0, 1, []), (.invokevirtual 71, 3, [0, 42, 1, 9, 1, 6078, 6080, 41]), (.bipush 48, 2, []), (.if_icmp .lt 16, 3, []), (.aload_n 0, 1, []), (.invokevirtual 71, 3, [0, 42, 1, 9, 1, 6078, 6080, 41]), (.bipush 57, 2, []), (.if_icmp .gt 7, 3, []), (.iconst 1, 1, []), (.goto 4, 3, [])] 0 _ _ h (by decide +kernel)).trans rfl
theorem en_53 (x0 : Nat) (h : am_H) : am_call am_ms 53 [am_R x0] h = am_run am_ms 53 0 [am_R x0] [] h := rfl
set_option maxHeartbeats 4000000 in
theorem bk_53_22 (x0 : Nat) (h : am_H) : am_run am_ms 53 22 [am_R x0] [] h = am_run am_ms 53 23 [am_R x0] [am_I 0] h :=
  (am_xs_run am_ms 53 [(.iconst 0, 1, [])] 22 _ _ h (by decide +kernel)).trans rfl
set_option maxHeartbeats 4000000 in
theorem bk_53_23 (x0 : Nat) (y0 : Int) (h : am_H) : am_run am_ms 53 23 [am_R x0] [am_I y0] h = (bif am_rok 1 y0 then some (some (am_I y0), h) else none) :=
  (am_xs_run am_ms 53 [(.ireturn, 1, [1])] 23 _ _ h (by decide +kernel)).trans rfl
set_option maxHeartbeats 4000000 in
theorem bk_54_0 (x0 : Nat) (x1 : Int) (x2 : Int) (h : am_H) : am_run am_ms 54 0 [am_R x0, am_I x1, am_I x2, am_K 1, am_K 1, am_K 1] [] h = ((am_isc h x0 9).bind fun _ => ((am_cI 43 [am_R x0] h).bind fun r1 => ((am_isc r1.2 x0 9).bind fun _ => ((am_cI 53 [am_R x0] r1.2).bind fun r2 => (bif decide (¬ r2.1 = 0) then am_run am_ms 54 18 [am_R x0, am_I x1, am_I x2, am_I r1.1, am_K 1, am_K 1] [] r2.2 else ((am_isc r2.2 x0 9).bind fun _ => ((am_cV 50 [am_R x0] r2.2).bind fun h3 => some (some (am_I 0), h3)))))))) :=
  (am_xs_run am_ms 54 [(.aload_n 0, 1, []), (.invokevirtual 86, 3, [0, 43, 1, 9, 1, 6074, 6076, 40]), (.istore_n 3, 1, []), (.aload_n 0, 1, []), (.invokevirtual 89, 3, [0, 53, 1, 9, 1, 6129, 6131, 45]), (.ifCond .ne 9, 3, []), (.aload_n 0, 1, []), (.invokevirtual 93, 3, [0, 50, 1, 9, 0, 6115, 6117, 43]), (.iconst 0, 1, []), (.ireturn, 1, [0])] 0 _ _ h (by decide +kernel)).trans rfl
theorem en_54 (x0 : Nat) (x1 : Int) (x2 : Int) (h : am_H) : am_call am_ms 54 [am_R x0, am_I x1, am_I x2] h = am_run am_ms 54 0 [am_R x0, am_I x1, am_I x2, am_K 1, am_K 1, am_K 1] [] h := rfl
set_option maxHeartbeats 4000000 in
theorem bk_54_18 (x0 : Nat) (x1 : Int) (x2 : Int) (x3 : Int) (h : am_H) : am_run am_ms 54 18 [am_R x0, am_I x1, am_I x2, am_I x3, am_K 1, am_K 1] [] h = am_run am_ms 54 24 [am_R x0, am_I x1, am_I x2, am_I x3, am_I 0, am_I 0] [] h :=
  (am_xs_run am_ms 54 [(.iconst 0, 1, []), (.istore 4, 2, []), (.iconst 0, 1, []), (.istore 5, 2, [])] 18 _ _ h (by decide +kernel)).trans rfl
set_option maxHeartbeats 4000000 in
theorem bk_54_24 (x0 : Nat) (x1 : Int) (x2 : Int) (x3 : Int) (x4 : Int) (x5 : Int) (h : am_H) : am_run am_ms 54 24 [am_R x0, am_I x1, am_I x2, am_I x3, am_I x4, am_I x5] [] h = (bif decide (3 ≤ x5) then am_run am_ms 54 68 [am_R x0, am_I x1, am_I x2, am_I x3, am_I x4, am_I x5] [] h else ((am_isc h x0 9).bind fun _ => ((am_cI 53 [am_R x0] h).bind fun r1 => (bif decide (r1.1 = 0) then am_run am_ms 54 68 [am_R x0, am_I x1, am_I x2, am_I x3, am_I x4, am_I x5] [] r1.2 else ((am_isc r1.2 x0 9).bind fun _ => ((am_cI 42 [am_R x0] r1.2).bind fun r2 => am_run am_ms 54 50 [am_R x0, am_I x1, am_I x2, am_I x3, am_I x4, am_I x5] [am_I (am_w ((am_w ((am_w (10 * x4)) + r2.1)) - 48))] r2.2)))))) :=
  (am_xs_run am_ms 54 [(.iload 5, 2, []), (.iconst 3, 1, []), (.if_icmp .ge 41, 3, []), (.aload_n 0, 1, []), (.invokevirtual 89, 3, [0, 53, 1, 9, 1, 6129, 6131, 45]), (.ifCond .eq 34, 3, []), (.bipush 10, 2, []), (.iload 4, 2, []), (.imul, 1, []), (.aload_n 0, 1, []), (.invokevirtual 71, 3, [0, 42, 1, 9, 1, 6078, 6080, 41]), (.iadd, 1, []), (.bipush 48, 2, []), (.isub, 1, [])] 24 _ _ h (by decide +kernel)).trans rfl
set_option maxHeartbeats 4000000 in
theorem bk_54_50 (x0 : Nat) (x1 : Int) (x2 : Int) (x3 : Int) (x4 : Int) (x5 : Int) (y0 : Int) (h : am_H) : am_run am_ms 54 50 [am_R x0, am_I x1, am_I x2, am_I x3, am_I x4, am_I x5] [am_I y0] h = ((am_gfI h x0 9 3).bind fun f1 => ((am_pf h x0 9 3 (am_I (am_w (f1 + 1)))).bind fun h2 => am_run am_ms 54 24 [am_R x0, am_I x1, am_I x2, am_I x3, am_I y0, am_I (am_w (x5 + 1))] [] h2)) :=
  (am_xs_run am_ms 54 [(.istore 4, 2, []), (.aload_n 0, 1, []), (.dup, 1, []), (.getfield 68, 3, [9, 3, 5186, 0]), (.iconst 1, 1, []), (.iadd, 1, []), (.putfield 68, 3, [9, 3, 5186, 0]), (.iinc 5 1, 3, []), (.goto (-41), 3, [])] 50 _ _ h (by decide +kernel)).trans rfl
set_option maxHeartbeats 4000000 in
theorem bk_54_68 (x0 : Nat) (x1 : Int) (x2 : Int) (x3 : Int) (x4 : Int) (x5 : Int) (h : am_H) : am_run am_ms 54 68 [am_R x0, am_I x1, am_I x2, am_I x3, am_I x4, am_I x5] [] h = ((am_isc h x0 9).bind fun _ => ((am_cI 53 [am_R x0] h).bind fun r1 => (bif decide (r1.1 = 0) then am_run am_ms 54 82 [am_R x0, am_I x1, am_I x2, am_I x3, am_I x4, am_I x5] [] r1.2 else ((am_isc r1.2 x0 9).bind fun _ => ((am_cV 50 [am_R x0] r1.2).bind fun h2 => am_run am_ms 54 109 [am_R x0, am_I x1, am_I x2, am_I x3, am_I x4, am_I x5] [] h2))))) :=
  (am_xs_run am_ms 54 [(.aload_n 0, 1, []), (.invokevirtual 89, 3, [0, 53, 1, 9, 1, 6129, 6131, 45]), (.ifCond .eq 10, 3, []), (.aload_n 0, 1, []), (.invokevirtual 93, 3, [0, 50, 1, 9, 0, 6115, 6117, 43]), (.goto 30, 3, [])] 68 _ _ h (by decide +kernel)).trans rfl
set_option maxHeartbeats 4000000 in
theorem bk_54_82 (x0 : Nat) (x1 : Int) (x2 : Int) (x3 : Int) (x4 : Int) (x5 : Int) (h : am_H) : am_run am_ms 54 82 [am_R x0, am_I x1, am_I x2, am_I x3, am_I x4, am_I x5] [] h = ((am_cI 40 [am_L x4, am_L x1, am_L x2] h).bind fun r1 => (bif decide (¬ r1.1 = 0) then am_run am_ms 54 109 [am_R x0, am_I x1, am_I x2, am_I x3, am_I x4, am_I x5] [] r1.2 else ((am_gfI r1.2 x0 9 3).bind fun f2 => ((am_pf r1.2 x0 9 3 (am_I (am_w (f2 - 1)))).bind fun h3 => am_run am_ms 54 105 [am_R x0, am_I x1, am_I x2, am_I x3, am_I x4, am_I x5] [] h3)))) :=
  (am_xs_run am_ms 54 [(.iload 4, 2, []), (.i2l, 1, []), (.iload_n 1, 1, []), (.i2l, 1, []), (.iload_n 2, 1, []), (.i2l, 1, []), (.invokestatic 96, 3, [1, 40, 3, 0, 1, 6060, 6061]), (.ifCond .ne 17, 3, []), (.aload_n 0, 1, []), (.dup, 1, []), (.getfield 68, 3, [9, 3, 5186, 0]), (.iconst 1, 1, []), (.isub, 1, []), (.putfield 68, 3, [9, 3, 5186, 0])] 82 _ _ h (by decide +kernel)).trans rfl
set_option maxHeartbeats 4000000 in
theorem bk_54_105 (x0 : Nat) (x1 : Int) (x2 : Int) (x3 : Int) (x4 : Int) (x5 : Int) (h : am_H) : am_run am_ms 54 105 [am_R x0, am_I x1, am_I x2, am_I x3, am_I x4, am_I x5] [] h = ((am_isc h x0 9).bind fun _ => ((am_cV 50 [am_R x0] h).bind fun h1 => am_run am_ms 54 109 [am_R x0, am_I x1, am_I x2, am_I x3, am_I x4, am_I x5] [] h1)) :=
  (am_xs_run am_ms 54 [(.aload_n 0, 1, []), (.invokevirtual 93, 3, [0, 50, 1, 9, 0, 6115, 6117, 43])] 105 _ _ h (by decide +kernel)).trans rfl
set_option maxHeartbeats 4000000 in
theorem bk_54_109 (x0 : Nat) (x1 : Int) (x2 : Int) (x3 : Int) (x4 : Int) (x5 : Int) (h : am_H) : am_run am_ms 54 109 [am_R x0, am_I x1, am_I x2, am_I x3, am_I x4, am_I x5] [] h = some (some (am_I x4), h) :=
  (am_xs_run am_ms 54 [(.iload 4, 2, []), (.ireturn, 1, [0])] 109 _ _ h (by decide +kernel)).trans rfl
set_option maxHeartbeats 4000000 in
theorem bk_55_0 (x0 : Nat) (x1 : Int) (h : am_H) : am_run am_ms 55 0 [am_R x0, am_I x1, am_K 1, am_K 1, am_K 1, am_K 1, am_K 1] [] h = (bif decide (x1 = 0) then am_run am_ms 55 9 [am_R x0, am_I x1, am_K 1, am_K 1, am_K 1, am_K 1, am_K 1] [] h else am_run am_ms 55 11 [am_R x0, am_I x1, am_K 1, am_K 1, am_K 1, am_K 1, am_K 1] [am_K 19] h) :=
  (am_xs_run am_ms 55 [(.iload_n 1, 1, []), (.ifCond .eq 8, 3, []), (.ldc 100, 2, [1, 19, 6086]), (.goto 5, 3, [])] 0 _ _ h (by decide +kernel)).trans rfl
theorem en_55 (x0 : Nat) (x1 : Int) (h : am_H) : am_call am_ms 55 [am_R x0, am_I x1] h = am_run am_ms 55 0 [am_R x0, am_I x1, am_K 1, am_K 1, am_K 1, am_K 1, am_K 1] [] h := rfl
set_option maxHeartbeats 4000000 in
theorem bk_55_9 (x0 : Nat) (x1 : Int) (h : am_H) : am_run am_ms 55 9 [am_R x0, am_I x1, am_K 1, am_K 1, am_K 1, am_K 1, am_K 1] [] h = am_run am_ms 55 11 [am_R x0, am_I x1, am_K 1, am_K 1, am_K 1, am_K 1, am_K 1] [am_K 20] h :=
  (am_xs_run am_ms 55 [(.ldc 102, 2, [1, 20, 6087])] 9 _ _ h (by decide +kernel)).trans rfl
set_option maxHeartbeats 4000000 in
theorem bk_55_11 (x0 : Nat) (x1 : Int) (y0 : Nat) (h : am_H) : am_run am_ms 55 11 [am_R x0, am_I x1, am_K 1, am_K 1, am_K 1, am_K 1, am_K 1] [am_K y0] h = (bif !(Nat.beq y0 1) && !(Nat.beq y0 0) then ((am_gfI h x0 9 11).bind fun f1 => (bif Nat.beq y0 1 then none else ((am_isc h x0 9).bind fun _ => ((am_cI 43 [am_R x0] h).bind fun r2 => ((am_cI 48 [am_K y0, am_I r2.1] r2.2).bind fun r3 => am_run am_ms 55 32 [am_R x0, am_I x1, am_K y0, am_I (am_w (2 * (am_w (f1 - 1)))), am_I 0, am_K 1, am_K 1] [am_I r3.1] r3.2))))) else none) :=
  (am_xs_run am_ms 55 [(.astore_n 2, 1, []), (.iconst 2, 1, []), (.aload_n 0, 1, []), (.getfield 104, 3, [9, 11, 5194, 0]), (.iconst 1, 1, []), (.isub, 1, []), (.imul, 1, []), (.istore_n 3, 1, []), (.iconst 0, 1, []), (.istore 4, 2, []), (.aload_n 2, 1, []), (.aload_n 0, 1, []), (.invokevirtual 86, 3, [0, 43, 1, 9, 1, 6074, 6076, 40]), (.invokestatic 107, 3, [1, 48, 2, 0, 1, 6088, 6089])] 11 _ _ h (by decide +kernel)).trans rfl
set_option maxHeartbeats 4000000 in
theorem bk_55_32 (x0 : Nat) (x1 : Int) (x2 : Nat) (x3 : Int) (x4 : Int) (y0 : Int) (h : am_H) : am_run am_ms 55 32 [am_R x0, am_I x1, am_K x2, am_I x3, am_I x4, am_K 1, am_K 1] [am_I y0] h = am_run am_ms 55 34 [am_R x0, am_I x1, am_K x2, am_I x3, am_I x4, am_I y0, am_K 1] [] h :=
  (am_xs_run am_ms 55 [(.istore 5, 2, [])] 32 _ _ h (by decide +kernel)).trans rfl
set_option maxHeartbeats 4000000 in
theorem bk_55_34 (x0 : Nat) (x1 : Int) (x2 : Nat) (x3 : Int) (x4 : Int) (x5 : Int) (x6 : am_V) (h : am_H) : am_run am_ms 55 34 [am_R x0, am_I x1, am_K x2, am_I x3, am_I x4, am_I x5, x6] [] h = (bif decide (x5 = (-1)) then am_run am_ms 55 171 [am_R x0, am_I x1, am_K x2, am_I x3, am_I x4, am_I x5, x6] [] h else ((am_gfI h x0 9 4).bind fun f1 => (bif decide (¬ f1 = (-1)) then am_run am_ms 55 171 [am_R x0, am_I x1, am_K x2, am_I x3, am_I x4, am_I x5, x6] [] h else ((am_cI 49 [am_I x4, am_I x5] h).bind fun r2 => (bif decide (r2.1 = 0) then am_run am_ms 55 63 [am_R x0, am_I x1, am_K x2, am_I x3, am_I x4, am_I x5, x6] [] r2.2 else ((am_isc r2.2 x0 9).bind fun _ => ((am_cV 50 [am_R x0] r2.2).bind fun h3 => some (none, h3)))))))) :=
  (am_xs_run am_ms 55 [(.iload 5, 2, []), (.iconst (-1), 1, []), (.if_icmp .eq 134, 3, []), (.aload_n 0, 1, []), (.getfield 75, 3, [9, 4, 5187, 0]), (.iconst (-1), 1, []), (.if_icmp .ne 126, 3, []), (.iload 4, 2, []), (.iload 5, 2, []), (.invokestatic 111, 3, [1, 49, 2, 0, 1, 6112, 6113]), (.ifCond .eq 8, 3, []), (.aload_n 0, 1, []), (.invokevirtual 93, 3, [0, 50, 1, 9, 0, 6115, 6117, 43]), (.return_, 1, [])] 34 _ _ h (by decide +kernel)).trans rfl
set_option maxHeartbeats 4000000 in
theorem bk_55_63 (x0 : Nat) (x1 : Int) (x2 : Nat) (x3 : Int) (x4 : Int) (x5 : Int) (x6 : am_V) (h : am_H) : am_run am_ms 55 63 [am_R x0, am_I x1, am_K x2, am_I x3, am_I x4, am_I x5, x6] [] h = ((am_gfI h x0 9 3).bind fun f1 => ((am_pf h x0 9 3 (am_I (am_w (f1 + 1)))).bind fun h2 => (bif decide (x1 = 0) then am_run am_ms 55 103 [am_R x0, am_I x1, am_K x2, am_I x3, am_I (am_or x4 (am_shl 1 x5)), am_I x5, x6] [] h2 else am_run am_ms 55 86 [am_R x0, am_I x1, am_K x2, am_I x3, am_I (am_or x4 (am_shl 1 x5)), am_I x5, x6] [] h2))) :=
  (am_xs_run am_ms 55 [(.iload 4, 2, []), (.iconst 1, 1, []), (.iload 5, 2, []), (.ishl, 1, []), (.ior, 1, []), (.istore 4, 2, []), (.aload_n 0, 1, []), (.dup, 1, []), (.getfield 68, 3, [9, 3, 5186, 0]), (.iconst 1, 1, []), (.iadd, 1, []), (.putfield 68, 3, [9, 3, 5186, 0]), (.iload_n 1, 1, []), (.ifCond .eq 20, 3, [])] 63 _ _ h (by decide +kernel)).trans rfl
set_option maxHeartbeats 4000000 in
theorem bk_55_86 (x0 : Nat) (x1 : Int) (x2 : Nat) (x3 : Int) (x4 : Int) (x5 : Int) (x6 : am_V) (h : am_H) : am_run am_ms 55 86 [am_R x0, am_I x1, am_K x2, am_I x3, am_I x4, am_I x5, x6] [] h = ((am_cI 51 [am_I x5] h).bind fun r1 => ((am_cI 52 [am_I x5] r1.2).bind fun r2 => ((am_isc r2.2 x0 9).bind fun _ => ((am_cI 54 [am_R x0, am_I r1.1, am_I r2.1] r2.2).bind fun r3 => am_run am_ms 55 121 [am_R x0, am_I x1, am_K x2, am_I x3, am_I x4, am_I x5, x6] [am_I r3.1] r3.2)))) :=
  (am_xs_run am_ms 55 [(.aload_n 0, 1, []), (.iload 5, 2, []), (.invokestatic 115, 3, [1, 51, 1, 0, 1, 6119, 6120]), (.iload 5, 2, []), (.invokestatic 118, 3, [1, 52, 1, 0, 1, 6122, 6123]), (.invokevirtual 121, 3, [0, 54, 3, 9, 1, 6125, 6127, 44]), (.goto 21, 3, [])] 86 _ _ h (by decide +kernel)).trans rfl
set_option maxHeartbeats 4000000 in
theorem bk_55_103 (x0 : Nat) (x1 : Int) (x2 : Nat) (x3 : Int) (x4 : Int) (x5 : Int) (x6 : am_V) (h : am_H) : am_run am_ms 55 103 [am_R x0, am_I x1, am_K x2, am_I x3, am_I x4, am_I x5, x6] [] h = (bif decide (¬ x5 = 0) then am_run am_ms 55 115 [am_R x0, am_I x1, am_K x2, am_I x3, am_I x4, am_I x5, x6] [am_I 0, am_R x0] h else am_run am_ms 55 118 [am_R x0, am_I x1, am_K x2, am_I x3, am_I x4, am_I x5, x6] [am_I 31, am_I 0, am_R x0] h) :=
  (am_xs_run am_ms 55 [(.aload_n 0, 1, []), (.iconst 0, 1, []), (.iload 5, 2, []), (.ifCond .ne 8, 3, []), (.bipush 31, 2, []), (.goto 6, 3, [])] 103 _ _ h (by decide +kernel)).trans rfl
set_option maxHeartbeats 4000000 in
theorem bk_55_115 (x0 : Nat) (x1 : Int) (x2 : Nat) (x3 : Int) (x4 : Int) (x5 : Int) (x6 : am_V) (y0 : Int) (y1 : Nat) (h : am_H) : am_run am_ms 55 115 [am_R x0, am_I x1, am_K x2, am_I x3, am_I x4, am_I x5, x6] [am_I y0, am_R y1] h = am_run am_ms 55 118 [am_R x0, am_I x1, am_K x2, am_I x3, am_I x4, am_I x5, x6] [am_I 999, am_I y0, am_R y1] h :=
  (am_xs_run am_ms 55 [(.sipush 999, 3, [])] 115 _ _ h (by decide +kernel)).trans rfl
set_option maxHeartbeats 4000000 in
theorem bk_55_118 (x0 : Nat) (x1 : Int) (x2 : Nat) (x3 : Int) (x4 : Int) (x5 : Int) (x6 : am_V) (y0 : Int) (y1 : Int) (y2 : Nat) (h : am_H) : am_run am_ms 55 118 [am_R x0, am_I x1, am_K x2, am_I x3, am_I x4, am_I x5, x6] [am_I y0, am_I y1, am_R y2] h = ((am_isc h y2 9).bind fun _ => ((am_cI 54 [am_R y2, am_I y1, am_I y0] h).bind fun r1 => am_run am_ms 55 121 [am_R x0, am_I x1, am_K x2, am_I x3, am_I x4, am_I x5, x6] [am_I r1.1] r1.2)) :=
  (am_xs_run am_ms 55 [(.invokevirtual 121, 3, [0, 54, 3, 9, 1, 6125, 6127, 44])] 118 _ _ h (by decide +kernel)).trans rfl
set_option maxHeartbeats 4000000 in
theorem bk_55_121 (x0 : Nat) (x1 : Int) (x2 : Nat) (x3 : Int) (x4 : Int) (x5 : Int) (x6 : am_V) (y0 : Int) (h : am_H) : am_run am_ms 55 121 [am_R x0, am_I x1, am_K x2, am_I x3, am_I x4, am_I x5, x6] [am_I y0] h = (bif decide (x1 = 0) then am_run am_ms 55 139 [am_R x0, am_I x1, am_K x2, am_I x3, am_I x4, am_I x5, am_I y0] [] h else ((am_gfR h x0 9 5).bind fun f1 => ((am_wr h f1 0 x5 y0).bind fun h2 => am_run am_ms 55 150 [am_R x0, am_I x1, am_K x2, am_I x3, am_I x4, am_I x5, am_I y0] [] h2))) :=
  (am_xs_run am_ms 55 [(.istore 6, 2, []), (.iload_n 1, 1, []), (.ifCond .eq 15, 3, []), (.aload_n 0, 1, []), (.getfield 13, 3, [9, 5, 5188, 3]), (.iload 5, 2, []), (.iload 6, 2, []), (.iastore, 1, []), (.goto 14, 3, [])] 121 _ _ h (by decide +kernel)).trans rfl
set_option maxHeartbeats 4000000 in
theorem bk_55_139 (x0 : Nat) (x1 : Int) (x2 : Nat) (x3 : Int) (x4 : Int) (x5 : Int) (x6 : Int) (h : am_H) : am_run am_ms 55 139 [am_R x0, am_I x1, am_K x2, am_I x3, am_I x4, am_I x5, am_I x6] [] h = ((am_gfR h x0 9 7).bind fun f1 => ((am_wr h f1 0 (am_w (x3 + x5)) x6).bind fun h2 => am_run am_ms 55 150 [am_R x0, am_I x1, am_K x2, am_I x3, am_I x4, am_I x5, am_I x6] [] h2)) :=
  (am_xs_run am_ms 55 [(.aload_n 0, 1, []), (.getfield 20, 3, [9, 7, 5190, 3]), (.iload_n 3, 1, []), (.iload 5, 2, []), (.iadd, 1, []), (.iload 6, 2, []), (.iastore, 1, [])] 139 _ _ h (by decide +kernel)).trans rfl
set_option maxHeartbeats 4000000 in
theorem bk_55_150 (x0 : Nat) (x1 : Int) (x2 : Nat) (x3 : Int) (x4 : Int) (x5 : Int) (x6 : Int) (h : am_H) : am_run am_ms 55 150 [am_R x0, am_I x1, am_K x2, am_I x3, am_I x4, am_I x5, am_I x6] [] h = ((am_gfI h x0 9 4).bind fun f1 => (bif decide (¬ f1 = (-1)) then am_run am_ms 55 168 [am_R x0, am_I x1, am_K x2, am_I x3, am_I x4, am_I x5, am_I x6] [] h else (bif Nat.beq x2 1 then none else ((am_isc h x0 9).bind fun _ => ((am_cI 43 [am_R x0] h).bind fun r2 => ((am_cI 48 [am_K x2, am_I r2.1] r2.2).bind fun r3 => am_run am_ms 55 168 [am_R x0, am_I x1, am_K x2, am_I x3, am_I x4, am_I r3.1, am_I x6] [] r3.2)))))) :=
  (am_xs_run am_ms 55 [(.aload_n 0, 1, []), (.getfield 75, 3, [9, 4, 5187, 0]), (.iconst (-1), 1, []), (.if_icmp .ne 13, 3, []), (.aload_n 2, 1, []), (.aload_n 0, 1, []), (.invokevirtual 86, 3, [0, 43, 1, 9, 1, 6074, 6076, 40]), (.invokestatic 107, 3, [1, 48, 2, 0, 1, 6088, 6089]), (.istore 5, 2, [])] 150 _ _ h (by decide +kernel)).trans rfl
set_option maxHeartbeats 4000000 in
theorem bk_55_168 (x0 : Nat) (x1 : Int) (x2 : Nat) (x3 : Int) (x4 : Int) (x5 : Int) (x6 : Int) (h : am_H) : am_run am_ms 55 168 [am_R x0, am_I x1, am_K x2, am_I x3, am_I x4, am_I x5, am_I x6] [] h = am_run am_ms 55 34 [am_R x0, am_I x1, am_K x2, am_I x3, am_I x4, am_I x5, am_I x6] [] h :=
  (am_xs_run am_ms 55 [(.goto (-134), 3, [])] 168 _ _ h (by decide +kernel)).trans rfl
set_option maxHeartbeats 4000000 in
theorem bk_55_171 (x0 : Nat) (x1 : Int) (x2 : Nat) (x3 : Int) (x4 : Int) (x5 : Int) (x6 : am_V) (h : am_H) : am_run am_ms 55 171 [am_R x0, am_I x1, am_K x2, am_I x3, am_I x4, am_I x5, x6] [] h = some (none, h) :=
  (am_xs_run am_ms 55 [(.return_, 1, [])] 171 _ _ h (by decide +kernel)).trans rfl
set_option maxHeartbeats 4000000 in
theorem bk_56_0 (x0 : Nat) (h : am_H) : am_run am_ms 56 0 [am_R x0, am_K 1] [] h = ((am_isc h x0 9).bind fun _ => ((am_cI 43 [am_R x0] h).bind fun r1 => (bif decide (¬ r1.1 = 115) then am_run am_ms 56 41 [am_R x0, am_I r1.1] [] r1.2 else ((am_gfI r1.2 x0 9 13).bind fun f2 => (bif decide (¬ f2 = 0) then am_run am_ms 56 41 [am_R x0, am_I r1.1] [] r1.2 else ((am_pf r1.2 x0 9 13 (am_I 1)).bind fun h3 => am_run am_ms 56 25 [am_R x0, am_I r1.1] [am_R x0, am_R x0] h3)))))) :=
  (am_xs_run am_ms 56 [(.aload_n 0, 1, []), (.invokevirtual 86, 3, [0, 43, 1, 9, 1, 6074, 6076, 40]), (.istore_n 1, 1, []), (.iload_n 1, 1, []), (.bipush 115, 2, []), (.if_icmp .ne 33, 3, []), (.aload_n 0, 1, []), (.getfield 125, 3, [9, 13, 5196, 1]), (.ifCond .ne 26, 3, []), (.aload_n 0, 1, []), (.iconst 1, 1, []), (.putfield 125, 3, [9, 13, 5196, 1]), (.aload_n 0, 1, []), (.dup, 1, [])] 0 _ _ h (by decide +kernel)).trans rfl
theorem en_56 (x0 : Nat) (h : am_H) : am_call am_ms 56 [am_R x0] h = am_run am_ms 56 0 [am_R x0, am_K 1] [] h := rfl
set_option maxHeartbeats 4000000 in
theorem bk_56_25 (x0 : Nat) (x1 : Int) (y0 : Nat) (y1 : Nat) (h : am_H) : am_run am_ms 56 25 [am_R x0, am_I x1] [am_R y0, am_R y1] h = ((am_gfI h y0 9 3).bind fun f1 => ((am_pf h y1 9 3 (am_I (am_w (f1 + 1)))).bind fun h2 => ((am_isc h2 x0 9).bind fun _ => ((am_cV 55 [am_R x0, am_I 1] h2).bind fun h3 => am_run am_ms 56 114 [am_R x0, am_I x1] [] h3)))) :=
  (am_xs_run am_ms 56 [(.getfield 68, 3, [9, 3, 5186, 0]), (.iconst 1, 1, []), (.iadd, 1, []), (.putfield 68, 3, [9, 3, 5186, 0]), (.aload_n 0, 1, []), (.iconst 1, 1, []), (.invokevirtual 129, 3, [0, 55, 2, 9, 0, 6082, 6084, 42]), (.goto 76, 3, [])] 25 _ _ h (by decide +kernel)).trans rfl
set_option maxHeartbeats 4000000 in
theorem bk_56_41 (x0 : Nat) (x1 : Int) (h : am_H) : am_run am_ms 56 41 [am_R x0, am_I x1] [] h = (bif decide (¬ x1 = 119) then am_run am_ms 56 110 [am_R x0, am_I x1] [] h else ((am_gfI h x0 9 11).bind fun f1 => (bif decide (24 ≤ f1) then am_run am_ms 56 110 [am_R x0, am_I x1] [] h else ((am_gfR h x0 9 7).bind fun f2 => ((am_gfI h x0 9 11).bind fun f3 => am_run am_ms 56 67 [am_R x0, am_I x1] [am_I 0, am_I (am_w (2 * f3)), am_R f2] h))))) :=
  (am_xs_run am_ms 56 [(.iload_n 1, 1, []), (.bipush 119, 2, []), (.if_icmp .ne 66, 3, []), (.aload_n 0, 1, []), (.getfield 104, 3, [9, 11, 5194, 0]), (.bipush 24, 2, []), (.if_icmp .ge 57, 3, []), (.aload_n 0, 1, []), (.getfield 20, 3, [9, 7, 5190, 3]), (.iconst 2, 1, []), (.aload_n 0, 1, []), (.getfield 104, 3, [9, 11, 5194, 0]), (.imul, 1, []), (.iconst 0, 1, [])] 41 _ _ h (by decide +kernel)).trans rfl
set_option maxHeartbeats 4000000 in
theorem bk_56_67 (x0 : Nat) (x1 : Int) (y0 : Int) (y1 : Int) (y2 : Nat) (h : am_H) : am_run am_ms 56 67 [am_R x0, am_I x1] [am_I y0, am_I y1, am_R y2] h = ((am_wr h y2 0 y1 y0).bind fun h1 => ((am_gfR h1 x0 9 7).bind fun f2 => ((am_gfI h1 x0 9 11).bind fun f3 => ((am_wr h1 f2 0 (am_w ((am_w (2 * f3)) + 1)) 0).bind fun h4 => ((am_gfI h4 x0 9 11).bind fun f5 => am_run am_ms 56 87 [am_R x0, am_I x1] [am_I f5, am_R x0] h4))))) :=
  (am_xs_run am_ms 56 [(.iastore, 1, []), (.aload_n 0, 1, []), (.getfield 20, 3, [9, 7, 5190, 3]), (.iconst 2, 1, []), (.aload_n 0, 1, []), (.getfield 104, 3, [9, 11, 5194, 0]), (.imul, 1, []), (.iconst 1, 1, []), (.iadd, 1, []), (.iconst 0, 1, []), (.iastore, 1, []), (.aload_n 0, 1, []), (.dup, 1, []), (.getfield 104, 3, [9, 11, 5194, 0])] 67 _ _ h (by decide +kernel)).trans rfl
set_option maxHeartbeats 4000000 in
theorem bk_56_87 (x0 : Nat) (x1 : Int) (y0 : Int) (y1 : Nat) (h : am_H) : am_run am_ms 56 87 [am_R x0, am_I x1] [am_I y0, am_R y1] h = ((am_pf h y1 9 11 (am_I (am_w (y0 + 1)))).bind fun h1 => ((am_gfI h1 x0 9 3).bind fun f2 => ((am_pf h1 x0 9 3 (am_I (am_w (f2 + 1)))).bind fun h3 => ((am_isc h3 x0 9).bind fun _ => ((am_cV 55 [am_R x0, am_I 0] h3).bind fun h4 => am_run am_ms 56 114 [am_R x0, am_I x1] [] h4))))) :=
  (am_xs_run am_ms 56 [(.iconst 1, 1, []), (.iadd, 1, []), (.putfield 104, 3, [9, 11, 5194, 0]), (.aload_n 0, 1, []), (.dup, 1, []), (.getfield 68, 3, [9, 3, 5186, 0]), (.iconst 1, 1, []), (.iadd, 1, []), (.putfield 68, 3, [9, 3, 5186, 0]), (.aload_n 0, 1, []), (.iconst 0, 1, []), (.invokevirtual 129, 3, [0, 55, 2, 9, 0, 6082, 6084, 42]), (.goto 7, 3, [])] 87 _ _ h (by decide +kernel)).trans rfl
set_option maxHeartbeats 4000000 in
theorem bk_56_110 (x0 : Nat) (x1 : Int) (h : am_H) : am_run am_ms 56 110 [am_R x0, am_I x1] [] h = ((am_isc h x0 9).bind fun _ => ((am_cV 50 [am_R x0] h).bind fun h1 => am_run am_ms 56 114 [am_R x0, am_I x1] [] h1)) :=
  (am_xs_run am_ms 56 [(.aload_n 0, 1, []), (.invokevirtual 93, 3, [0, 50, 1, 9, 0, 6115, 6117, 43])] 110 _ _ h (by decide +kernel)).trans rfl
set_option maxHeartbeats 4000000 in
theorem bk_56_114 (x0 : Nat) (x1 : Int) (h : am_H) : am_run am_ms 56 114 [am_R x0, am_I x1] [] h = some (none, h) :=
  (am_xs_run am_ms 56 [(.return_, 1, [])] 114 _ _ h (by decide +kernel)).trans rfl
set_option maxHeartbeats 4000000 in
theorem bk_57_0 (x0 : Nat) (h : am_H) : am_run am_ms 57 0 [am_R x0, am_K 1] [] h = am_run am_ms 57 2 [am_R x0, am_I 0] [] h :=
  (am_xs_run am_ms 57 [(.iconst 0, 1, []), (.istore_n 1, 1, [])] 0 _ _ h (by decide +kernel)).trans rfl
theorem en_57 (x0 : Nat) (h : am_H) : am_call am_ms 57 [am_R x0] h = am_run am_ms 57 0 [am_R x0, am_K 1] [] h := rfl
set_option maxHeartbeats 4000000 in
theorem bk_57_2 (x0 : Nat) (x1 : Int) (h : am_H) : am_run am_ms 57 2 [am_R x0, am_I x1] [] h = (bif decide (7 ≤ x1) then am_run am_ms 57 24 [am_R x0, am_I x1] [] h else ((am_gfR h x0 9 5).bind fun f1 => ((am_cI 41 [am_I x1] h).bind fun r2 => ((am_wr r2.2 f1 0 x1 r2.1).bind fun h3 => am_run am_ms 57 2 [am_R x0, am_I (am_w (x1 + 1))] [] h3)))) :=
  (am_xs_run am_ms 57 [(.iload_n 1, 1, []), (.bipush 7, 2, []), (.if_icmp .ge 19, 3, []), (.aload_n 0, 1, []), (.getfield 13, 3, [9, 5, 5188, 3]), (.iload_n 1, 1, []), (.iload_n 1, 1, []), (.invokestatic 133, 3, [1, 41, 1, 0, 1, 6067, 6068]), (.iastore, 1, []), (.iinc 1 1, 3, []), (.goto (-19), 3, [])] 2 _ _ h (by decide +kernel)).trans rfl
set_option maxHeartbeats 4000000 in
theorem bk_57_24 (x0 : Nat) (x1 : Int) (h : am_H) : am_run am_ms 57 24 [am_R x0, am_I x1] [] h = ((am_pf h x0 9 11 (am_I 0)).bind fun h1 => ((am_pf h1 x0 9 13 (am_I 0)).bind fun h2 => am_run am_ms 57 36 [am_R x0, am_I 1] [] h2)) :=
  (am_xs_run am_ms 57 [(.aload_n 0, 1, []), (.iconst 0, 1, []), (.putfield 104, 3, [9, 11, 5194, 0]), (.aload_n 0, 1, []), (.iconst 0, 1, []), (.putfield 125, 3, [9, 13, 5196, 1]), (.iconst 1, 1, []), (.istore_n 1, 1, [])] 24 _ _ h (by decide +kernel)).trans rfl
set_option maxHeartbeats 4000000 in
theorem bk_57_36 (x0 : Nat) (x1 : Int) (h : am_H) : am_run am_ms 57 36 [am_R x0, am_I x1] [] h = (bif decide (x1 = 0) then am_run am_ms 57 92 [am_R x0, am_I x1] [] h else ((am_gfI h x0 9 4).bind fun f1 => (bif decide (¬ f1 = (-1)) then am_run am_ms 57 92 [am_R x0, am_I x1] [] h else ((am_isc h x0 9).bind fun _ => ((am_cV 56 [am_R x0] h).bind fun h2 => ((am_gfI h2 x0 9 4).bind fun f3 => (bif decide (¬ f3 = (-1)) then am_run am_ms 57 73 [am_R x0, am_I x1] [] h2 else ((am_isc h2 x0 9).bind fun _ => ((am_cI 43 [am_R x0] h2).bind fun r4 => am_run am_ms 57 64 [am_R x0, am_I x1] [am_I r4.1] r4.2))))))))) :=
  (am_xs_run am_ms 57 [(.iload_n 1, 1, []), (.ifCond .eq 55, 3, []), (.aload_n 0, 1, []), (.getfield 75, 3, [9, 4, 5187, 0]), (.iconst (-1), 1, []), (.if_icmp .ne 47, 3, []), (.aload_n 0, 1, []), (.invokevirtual 136, 3, [0, 56, 1, 9, 0, 6070, 6072, 39]), (.aload_n 0, 1, []), (.getfield 75, 3, [9, 4, 5187, 0]), (.iconst (-1), 1, []), (.if_icmp .ne 16, 3, []), (.aload_n 0, 1, []), (.invokevirtual 86, 3, [0, 43, 1, 9, 1, 6074, 6076, 40])] 36 _ _ h (by decide +kernel)).trans rfl
set_option maxHeartbeats 4000000 in
theorem bk_57_64 (x0 : Nat) (x1 : Int) (y0 : Int) (h : am_H) : am_run am_ms 57 64 [am_R x0, am_I x1] [am_I y0] h = (bif decide (¬ y0 = 59) then am_run am_ms 57 73 [am_R x0, am_I x1] [] h else am_run am_ms 57 74 [am_R x0, am_I x1] [am_I 1] h) :=
  (am_xs_run am_ms 57 [(.bipush 59, 2, []), (.if_icmp .ne 7, 3, []), (.iconst 1, 1, []), (.goto 4, 3, [])] 64 _ _ h (by decide +kernel)).trans rfl
set_option maxHeartbeats 4000000 in
theorem bk_57_73 (x0 : Nat) (x1 : Int) (h : am_H) : am_run am_ms 57 73 [am_R x0, am_I x1] [] h = am_run am_ms 57 74 [am_R x0, am_I x1] [am_I 0] h :=
  (am_xs_run am_ms 57 [(.iconst 0, 1, [])] 73 _ _ h (by decide +kernel)).trans rfl
set_option maxHeartbeats 4000000 in
theorem bk_57_74 (x0 : Nat) (x1 : Int) (y0 : Int) (h : am_H) : am_run am_ms 57 74 [am_R x0, am_I x1] [am_I y0] h = (bif decide (y0 = 0) then am_run am_ms 57 36 [am_R x0, am_I y0] [] h else ((am_gfI h x0 9 3).bind fun f1 => ((am_pf h x0 9 3 (am_I (am_w (f1 + 1)))).bind fun h2 => am_run am_ms 57 36 [am_R x0, am_I y0] [] h2))) :=
  (am_xs_run am_ms 57 [(.istore_n 1, 1, []), (.iload_n 1, 1, []), (.ifCond .eq (-40), 3, []), (.aload_n 0, 1, []), (.dup, 1, []), (.getfield 68, 3, [9, 3, 5186, 0]), (.iconst 1, 1, []), (.iadd, 1, []), (.putfield 68, 3, [9, 3, 5186, 0]), (.goto (-53), 3, [])] 74 _ _ h (by decide +kernel)).trans rfl
set_option maxHeartbeats 4000000 in
theorem bk_57_92 (x0 : Nat) (x1 : Int) (h : am_H) : am_run am_ms 57 92 [am_R x0, am_I x1] [] h = ((am_gfI h x0 9 4).bind fun f1 => (bif decide (¬ f1 = (-1)) then am_run am_ms 57 112 [am_R x0, am_I x1] [] h else ((am_isc h x0 9).bind fun _ => ((am_cI 43 [am_R x0] h).bind fun r2 => (bif decide (r2.1 = (-1)) then am_run am_ms 57 112 [am_R x0, am_I x1] [] r2.2 else ((am_isc r2.2 x0 9).bind fun _ => ((am_cV 50 [am_R x0] r2.2).bind fun h3 => am_run am_ms 57 112 [am_R x0, am_I x1] [] h3))))))) :=
  (am_xs_run am_ms 57 [(.aload_n 0, 1, []), (.getfield 75, 3, [9, 4, 5187, 0]), (.iconst (-1), 1, []), (.if_icmp .ne 15, 3, []), (.aload_n 0, 1, []), (.invokevirtual 86, 3, [0, 43, 1, 9, 1, 6074, 6076, 40]), (.iconst (-1), 1, []), (.if_icmp .eq 7, 3, []), (.aload_n 0, 1, []), (.invokevirtual 93, 3, [0, 50, 1, 9, 0, 6115, 6117, 43])] 92 _ _ h (by decide +kernel)).trans rfl
set_option maxHeartbeats 4000000 in
theorem bk_57_112 (x0 : Nat) (x1 : Int) (h : am_H) : am_run am_ms 57 112 [am_R x0, am_I x1] [] h = some (none, h) :=
  (am_xs_run am_ms 57 [(.return_, 1, [])] 112 _ _ h (by decide +kernel)).trans rfl
set_option maxHeartbeats 4000000 in
theorem bk_58_0 (x0 : Nat) (x1 : Int) (h : am_H) : am_run am_ms 58 0 [am_R x0, am_I x1, am_K 1, am_K 1] [] h = ((am_isc h x0 9).bind fun _ => ((am_cI 43 [am_R x0] h).bind fun r1 => ((am_cI 48 [am_K 21, am_I r1.1] r1.2).bind fun r2 => ((am_gfR r2.2 x0 9 8).bind fun f3 => ((am_wr r2.2 f3 0 (am_w (x1 + 1)) (-1)).bind fun h4 => ((am_gfR h4 x0 9 8).bind fun f5 => am_run am_ms 58 23 [am_R x0, am_I x1, am_I r2.1, am_K 1] [am_R f5] h4)))))) :=
  (am_xs_run am_ms 58 [(.ldc 139, 2, [1, 21, 6141]), (.aload_n 0, 1, []), (.invokevirtual 86, 3, [0, 43, 1, 9, 1, 6074, 6076, 40]), (.invokestatic 107, 3, [1, 48, 2, 0, 1, 6088, 6089]), (.istore_n 2, 1, []), (.aload_n 0, 1, []), (.getfield 23, 3, [9, 8, 5191, 3]), (.iload_n 1, 1, []), (.iconst 1, 1, []), (.iadd, 1, []), (.iconst (-1), 1, []), (.iastore, 1, []), (.aload_n 0, 1, []), (.getfield 23, 3, [9, 8, 5191, 3])] 0 _ _ h (by decide +kernel)).trans rfl
theorem en_58 (x0 : Nat) (x1 : Int) (h : am_H) : am_call am_ms 58 [am_R x0, am_I x1] h = am_run am_ms 58 0 [am_R x0, am_I x1, am_K 1, am_K 1] [] h := rfl
set_option maxHeartbeats 4000000 in
theorem bk_58_23 (x0 : Nat) (x1 : Int) (x2 : Int) (y0 : Nat) (h : am_H) : am_run am_ms 58 23 [am_R x0, am_I x1, am_I x2, am_K 1] [am_R y0] h = ((am_wr h y0 0 (am_w (x1 + 2)) (-1)).bind fun h1 => (bif decide (¬ x2 = (-1)) then am_run am_ms 58 38 [am_R x0, am_I x1, am_I x2, am_K 1] [] h1 else ((am_isc h1 x0 9).bind fun _ => ((am_cV 50 [am_R x0] h1).bind fun h2 => some (none, h2))))) :=
  (am_xs_run am_ms 58 [(.iload_n 1, 1, []), (.iconst 2, 1, []), (.iadd, 1, []), (.iconst (-1), 1, []), (.iastore, 1, []), (.iload_n 2, 1, []), (.iconst (-1), 1, []), (.if_icmp .ne 8, 3, []), (.aload_n 0, 1, []), (.invokevirtual 93, 3, [0, 50, 1, 9, 0, 6115, 6117, 43]), (.return_, 1, [])] 23 _ _ h (by decide +kernel)).trans rfl
set_option maxHeartbeats 4000000 in
theorem bk_58_38 (x0 : Nat) (x1 : Int) (x2 : Int) (h : am_H) : am_run am_ms 58 38 [am_R x0, am_I x1, am_I x2, am_K 1] [] h = ((am_gfI h x0 9 3).bind fun f1 => ((am_pf h x0 9 3 (am_I (am_w (f1 + 1)))).bind fun h2 => ((am_gfR h2 x0 9 8).bind fun f3 => ((am_wr h2 f3 0 x1 x2).bind fun h4 => (bif decide (x2 = 2) then am_run am_ms 58 65 [am_R x0, am_I x1, am_I x2, am_K 1] [] h4 else am_run am_ms 58 60 [am_R x0, am_I x1, am_I x2, am_K 1] [] h4))))) :=
  (am_xs_run am_ms 58 [(.aload_n 0, 1, []), (.dup, 1, []), (.getfield 68, 3, [9, 3, 5186, 0]), (.iconst 1, 1, []), (.iadd, 1, []), (.putfield 68, 3, [9, 3, 5186, 0]), (.aload_n 0, 1, []), (.getfield 23, 3, [9, 8, 5191, 3]), (.iload_n 1, 1, []), (.iload_n 2, 1, []), (.iastore, 1, []), (.iload_n 2, 1, []), (.iconst 2, 1, []), (.if_icmp .eq 8, 3, [])] 38 _ _ h (by decide +kernel)).trans rfl
set_option maxHeartbeats 4000000 in
theorem bk_58_60 (x0 : Nat) (x1 : Int) (x2 : Int) (h : am_H) : am_run am_ms 58 60 [am_R x0, am_I x1, am_I x2, am_K 1] [] h = (bif decide (¬ x2 = 3) then am_run am_ms 58 66 [am_R x0, am_I x1, am_I x2, am_K 1] [] h else am_run am_ms 58 65 [am_R x0, am_I x1, am_I x2, am_K 1] [] h) :=
  (am_xs_run am_ms 58 [(.iload_n 2, 1, []), (.iconst 3, 1, []), (.if_icmp .ne 4, 3, [])] 60 _ _ h (by decide +kernel)).trans rfl
set_option maxHeartbeats 4000000 in
theorem bk_58_65 (x0 : Nat) (x1 : Int) (x2 : Int) (h : am_H) : am_run am_ms 58 65 [am_R x0, am_I x1, am_I x2, am_K 1] [] h = some (none, h) :=
  (am_xs_run am_ms 58 [(.return_, 1, [])] 65 _ _ h (by decide +kernel)).trans rfl
set_option maxHeartbeats 4000000 in
theorem bk_58_66 (x0 : Nat) (x1 : Int) (x2 : Int) (h : am_H) : am_run am_ms 58 66 [am_R x0, am_I x1, am_I x2, am_K 1] [] h = (bif decide (2 ≤ x2) then am_run am_ms 58 141 [am_R x0, am_I x1, am_I x2, am_K 1] [] h else ((am_gfR h x0 9 8).bind fun f1 => ((am_isc h x0 9).bind fun _ => ((am_cI 54 [am_R x0, am_I 0, am_I 31] h).bind fun r2 => ((am_wr r2.2 f1 0 (am_w (x1 + 1)) r2.1).bind fun h3 => am_run am_ms 58 87 [am_R x0, am_I x1, am_I x2, am_K 1] [am_R x0] h3))))) :=
  (am_xs_run am_ms 58 [(.iload_n 2, 1, []), (.iconst 2, 1, []), (.if_icmp .ge 73, 3, []), (.aload_n 0, 1, []), (.getfield 23, 3, [9, 8, 5191, 3]), (.iload_n 1, 1, []), (.iconst 1, 1, []), (.iadd, 1, []), (.aload_n 0, 1, []), (.iconst 0, 1, []), (.bipush 31, 2, []), (.invokevirtual 121, 3, [0, 54, 3, 9, 1, 6125, 6127, 44]), (.iastore, 1, []), (.aload_n 0, 1, [])] 66 _ _ h (by decide +kernel)).trans rfl
set_option maxHeartbeats 4000000 in
theorem bk_58_87 (x0 : Nat) (x1 : Int) (x2 : Int) (y0 : Nat) (h : am_H) : am_run am_ms 58 87 [am_R x0, am_I x1, am_I x2, am_K 1] [am_R y0] h = ((am_gfI h y0 9 4).bind fun f1 => (bif decide (¬ f1 = (-1)) then am_run am_ms 58 99 [am_R x0, am_I x1, am_I x2, am_K 1] [] h else (bif decide (¬ x2 = 1) then am_run am_ms 58 100 [am_R x0, am_I x1, am_I x2, am_K 1] [] h else am_run am_ms 58 99 [am_R x0, am_I x1, am_I x2, am_K 1] [] h))) :=
  (am_xs_run am_ms 58 [(.getfield 75, 3, [9, 4, 5187, 0]), (.iconst (-1), 1, []), (.if_icmp .ne 8, 3, []), (.iload_n 2, 1, []), (.iconst 1, 1, []), (.if_icmp .ne 4, 3, [])] 87 _ _ h (by decide +kernel)).trans rfl
set_option maxHeartbeats 4000000 in
theorem bk_58_99 (x0 : Nat) (x1 : Int) (x2 : Int) (h : am_H) : am_run am_ms 58 99 [am_R x0, am_I x1, am_I x2, am_K 1] [] h = some (none, h) :=
  (am_xs_run am_ms 58 [(.return_, 1, [])] 99 _ _ h (by decide +kernel)).trans rfl
set_option maxHeartbeats 4000000 in
theorem bk_58_100 (x0 : Nat) (x1 : Int) (x2 : Int) (h : am_H) : am_run am_ms 58 100 [am_R x0, am_I x1, am_I x2, am_K 1] [] h = ((am_isc h x0 9).bind fun _ => ((am_cI 43 [am_R x0] h).bind fun r1 => (bif decide (r1.1 = 61) then am_run am_ms 58 114 [am_R x0, am_I x1, am_I x2, am_K 1] [] r1.2 else ((am_isc r1.2 x0 9).bind fun _ => ((am_cV 50 [am_R x0] r1.2).bind fun h2 => some (none, h2)))))) :=
  (am_xs_run am_ms 58 [(.aload_n 0, 1, []), (.invokevirtual 86, 3, [0, 43, 1, 9, 1, 6074, 6076, 40]), (.bipush 61, 2, []), (.if_icmp .eq 8, 3, []), (.aload_n 0, 1, []), (.invokevirtual 93, 3, [0, 50, 1, 9, 0, 6115, 6117, 43]), (.return_, 1, [])] 100 _ _ h (by decide +kernel)).trans rfl
set_option maxHeartbeats 4000000 in
theorem bk_58_114 (x0 : Nat) (x1 : Int) (x2 : Int) (h : am_H) : am_run am_ms 58 114 [am_R x0, am_I x1, am_I x2, am_K 1] [] h = ((am_gfI h x0 9 3).bind fun f1 => ((am_pf h x0 9 3 (am_I (am_w (f1 + 1)))).bind fun h2 => ((am_gfR h2 x0 9 8).bind fun f3 => am_run am_ms 58 136 [am_R x0, am_I x1, am_I x2, am_K 1] [am_I 999, am_I 0, am_R x0, am_I (am_w (x1 + 2)), am_R f3] h2))) :=
  (am_xs_run am_ms 58 [(.aload_n 0, 1, []), (.dup, 1, []), (.getfield 68, 3, [9, 3, 5186, 0]), (.iconst 1, 1, []), (.iadd, 1, []), (.putfield 68, 3, [9, 3, 5186, 0]), (.aload_n 0, 1, []), (.getfield 23, 3, [9, 8, 5191, 3]), (.iload_n 1, 1, []), (.iconst 2, 1, []), (.iadd, 1, []), (.aload_n 0, 1, []), (.iconst 0, 1, []), (.sipush 999, 3, [])] 114 _ _ h (by decide +kernel)).trans rfl
set_option maxHeartbeats 4000000 in
theorem bk_58_136 (x0 : Nat) (x1 : Int) (x2 : Int) (y0 : Int) (y1 : Int) (y2 : Nat) (y3 : Int) (y4 : Nat) (h : am_H) : am_run am_ms 58 136 [am_R x0, am_I x1, am_I x2, am_K 1] [am_I y0, am_I y1, am_R y2, am_I y3, am_R y4] h = ((am_isc h y2 9).bind fun _ => ((am_cI 54 [am_R y2, am_I y1, am_I y0] h).bind fun r1 => ((am_wr r1.2 y4 0 y3 r1.1).bind fun h2 => some (none, h2)))) :=
  (am_xs_run am_ms 58 [(.invokevirtual 121, 3, [0, 54, 3, 9, 1, 6125, 6127, 44]), (.iastore, 1, []), (.return_, 1, [])] 136 _ _ h (by decide +kernel)).trans rfl
set_option maxHeartbeats 4000000 in
theorem bk_58_141 (x0 : Nat) (x1 : Int) (x2 : Int) (h : am_H) : am_run am_ms 58 141 [am_R x0, am_I x1, am_I x2, am_K 1] [] h = ((am_isc h x0 9).bind fun _ => ((am_cI 43 [am_R x0] h).bind fun r1 => ((am_isc r1.2 x0 9).bind fun _ => ((am_cI 53 [am_R x0] r1.2).bind fun r2 => (bif decide (¬ r2.1 = 0) then am_run am_ms 58 158 [am_R x0, am_I x1, am_I x2, am_I r1.1] [] r2.2 else ((am_isc r2.2 x0 9).bind fun _ => ((am_cV 50 [am_R x0] r2.2).bind fun h3 => some (none, h3)))))))) :=
  (am_xs_run am_ms 58 [(.aload_n 0, 1, []), (.invokevirtual 86, 3, [0, 43, 1, 9, 1, 6074, 6076, 40]), (.istore_n 3, 1, []), (.aload_n 0, 1, []), (.invokevirtual 89, 3, [0, 53, 1, 9, 1, 6129, 6131, 45]), (.ifCond .ne 8, 3, []), (.aload_n 0, 1, []), (.invokevirtual 93, 3, [0, 50, 1, 9, 0, 6115, 6117, 43]), (.return_, 1, [])] 141 _ _ h (by decide +kernel)).trans rfl
set_option maxHeartbeats 4000000 in
theorem bk_58_158 (x0 : Nat) (x1 : Int) (x2 : Int) (x3 : Int) (h : am_H) : am_run am_ms 58 158 [am_R x0, am_I x1, am_I x2, am_I x3] [] h = ((am_gfR h x0 9 8).bind fun f1 => ((am_isc h x0 9).bind fun _ => ((am_cI 42 [am_R x0] h).bind fun r2 => ((am_wr r2.2 f1 0 (am_w (x1 + 1)) (am_w (r2.1 - 48))).bind fun h3 => ((am_gfI h3 x0 9 3).bind fun f4 => am_run am_ms 58 179 [am_R x0, am_I x1, am_I x2, am_I x3] [am_I 1, am_I f4, am_R x0] h3))))) :=
  (am_xs_run am_ms 58 [(.aload_n 0, 1, []), (.getfield 23, 3, [9, 8, 5191, 3]), (.iload_n 1, 1, []), (.iconst 1, 1, []), (.iadd, 1, []), (.aload_n 0, 1, []), (.invokevirtual 71, 3, [0, 42, 1, 9, 1, 6078, 6080, 41]), (.bipush 48, 2, []), (.isub, 1, []), (.iastore, 1, []), (.aload_n 0, 1, []), (.dup, 1, []), (.getfield 68, 3, [9, 3, 5186, 0]), (.iconst 1, 1, [])] 158 _ _ h (by decide +kernel)).trans rfl
set_option maxHeartbeats 4000000 in
theorem bk_58_179 (x0 : Nat) (x1 : Int) (x2 : Int) (x3 : Int) (y0 : Int) (y1 : Int) (y2 : Nat) (h : am_H) : am_run am_ms 58 179 [am_R x0, am_I x1, am_I x2, am_I x3] [am_I y0, am_I y1, am_R y2] h = ((am_pf h y2 9 3 (am_I (am_w (y1 + y0)))).bind fun h1 => some (none, h1)) :=
  (am_xs_run am_ms 58 [(.iadd, 1, []), (.putfield 68, 3, [9, 3, 5186, 0]), (.return_, 1, [])] 179 _ _ h (by decide +kernel)).trans rfl
set_option maxHeartbeats 4000000 in
theorem bk_59_0 (x0 : Nat) (h : am_H) : am_run am_ms 59 0 [am_R x0, am_K 1, am_K 1] [] h = am_run am_ms 59 4 [am_R x0, am_I 0, am_I 1] [] h :=
  (am_xs_run am_ms 59 [(.iconst 0, 1, []), (.istore_n 1, 1, []), (.iconst 1, 1, []), (.istore_n 2, 1, [])] 0 _ _ h (by decide +kernel)).trans rfl
theorem en_59 (x0 : Nat) (h : am_H) : am_call am_ms 59 [am_R x0] h = am_run am_ms 59 0 [am_R x0, am_K 1, am_K 1] [] h := rfl
set_option maxHeartbeats 4000000 in
theorem bk_59_4 (x0 : Nat) (x1 : Int) (x2 : Int) (h : am_H) : am_run am_ms 59 4 [am_R x0, am_I x1, am_I x2] [] h = (bif decide (x2 = 0) then am_run am_ms 59 77 [am_R x0, am_I x1, am_I x2] [] h else ((am_isc h x0 9).bind fun _ => ((am_cV 58 [am_R x0, am_I (am_w (3 * (am_w (64 + x1))))] h).bind fun h1 => ((am_gfI h1 x0 9 4).bind fun f2 => (bif decide (f2 = (-1)) then am_run am_ms 59 27 [am_R x0, am_I x1, am_I x2] [] h1 else some (none, h1)))))) :=
  (am_xs_run am_ms 59 [(.iload_n 2, 1, []), (.ifCond .eq 72, 3, []), (.aload_n 0, 1, []), (.iconst 3, 1, []), (.bipush 64, 2, []), (.iload_n 1, 1, []), (.iadd, 1, []), (.imul, 1, []), (.invokevirtual 141, 3, [0, 58, 2, 9, 0, 6137, 6139, 47]), (.aload_n 0, 1, []), (.getfield 75, 3, [9, 4, 5187, 0]), (.iconst (-1), 1, []), (.if_icmp .eq 4, 3, []), (.return_, 1, [])] 4 _ _ h (by decide +kernel)).trans rfl
set_option maxHeartbeats 4000000 in
theorem bk_59_27 (x0 : Nat) (x1 : Int) (x2 : Int) (h : am_H) : am_run am_ms 59 27 [am_R x0, am_I x1, am_I x2] [] h = ((am_isc h x0 9).bind fun _ => ((am_cI 43 [am_R x0] h).bind fun r1 => (bif decide (¬ r1.1 = 59) then am_run am_ms 59 43 [am_R x0, am_I (am_w (x1 + 1)), am_I x2] [] r1.2 else am_run am_ms 59 44 [am_R x0, am_I (am_w (x1 + 1)), am_I x2] [am_I 1] r1.2))) :=
  (am_xs_run am_ms 59 [(.iinc 1 1, 3, []), (.aload_n 0, 1, []), (.invokevirtual 86, 3, [0, 43, 1, 9, 1, 6074, 6076, 40]), (.bipush 59, 2, []), (.if_icmp .ne 7, 3, []), (.iconst 1, 1, []), (.goto 4, 3, [])] 27 _ _ h (by decide +kernel)).trans rfl
set_option maxHeartbeats 4000000 in
theorem bk_59_43 (x0 : Nat) (x1 : Int) (x2 : Int) (h : am_H) : am_run am_ms 59 43 [am_R x0, am_I x1, am_I x2] [] h = am_run am_ms 59 44 [am_R x0, am_I x1, am_I x2] [am_I 0] h :=
  (am_xs_run am_ms 59 [(.iconst 0, 1, [])] 43 _ _ h (by decide +kernel)).trans rfl
set_option maxHeartbeats 4000000 in
theorem bk_59_44 (x0 : Nat) (x1 : Int) (x2 : Int) (y0 : Int) (h : am_H) : am_run am_ms 59 44 [am_R x0, am_I x1, am_I x2] [am_I y0] h = (bif decide (y0 = 0) then am_run am_ms 59 60 [am_R x0, am_I x1, am_I y0] [] h else (bif decide (¬ x1 = 16) then am_run am_ms 59 60 [am_R x0, am_I x1, am_I y0] [] h else ((am_isc h x0 9).bind fun _ => ((am_cV 50 [am_R x0] h).bind fun h1 => some (none, h1))))) :=
  (am_xs_run am_ms 59 [(.istore_n 2, 1, []), (.iload_n 2, 1, []), (.ifCond .eq 14, 3, []), (.iload_n 1, 1, []), (.bipush 16, 2, []), (.if_icmp .ne 8, 3, []), (.aload_n 0, 1, []), (.invokevirtual 93, 3, [0, 50, 1, 9, 0, 6115, 6117, 43]), (.return_, 1, [])] 44 _ _ h (by decide +kernel)).trans rfl
set_option maxHeartbeats 4000000 in
theorem bk_59_60 (x0 : Nat) (x1 : Int) (x2 : Int) (h : am_H) : am_run am_ms 59 60 [am_R x0, am_I x1, am_I x2] [] h = (bif decide (x2 = 0) then am_run am_ms 59 4 [am_R x0, am_I x1, am_I x2] [] h else ((am_gfI h x0 9 3).bind fun f1 => ((am_pf h x0 9 3 (am_I (am_w (f1 + 1)))).bind fun h2 => am_run am_ms 59 4 [am_R x0, am_I x1, am_I x2] [] h2))) :=
  (am_xs_run am_ms 59 [(.iload_n 2, 1, []), (.ifCond .eq (-57), 3, []), (.aload_n 0, 1, []), (.dup, 1, []), (.getfield 68, 3, [9, 3, 5186, 0]), (.iconst 1, 1, []), (.iadd, 1, []), (.putfield 68, 3, [9, 3, 5186, 0]), (.goto (-70), 3, [])] 60 _ _ h (by decide +kernel)).trans rfl
set_option maxHeartbeats 4000000 in
theorem bk_59_77 (x0 : Nat) (x1 : Int) (x2 : Int) (h : am_H) : am_run am_ms 59 77 [am_R x0, am_I x1, am_I x2] [] h = ((am_gfR h x0 9 9).bind fun f1 => ((am_wr h f1 0 4 x1).bind fun h2 => ((am_isc h2 x0 9).bind fun _ => ((am_cI 43 [am_R x0] h2).bind fun r3 => (bif decide (r3.1 = (-1)) then am_run am_ms 59 96 [am_R x0, am_I x1, am_I x2] [] r3.2 else ((am_isc r3.2 x0 9).bind fun _ => ((am_cV 50 [am_R x0] r3.2).bind fun h4 => am_run am_ms 59 96 [am_R x0, am_I x1, am_I x2] [] h4))))))) :=
  (am_xs_run am_ms 59 [(.aload_n 0, 1, []), (.getfield 26, 3, [9, 9, 5192, 3]), (.iconst 4, 1, []), (.iload_n 1, 1, []), (.iastore, 1, []), (.aload_n 0, 1, []), (.invokevirtual 86, 3, [0, 43, 1, 9, 1, 6074, 6076, 40]), (.iconst (-1), 1, []), (.if_icmp .eq 7, 3, []), (.aload_n 0, 1, []), (.invokevirtual 93, 3, [0, 50, 1, 9, 0, 6115, 6117, 43])] 77 _ _ h (by decide +kernel)).trans rfl
set_option maxHeartbeats 4000000 in
theorem bk_59_96 (x0 : Nat) (x1 : Int) (x2 : Int) (h : am_H) : am_run am_ms 59 96 [am_R x0, am_I x1, am_I x2] [] h = some (none, h) :=
  (am_xs_run am_ms 59 [(.return_, 1, [])] 96 _ _ h (by decide +kernel)).trans rfl
set_option maxHeartbeats 4000000 in
theorem bk_60_0 (x0 : Nat) (x1 : Int) (h : am_H) : am_run am_ms 60 0 [am_R x0, am_I x1] [] h = ((am_pf h x0 9 0 (am_I 0)).bind fun h1 => ((am_cI 40 [am_L x1, am_L 0, am_L 1] h1).bind fun r2 => (bif decide (¬ r2.1 = 0) then am_run am_ms 60 18 [am_R x0, am_I x1] [] r2.2 else some (some (am_I (-2)), r2.2)))) :=
  (am_xs_run am_ms 60 [(.aload_n 0, 1, []), (.iconst 0, 1, []), (.putfield 53, 3, [9, 0, 5183, 0]), (.iload_n 1, 1, []), (.i2l, 1, []), (.lconst 0, 1, []), (.lconst 1, 1, []), (.invokestatic 96, 3, [1, 40, 3, 0, 1, 6060, 6061]), (.ifCond .ne 6, 3, []), (.bipush (-2), 2, []), (.ireturn, 1, [0])] 0 _ _ h (by decide +kernel)).trans rfl
theorem en_60 (x0 : Nat) (x1 : Int) (h : am_H) : am_call am_ms 60 [am_R x0, am_I x1] h = am_run am_ms 60 0 [am_R x0, am_I x1] [] h := rfl
set_option maxHeartbeats 4000000 in
theorem bk_60_18 (x0 : Nat) (x1 : Int) (h : am_H) : am_run am_ms 60 18 [am_R x0, am_I x1] [] h = ((am_pf h x0 9 3 (am_I 0)).bind fun h1 => ((am_pf h1 x0 9 4 (am_I (-1))).bind fun h2 => (bif decide (¬ x1 = 0) then am_run am_ms 60 39 [am_R x0, am_I x1] [] h2 else ((am_isc h2 x0 9).bind fun _ => ((am_cV 57 [am_R x0] h2).bind fun h3 => am_run am_ms 60 43 [am_R x0, am_I x1] [] h3))))) :=
  (am_xs_run am_ms 60 [(.aload_n 0, 1, []), (.iconst 0, 1, []), (.putfield 68, 3, [9, 3, 5186, 0]), (.aload_n 0, 1, []), (.iconst (-1), 1, []), (.putfield 75, 3, [9, 4, 5187, 0]), (.iload_n 1, 1, []), (.ifCond .ne 10, 3, []), (.aload_n 0, 1, []), (.invokevirtual 144, 3, [0, 57, 1, 9, 0, 6063, 6065, 38]), (.goto 7, 3, [])] 18 _ _ h (by decide +kernel)).trans rfl
set_option maxHeartbeats 4000000 in
theorem bk_60_39 (x0 : Nat) (x1 : Int) (h : am_H) : am_run am_ms 60 39 [am_R x0, am_I x1] [] h = ((am_isc h x0 9).bind fun _ => ((am_cV 59 [am_R x0] h).bind fun h1 => am_run am_ms 60 43 [am_R x0, am_I x1] [] h1)) :=
  (am_xs_run am_ms 60 [(.aload_n 0, 1, []), (.invokevirtual 147, 3, [0, 59, 1, 9, 0, 6133, 6135, 46])] 39 _ _ h (by decide +kernel)).trans rfl
set_option maxHeartbeats 4000000 in
theorem bk_60_43 (x0 : Nat) (x1 : Int) (h : am_H) : am_run am_ms 60 43 [am_R x0, am_I x1] [] h = ((am_gfI h x0 9 4).bind fun f1 => some (some (am_I f1), h)) :=
  (am_xs_run am_ms 60 [(.aload_n 0, 1, []), (.getfield 75, 3, [9, 4, 5187, 0]), (.ireturn, 1, [0])] 43 _ _ h (by decide +kernel)).trans rfl
set_option maxHeartbeats 4000000 in
theorem bk_107_0 (x0 : Nat) (h : am_H) : am_run am_ms 107 0 [am_R x0] [] h = ((am_gfR h x0 9 6).bind fun f1 => ((am_rd h f1 0 2).bind fun v2 => ((am_pf h x0 9 23 (am_I v2)).bind fun h3 => ((am_gfR h3 x0 9 6).bind fun f4 => ((am_rd h3 f4 0 3).bind fun v5 => ((am_pf h3 x0 9 24 (am_I v5)).bind fun h6 => am_run am_ms 107 22 [am_R x0] [am_R x0, am_R x0] h6)))))) :=
  (am_xs_run am_ms 107 [(.aload_n 0, 1, []), (.aload_n 0, 1, []), (.getfield 17, 3, [9, 6, 5189, 3]), (.iconst 2, 1, []), (.iaload, 1, []), (.putfield 171, 3, [9, 23, 5206, 0]), (.aload_n 0, 1, []), (.aload_n 0, 1, []), (.getfield 17, 3, [9, 6, 5189, 3]), (.iconst 3, 1, []), (.iaload, 1, []), (.putfield 174, 3, [9, 24, 5207, 0]), (.aload_n 0, 1, []), (.aload_n 0, 1, [])] 0 _ _ h (by decide +kernel)).trans rfl
theorem en_107 (x0 : Nat) (h : am_H) : am_call am_ms 107 [am_R x0] h = am_run am_ms 107 0 [am_R x0] [] h := rfl
set_option maxHeartbeats 4000000 in
theorem bk_107_22 (x0 : Nat) (y0 : Nat) (y1 : Nat) (h : am_H) : am_run am_ms 107 22 [am_R x0] [am_R y0, am_R y1] h = ((am_gfR h y0 9 6).bind fun f1 => ((am_rd h f1 0 4).bind fun v2 => ((am_pf h y1 9 25 (am_I v2)).bind fun h3 => some (none, h3)))) :=
  (am_xs_run am_ms 107 [(.getfield 17, 3, [9, 6, 5189, 3]), (.iconst 4, 1, []), (.iaload, 1, []), (.putfield 177, 3, [9, 25, 5208, 0]), (.return_, 1, [])] 22 _ _ h (by decide +kernel)).trans rfl
set_option maxHeartbeats 4000000 in
theorem bk_108_0 (x0 : Nat) (x1 : Int) (x2 : Nat) (x3 : Int) (h : am_H) : am_run am_ms 108 0 [am_R x0, am_I x1, am_R x2, am_I x3, am_K 1] [] h = am_run am_ms 108 3 [am_R x0, am_I x1, am_R x2, am_I x3, am_I 0] [] h :=
  (am_xs_run am_ms 108 [(.iconst 0, 1, []), (.istore 4, 2, [])] 0 _ _ h (by decide +kernel)).trans rfl
theorem en_108 (x0 : Nat) (x1 : Int) (x2 : Nat) (x3 : Int) (h : am_H) : am_call am_ms 108 [am_R x0, am_I x1, am_R x2, am_I x3] h = am_run am_ms 108 0 [am_R x0, am_I x1, am_R x2, am_I x3, am_K 1] [] h := rfl
set_option maxHeartbeats 4000000 in
theorem bk_108_3 (x0 : Nat) (x1 : Int) (x2 : Nat) (x3 : Int) (x4 : Int) (h : am_H) : am_run am_ms 108 3 [am_R x0, am_I x1, am_R x2, am_I x3, am_I x4] [] h = (bif decide (609 ≤ x4) then am_run am_ms 108 29 [am_R x0, am_I x1, am_R x2, am_I x3, am_I x4] [] h else ((am_rd h x0 0 (am_w (x1 + x4))).bind fun v1 => ((am_wr h x2 0 (am_w (x3 + x4)) v1).bind fun h2 => am_run am_ms 108 26 [am_R x0, am_I x1, am_R x2, am_I x3, am_I (am_w (x4 + 1))] [] h2))) :=
  (am_xs_run am_ms 108 [(.iload 4, 2, []), (.sipush 609, 3, []), (.if_icmp .ge 21, 3, []), (.aload_n 2, 1, []), (.iload_n 3, 1, []), (.iload 4, 2, []), (.iadd, 1, []), (.aload_n 0, 1, []), (.iload_n 1, 1, []), (.iload 4, 2, []), (.iadd, 1, []), (.iaload, 1, []), (.iastore, 1, []), (.iinc 4 1, 3, [])] 3 _ _ h (by decide +kernel)).trans rfl
set_option maxHeartbeats 4000000 in
theorem bk_108_26 (x0 : Nat) (x1 : Int) (x2 : Nat) (x3 : Int) (x4 : Int) (h : am_H) : am_run am_ms 108 26 [am_R x0, am_I x1, am_R x2, am_I x3, am_I x4] [] h = am_run am_ms 108 3 [am_R x0, am_I x1, am_R x2, am_I x3, am_I x4] [] h :=
  (am_xs_run am_ms 108 [(.goto (-23), 3, [])] 26 _ _ h (by decide +kernel)).trans rfl
set_option maxHeartbeats 4000000 in
theorem bk_108_29 (x0 : Nat) (x1 : Int) (x2 : Nat) (x3 : Int) (x4 : Int) (h : am_H) : am_run am_ms 108 29 [am_R x0, am_I x1, am_R x2, am_I x3, am_I x4] [] h = some (none, h) :=
  (am_xs_run am_ms 108 [(.return_, 1, [])] 29 _ _ h (by decide +kernel)).trans rfl
set_option maxHeartbeats 4000000 in
theorem bk_109_0 (x0 : Nat) (x1 : Nat) (x2 : Int) (h : am_H) : am_run am_ms 109 0 [am_R x0, am_R x1, am_I x2, am_K 1, am_K 1, am_K 1, am_K 1] [] h = am_run am_ms 109 5 [am_R x0, am_R x1, am_I x2, am_I (-1), am_I 0, am_K 1, am_K 1] [] h :=
  (am_xs_run am_ms 109 [(.iconst (-1), 1, []), (.istore_n 3, 1, []), (.iconst 0, 1, []), (.istore 4, 2, [])] 0 _ _ h (by decide +kernel)).trans rfl
theorem en_109 (x0 : Nat) (x1 : Nat) (x2 : Int) (h : am_H) : am_call am_ms 109 [am_R x0, am_R x1, am_I x2] h = am_run am_ms 109 0 [am_R x0, am_R x1, am_I x2, am_K 1, am_K 1, am_K 1, am_K 1] [] h := rfl
set_option maxHeartbeats 4000000 in
theorem bk_109_5 (x0 : Nat) (x1 : Nat) (x2 : Int) (x3 : Int) (x4 : Int) (x5 : am_V) (x6 : am_V) (h : am_H) : am_run am_ms 109 5 [am_R x0, am_R x1, am_I x2, am_I x3, am_I x4, x5, x6] [] h = ((am_gfR h x0 9 6).bind fun f1 => ((am_rd h f1 0 0).bind fun v2 => (bif decide (v2 ≤ x4) then am_run am_ms 109 90 [am_R x0, am_R x1, am_I x2, am_I x3, am_I x4, x5, x6] [] h else am_run am_ms 109 19 [am_R x0, am_R x1, am_I x2, am_I x3, am_I x4, am_I 0, x6] [] h))) :=
  (am_xs_run am_ms 109 [(.iload 4, 2, []), (.aload_n 0, 1, []), (.getfield 17, 3, [9, 6, 5189, 3]), (.iconst 0, 1, []), (.iaload, 1, []), (.if_icmp .ge 77, 3, []), (.iconst 0, 1, []), (.istore 5, 2, [])] 5 _ _ h (by decide +kernel)).trans rfl
set_option maxHeartbeats 4000000 in
theorem bk_109_19 (x0 : Nat) (x1 : Nat) (x2 : Int) (x3 : Int) (x4 : Int) (x5 : Int) (x6 : am_V) (h : am_H) : am_run am_ms 109 19 [am_R x0, am_R x1, am_I x2, am_I x3, am_I x4, am_I x5, x6] [] h = ((am_rd h x1 0 (am_w (8 + x4))).bind fun v1 => (bif decide (v1 ≤ x5) then am_run am_ms 109 84 [am_R x0, am_R x1, am_I x2, am_I x3, am_I x4, am_I x5, x6] [] h else am_run am_ms 109 42 [am_R x0, am_R x1, am_I x2, am_I x3, am_I x4, am_I x5, am_I (am_w ((am_w (16 * x4)) + x5))] [am_R x1] h)) :=
  (am_xs_run am_ms 109 [(.iload 5, 2, []), (.aload_n 1, 1, []), (.bipush 8, 2, []), (.iload 4, 2, []), (.iadd, 1, []), (.iaload, 1, []), (.if_icmp .ge 56, 3, []), (.bipush 16, 2, []), (.iload 4, 2, []), (.imul, 1, []), (.iload 5, 2, []), (.iadd, 1, []), (.istore 6, 2, []), (.aload_n 1, 1, [])] 19 _ _ h (by decide +kernel)).trans rfl
set_option maxHeartbeats 4000000 in
theorem bk_109_42 (x0 : Nat) (x1 : Nat) (x2 : Int) (x3 : Int) (x4 : Int) (x5 : Int) (x6 : Int) (y0 : Nat) (h : am_H) : am_run am_ms 109 42 [am_R x0, am_R x1, am_I x2, am_I x3, am_I x4, am_I x5, am_I x6] [am_R y0] h = ((am_rd h y0 0 (am_w (32 + x6))).bind fun v1 => (bif decide (¬ v1 = x2) then am_run am_ms 109 78 [am_R x0, am_R x1, am_I x2, am_I x3, am_I x4, am_I x5, am_I x6] [] h else (bif decide (x3 = (-1)) then am_run am_ms 109 75 [am_R x0, am_R x1, am_I x2, am_I x3, am_I x4, am_I x5, am_I x6] [] h else ((am_rd h x1 0 (am_w (288 + x6))).bind fun v2 => am_run am_ms 109 65 [am_R x0, am_R x1, am_I x2, am_I x3, am_I x4, am_I x5, am_I x6] [am_I v2] h)))) :=
  (am_xs_run am_ms 109 [(.bipush 32, 2, []), (.iload 6, 2, []), (.iadd, 1, []), (.iaload, 1, []), (.iload_n 2, 1, []), (.if_icmp .ne 29, 3, []), (.iload_n 3, 1, []), (.iconst (-1), 1, []), (.if_icmp .eq 21, 3, []), (.aload_n 1, 1, []), (.sipush 288, 3, []), (.iload 6, 2, []), (.iadd, 1, []), (.iaload, 1, [])] 42 _ _ h (by decide +kernel)).trans rfl
set_option maxHeartbeats 4000000 in
theorem bk_109_65 (x0 : Nat) (x1 : Nat) (x2 : Int) (x3 : Int) (x4 : Int) (x5 : Int) (x6 : Int) (y0 : Int) (h : am_H) : am_run am_ms 109 65 [am_R x0, am_R x1, am_I x2, am_I x3, am_I x4, am_I x5, am_I x6] [am_I y0] h = ((am_rd h x1 0 (am_w (288 + x3))).bind fun v1 => (bif decide (y0 ≤ v1) then am_run am_ms 109 78 [am_R x0, am_R x1, am_I x2, am_I x3, am_I x4, am_I x5, am_I x6] [] h else am_run am_ms 109 75 [am_R x0, am_R x1, am_I x2, am_I x3, am_I x4, am_I x5, am_I x6] [] h)) :=
  (am_xs_run am_ms 109 [(.aload_n 1, 1, []), (.sipush 288, 3, []), (.iload_n 3, 1, []), (.iadd, 1, []), (.iaload, 1, []), (.if_icmp .le 6, 3, [])] 65 _ _ h (by decide +kernel)).trans rfl
set_option maxHeartbeats 4000000 in
theorem bk_109_75 (x0 : Nat) (x1 : Nat) (x2 : Int) (x3 : Int) (x4 : Int) (x5 : Int) (x6 : Int) (h : am_H) : am_run am_ms 109 75 [am_R x0, am_R x1, am_I x2, am_I x3, am_I x4, am_I x5, am_I x6] [] h = am_run am_ms 109 78 [am_R x0, am_R x1, am_I x2, am_I x6, am_I x4, am_I x5, am_I x6] [] h :=
  (am_xs_run am_ms 109 [(.iload 6, 2, []), (.istore_n 3, 1, [])] 75 _ _ h (by decide +kernel)).trans rfl
set_option maxHeartbeats 4000000 in
theorem bk_109_78 (x0 : Nat) (x1 : Nat) (x2 : Int) (x3 : Int) (x4 : Int) (x5 : Int) (x6 : Int) (h : am_H) : am_run am_ms 109 78 [am_R x0, am_R x1, am_I x2, am_I x3, am_I x4, am_I x5, am_I x6] [] h = am_run am_ms 109 19 [am_R x0, am_R x1, am_I x2, am_I x3, am_I x4, am_I (am_w (x5 + 1)), am_I x6] [] h :=
  (am_xs_run am_ms 109 [(.iinc 5 1, 3, []), (.goto (-62), 3, [])] 78 _ _ h (by decide +kernel)).trans rfl
set_option maxHeartbeats 4000000 in
theorem bk_109_84 (x0 : Nat) (x1 : Nat) (x2 : Int) (x3 : Int) (x4 : Int) (x5 : Int) (x6 : am_V) (h : am_H) : am_run am_ms 109 84 [am_R x0, am_R x1, am_I x2, am_I x3, am_I x4, am_I x5, x6] [] h = am_run am_ms 109 5 [am_R x0, am_R x1, am_I x2, am_I x3, am_I (am_w (x4 + 1)), am_I x5, x6] [] h :=
  (am_xs_run am_ms 109 [(.iinc 4 1, 3, []), (.goto (-82), 3, [])] 84 _ _ h (by decide +kernel)).trans rfl
set_option maxHeartbeats 4000000 in
theorem bk_109_90 (x0 : Nat) (x1 : Nat) (x2 : Int) (x3 : Int) (x4 : Int) (x5 : am_V) (x6 : am_V) (h : am_H) : am_run am_ms 109 90 [am_R x0, am_R x1, am_I x2, am_I x3, am_I x4, x5, x6] [] h = some (some (am_I x3), h) :=
  (am_xs_run am_ms 109 [(.iload_n 3, 1, []), (.ireturn, 1, [0])] 90 _ _ h (by decide +kernel)).trans rfl
set_option maxHeartbeats 4000000 in
theorem bk_110_0 (x0 : Nat) (x1 : Nat) (x2 : Int) (h : am_H) : am_run am_ms 110 0 [am_R x0, am_R x1, am_I x2, am_K 1, am_K 1] [] h = ((am_isc h x0 9).bind fun _ => ((am_cI 109 [am_R x0, am_R x1, am_I x2] h).bind fun r1 => (bif decide (¬ r1.1 = (-1)) then am_run am_ms 110 19 [am_R x0, am_R x1, am_I x2, am_I r1.1, am_K 1] [] r1.2 else ((am_gfI r1.2 x0 9 25).bind fun f2 => some (some (am_I (am_w (f2 - 1))), r1.2))))) :=
  (am_xs_run am_ms 110 [(.aload_n 0, 1, []), (.aload_n 1, 1, []), (.iload_n 2, 1, []), (.invokevirtual 180, 3, [0, 109, 3, 9, 1, 6162, 6164, 51]), (.istore_n 3, 1, []), (.iload_n 3, 1, []), (.iconst (-1), 1, []), (.if_icmp .ne 10, 3, []), (.aload_n 0, 1, []), (.getfield 177, 3, [9, 25, 5208, 0]), (.iconst 1, 1, []), (.isub, 1, []), (.ireturn, 1, [0])] 0 _ _ h (by decide +kernel)).trans rfl
theorem en_110 (x0 : Nat) (x1 : Nat) (x2 : Int) (h : am_H) : am_call am_ms 110 [am_R x0, am_R x1, am_I x2] h = am_run am_ms 110 0 [am_R x0, am_R x1, am_I x2, am_K 1, am_K 1] [] h := rfl
set_option maxHeartbeats 4000000 in
theorem bk_110_19 (x0 : Nat) (x1 : Nat) (x2 : Int) (x3 : Int) (h : am_H) : am_run am_ms 110 19 [am_R x0, am_R x1, am_I x2, am_I x3, am_K 1] [] h = ((am_rd h x1 0 419).bind fun v1 => ((am_rd h x1 0 (am_w (288 + x3))).bind fun v2 => ((am_gfI h x0 9 25).bind fun f3 => am_run am_ms 110 40 [am_R x0, am_R x1, am_I x2, am_I x3, am_I (am_w ((am_w (v1 + 1)) - v2))] [am_I f3] h))) :=
  (am_xs_run am_ms 110 [(.aload_n 1, 1, []), (.sipush 419, 3, []), (.iaload, 1, []), (.iconst 1, 1, []), (.iadd, 1, []), (.aload_n 1, 1, []), (.sipush 288, 3, []), (.iload_n 3, 1, []), (.iadd, 1, []), (.iaload, 1, []), (.isub, 1, []), (.istore 4, 2, []), (.aload_n 0, 1, []), (.getfield 177, 3, [9, 25, 5208, 0])] 19 _ _ h (by decide +kernel)).trans rfl
set_option maxHeartbeats 4000000 in
theorem bk_110_40 (x0 : Nat) (x1 : Nat) (x2 : Int) (x3 : Int) (x4 : Int) (y0 : Int) (h : am_H) : am_run am_ms 110 40 [am_R x0, am_R x1, am_I x2, am_I x3, am_I x4] [am_I y0] h = (bif decide (¬ y0 = 1) then am_run am_ms 110 46 [am_R x0, am_R x1, am_I x2, am_I x3, am_I x4] [] h else some (some (am_I 0), h)) :=
  (am_xs_run am_ms 110 [(.iconst 1, 1, []), (.if_icmp .ne 5, 3, []), (.iconst 0, 1, []), (.ireturn, 1, [0])] 40 _ _ h (by decide +kernel)).trans rfl
set_option maxHeartbeats 4000000 in
theorem bk_110_46 (x0 : Nat) (x1 : Nat) (x2 : Int) (x3 : Int) (x4 : Int) (h : am_H) : am_run am_ms 110 46 [am_R x0, am_R x1, am_I x2, am_I x3, am_I x4] [] h = ((am_gfI h x0 9 25).bind fun f1 => (bif decide (¬ f1 = 2) then am_run am_ms 110 67 [am_R x0, am_R x1, am_I x2, am_I x3, am_I x4] [] h else (bif decide (8 < x4) then am_run am_ms 110 65 [am_R x0, am_R x1, am_I x2, am_I x3, am_I x4] [] h else am_run am_ms 110 66 [am_R x0, am_R x1, am_I x2, am_I x3, am_I x4] [am_I 0] h))) :=
  (am_xs_run am_ms 110 [(.aload_n 0, 1, []), (.getfield 177, 3, [9, 25, 5208, 0]), (.iconst 2, 1, []), (.if_icmp .ne 16, 3, []), (.iload 4, 2, []), (.bipush 8, 2, []), (.if_icmp .gt 7, 3, []), (.iconst 0, 1, []), (.goto 4, 3, [])] 46 _ _ h (by decide +kernel)).trans rfl
set_option maxHeartbeats 4000000 in
theorem bk_110_65 (x0 : Nat) (x1 : Nat) (x2 : Int) (x3 : Int) (x4 : Int) (h : am_H) : am_run am_ms 110 65 [am_R x0, am_R x1, am_I x2, am_I x3, am_I x4] [] h = am_run am_ms 110 66 [am_R x0, am_R x1, am_I x2, am_I x3, am_I x4] [am_I 1] h :=
  (am_xs_run am_ms 110 [(.iconst 1, 1, [])] 65 _ _ h (by decide +kernel)).trans rfl
set_option maxHeartbeats 4000000 in
theorem bk_110_66 (x0 : Nat) (x1 : Nat) (x2 : Int) (x3 : Int) (x4 : Int) (y0 : Int) (h : am_H) : am_run am_ms 110 66 [am_R x0, am_R x1, am_I x2, am_I x3, am_I x4] [am_I y0] h = some (some (am_I y0), h) :=
  (am_xs_run am_ms 110 [(.ireturn, 1, [0])] 66 _ _ h (by decide +kernel)).trans rfl
set_option maxHeartbeats 4000000 in
theorem bk_110_67 (x0 : Nat) (x1 : Nat) (x2 : Int) (x3 : Int) (x4 : Int) (h : am_H) : am_run am_ms 110 67 [am_R x0, am_R x1, am_I x2, am_I x3, am_I x4] [] h = (bif decide (4 < x4) then am_run am_ms 110 77 [am_R x0, am_R x1, am_I x2, am_I x3, am_I x4] [] h else am_run am_ms 110 89 [am_R x0, am_R x1, am_I x2, am_I x3, am_I x4] [am_I 0] h) :=
  (am_xs_run am_ms 110 [(.iload 4, 2, []), (.iconst 4, 1, []), (.if_icmp .gt 7, 3, []), (.iconst 0, 1, []), (.goto 15, 3, [])] 67 _ _ h (by decide +kernel)).trans rfl
set_option maxHeartbeats 4000000 in
theorem bk_110_77 (x0 : Nat) (x1 : Nat) (x2 : Int) (x3 : Int) (x4 : Int) (h : am_H) : am_run am_ms 110 77 [am_R x0, am_R x1, am_I x2, am_I x3, am_I x4] [] h = (bif decide (16 < x4) then am_run am_ms 110 88 [am_R x0, am_R x1, am_I x2, am_I x3, am_I x4] [] h else am_run am_ms 110 89 [am_R x0, am_R x1, am_I x2, am_I x3, am_I x4] [am_I 1] h) :=
  (am_xs_run am_ms 110 [(.iload 4, 2, []), (.bipush 16, 2, []), (.if_icmp .gt 7, 3, []), (.iconst 1, 1, []), (.goto 4, 3, [])] 77 _ _ h (by decide +kernel)).trans rfl
set_option maxHeartbeats 4000000 in
theorem bk_110_88 (x0 : Nat) (x1 : Nat) (x2 : Int) (x3 : Int) (x4 : Int) (h : am_H) : am_run am_ms 110 88 [am_R x0, am_R x1, am_I x2, am_I x3, am_I x4] [] h = am_run am_ms 110 89 [am_R x0, am_R x1, am_I x2, am_I x3, am_I x4] [am_I 2] h :=
  (am_xs_run am_ms 110 [(.iconst 2, 1, [])] 88 _ _ h (by decide +kernel)).trans rfl
set_option maxHeartbeats 4000000 in
theorem bk_110_89 (x0 : Nat) (x1 : Nat) (x2 : Int) (x3 : Int) (x4 : Int) (y0 : Int) (h : am_H) : am_run am_ms 110 89 [am_R x0, am_R x1, am_I x2, am_I x3, am_I x4] [am_I y0] h = some (some (am_I y0), h) :=
  (am_xs_run am_ms 110 [(.ireturn, 1, [0])] 89 _ _ h (by decide +kernel)).trans rfl
set_option maxHeartbeats 4000000 in
theorem bk_111_0 (x0 : Nat) (x1 : Nat) (x2 : Int) (h : am_H) : am_run am_ms 111 0 [am_R x0, am_R x1, am_I x2] [] h = ((am_rd h x1 0 (am_w (416 + x2))).bind fun v1 => (bif decide (v1 = (-1)) then am_run am_ms 111 26 [am_R x0, am_R x1, am_I x2] [] h else ((am_rd h x1 0 (am_w (416 + x2))).bind fun v2 => am_run am_ms 111 20 [am_R x0, am_R x1, am_I x2] [am_I v2, am_I 0, am_R x1] h))) :=
  (am_xs_run am_ms 111 [(.aload_n 1, 1, []), (.sipush 416, 3, []), (.iload_n 2, 1, []), (.iadd, 1, []), (.iaload, 1, []), (.iconst (-1), 1, []), (.if_icmp .eq 18, 3, []), (.aload_n 1, 1, []), (.iconst 0, 1, []), (.aload_n 1, 1, []), (.sipush 416, 3, []), (.iload_n 2, 1, []), (.iadd, 1, []), (.iaload, 1, [])] 0 _ _ h (by decide +kernel)).trans rfl
theorem en_111 (x0 : Nat) (x1 : Nat) (x2 : Int) (h : am_H) : am_call am_ms 111 [am_R x0, am_R x1, am_I x2] h = am_run am_ms 111 0 [am_R x0, am_R x1, am_I x2] [] h := rfl
set_option maxHeartbeats 4000000 in
theorem bk_111_20 (x0 : Nat) (x1 : Nat) (x2 : Int) (y0 : Int) (y1 : Int) (y2 : Nat) (h : am_H) : am_run am_ms 111 20 [am_R x0, am_R x1, am_I x2] [am_I y0, am_I y1, am_R y2] h = ((am_rd h y2 0 (am_w (y1 + y0))).bind fun v1 => (bif decide (¬ v1 = 3) then am_run am_ms 111 30 [am_R x0, am_R x1, am_I x2] [] h else am_run am_ms 111 26 [am_R x0, am_R x1, am_I x2] [] h)) :=
  (am_xs_run am_ms 111 [(.iadd, 1, []), (.iaload, 1, []), (.iconst 3, 1, []), (.if_icmp .ne 7, 3, [])] 20 _ _ h (by decide +kernel)).trans rfl
set_option maxHeartbeats 4000000 in
theorem bk_111_26 (x0 : Nat) (x1 : Nat) (x2 : Int) (h : am_H) : am_run am_ms 111 26 [am_R x0, am_R x1, am_I x2] [] h = am_run am_ms 111 31 [am_R x0, am_R x1, am_I x2] [am_I 1] h :=
  (am_xs_run am_ms 111 [(.iconst 1, 1, []), (.goto 4, 3, [])] 26 _ _ h (by decide +kernel)).trans rfl
set_option maxHeartbeats 4000000 in
theorem bk_111_30 (x0 : Nat) (x1 : Nat) (x2 : Int) (h : am_H) : am_run am_ms 111 30 [am_R x0, am_R x1, am_I x2] [] h = am_run am_ms 111 31 [am_R x0, am_R x1, am_I x2] [am_I 0] h :=
  (am_xs_run am_ms 111 [(.iconst 0, 1, [])] 30 _ _ h (by decide +kernel)).trans rfl
set_option maxHeartbeats 4000000 in
theorem bk_111_31 (x0 : Nat) (x1 : Nat) (x2 : Int) (y0 : Int) (h : am_H) : am_run am_ms 111 31 [am_R x0, am_R x1, am_I x2] [am_I y0] h = (bif am_rok 1 y0 then some (some (am_I y0), h) else none) :=
  (am_xs_run am_ms 111 [(.ireturn, 1, [1])] 31 _ _ h (by decide +kernel)).trans rfl
set_option maxHeartbeats 4000000 in
theorem bk_112_0 (x0 : Nat) (x1 : Nat) (x2 : Int) (h : am_H) : am_run am_ms 112 0 [am_R x0, am_R x1, am_I x2, am_K 1, am_K 1] [] h = am_run am_ms 112 5 [am_R x0, am_R x1, am_I x2, am_I 0, am_I 0] [] h :=
  (am_xs_run am_ms 112 [(.iconst 0, 1, []), (.istore_n 3, 1, []), (.iconst 0, 1, []), (.istore 4, 2, [])] 0 _ _ h (by decide +kernel)).trans rfl
theorem en_112 (x0 : Nat) (x1 : Nat) (x2 : Int) (h : am_H) : am_call am_ms 112 [am_R x0, am_R x1, am_I x2] h = am_run am_ms 112 0 [am_R x0, am_R x1, am_I x2, am_K 1, am_K 1] [] h := rfl
set_option maxHeartbeats 4000000 in
theorem bk_112_5 (x0 : Nat) (x1 : Nat) (x2 : Int) (x3 : Int) (x4 : Int) (h : am_H) : am_run am_ms 112 5 [am_R x0, am_R x1, am_I x2, am_I x3, am_I x4] [] h = ((am_gfR h x0 9 6).bind fun f1 => ((am_rd h f1 0 0).bind fun v2 => (bif decide (v2 ≤ x4) then am_run am_ms 112 40 [am_R x0, am_R x1, am_I x2, am_I x3, am_I x4] [] h else ((am_rd h x1 0 (am_w (0 + x4))).bind fun v3 => (bif decide (¬ v3 = x2) then am_run am_ms 112 31 [am_R x0, am_R x1, am_I x2, am_I x3, am_I x4] [am_I x3] h else am_run am_ms 112 27 [am_R x0, am_R x1, am_I x2, am_I x3, am_I x4] [am_I x3] h))))) :=
  (am_xs_run am_ms 112 [(.iload 4, 2, []), (.aload_n 0, 1, []), (.getfield 17, 3, [9, 6, 5189, 3]), (.iconst 0, 1, []), (.iaload, 1, []), (.if_icmp .ge 27, 3, []), (.iload_n 3, 1, []), (.aload_n 1, 1, []), (.iconst 0, 1, []), (.iload 4, 2, []), (.iadd, 1, []), (.iaload, 1, []), (.iload_n 2, 1, []), (.if_icmp .ne 7, 3, [])] 5 _ _ h (by decide +kernel)).trans rfl
set_option maxHeartbeats 4000000 in
theorem bk_112_27 (x0 : Nat) (x1 : Nat) (x2 : Int) (x3 : Int) (x4 : Int) (y0 : Int) (h : am_H) : am_run am_ms 112 27 [am_R x0, am_R x1, am_I x2, am_I x3, am_I x4] [am_I y0] h = am_run am_ms 112 32 [am_R x0, am_R x1, am_I x2, am_I x3, am_I x4] [am_I 1, am_I y0] h :=
  (am_xs_run am_ms 112 [(.iconst 1, 1, []), (.goto 4, 3, [])] 27 _ _ h (by decide +kernel)).trans rfl
set_option maxHeartbeats 4000000 in
theorem bk_112_31 (x0 : Nat) (x1 : Nat) (x2 : Int) (x3 : Int) (x4 : Int) (y0 : Int) (h : am_H) : am_run am_ms 112 31 [am_R x0, am_R x1, am_I x2, am_I x3, am_I x4] [am_I y0] h = am_run am_ms 112 32 [am_R x0, am_R x1, am_I x2, am_I x3, am_I x4] [am_I 0, am_I y0] h :=
  (am_xs_run am_ms 112 [(.iconst 0, 1, [])] 31 _ _ h (by decide +kernel)).trans rfl
set_option maxHeartbeats 4000000 in
theorem bk_112_32 (x0 : Nat) (x1 : Nat) (x2 : Int) (x3 : Int) (x4 : Int) (y0 : Int) (y1 : Int) (h : am_H) : am_run am_ms 112 32 [am_R x0, am_R x1, am_I x2, am_I x3, am_I x4] [am_I y0, am_I y1] h = am_run am_ms 112 5 [am_R x0, am_R x1, am_I x2, am_I (am_w (y1 + y0)), am_I (am_w (x4 + 1))] [] h :=
  (am_xs_run am_ms 112 [(.iadd, 1, []), (.istore_n 3, 1, []), (.iinc 4 1, 3, []), (.goto (-32), 3, [])] 32 _ _ h (by decide +kernel)).trans rfl
set_option maxHeartbeats 4000000 in
theorem bk_112_40 (x0 : Nat) (x1 : Nat) (x2 : Int) (x3 : Int) (x4 : Int) (h : am_H) : am_run am_ms 112 40 [am_R x0, am_R x1, am_I x2, am_I x3, am_I x4] [] h = some (some (am_I x3), h) :=
  (am_xs_run am_ms 112 [(.iload_n 3, 1, []), (.ireturn, 1, [0])] 40 _ _ h (by decide +kernel)).trans rfl
set_option maxHeartbeats 4000000 in
theorem bk_113_0 (x0 : Nat) (x1 : Nat) (x2 : Int) (x3 : Int) (h : am_H) : am_run am_ms 113 0 [am_R x0, am_R x1, am_I x2, am_I x3, am_K 1, am_K 1, am_K 1] [] h = am_run am_ms 113 6 [am_R x0, am_R x1, am_I x2, am_I x3, am_I 0, am_I 0, am_K 1] [] h :=
  (am_xs_run am_ms 113 [(.iconst 0, 1, []), (.istore 4, 2, []), (.iconst 0, 1, []), (.istore 5, 2, [])] 0 _ _ h (by decide +kernel)).trans rfl
theorem en_113 (x0 : Nat) (x1 : Nat) (x2 : Int) (x3 : Int) (h : am_H) : am_call am_ms 113 [am_R x0, am_R x1, am_I x2, am_I x3] h = am_run am_ms 113 0 [am_R x0, am_R x1, am_I x2, am_I x3, am_K 1, am_K 1, am_K 1] [] h := rfl
set_option maxHeartbeats 4000000 in
theorem bk_113_6 (x0 : Nat) (x1 : Nat) (x2 : Int) (x3 : Int) (x4 : Int) (x5 : Int) (x6 : am_V) (h : am_H) : am_run am_ms 113 6 [am_R x0, am_R x1, am_I x2, am_I x3, am_I x4, am_I x5, x6] [] h = ((am_gfR h x0 9 6).bind fun f1 => ((am_rd h f1 0 0).bind fun v2 => (bif decide (v2 ≤ x5) then am_run am_ms 113 89 [am_R x0, am_R x1, am_I x2, am_I x3, am_I x4, am_I x5, x6] [] h else am_run am_ms 113 20 [am_R x0, am_R x1, am_I x2, am_I x3, am_I x4, am_I x5, am_I 0] [] h))) :=
  (am_xs_run am_ms 113 [(.iload 5, 2, []), (.aload_n 0, 1, []), (.getfield 17, 3, [9, 6, 5189, 3]), (.iconst 0, 1, []), (.iaload, 1, []), (.if_icmp .ge 75, 3, []), (.iconst 0, 1, []), (.istore 6, 2, [])] 6 _ _ h (by decide +kernel)).trans rfl
set_option maxHeartbeats 4000000 in
theorem bk_113_20 (x0 : Nat) (x1 : Nat) (x2 : Int) (x3 : Int) (x4 : Int) (x5 : Int) (x6 : Int) (h : am_H) : am_run am_ms 113 20 [am_R x0, am_R x1, am_I x2, am_I x3, am_I x4, am_I x5, am_I x6] [] h = ((am_rd h x1 0 (am_w (8 + x5))).bind fun v1 => (bif decide (v1 ≤ x6) then am_run am_ms 113 83 [am_R x0, am_R x1, am_I x2, am_I x3, am_I x4, am_I x5, am_I x6] [] h else am_run am_ms 113 43 [am_R x0, am_R x1, am_I x2, am_I x3, am_I x4, am_I x5, am_I x6] [am_I (am_w (32 + (am_w (16 * x5)))), am_R x1, am_I x4] h)) :=
  (am_xs_run am_ms 113 [(.iload 6, 2, []), (.aload_n 1, 1, []), (.bipush 8, 2, []), (.iload 5, 2, []), (.iadd, 1, []), (.iaload, 1, []), (.if_icmp .ge 54, 3, []), (.iload 4, 2, []), (.aload_n 1, 1, []), (.bipush 32, 2, []), (.bipush 16, 2, []), (.iload 5, 2, []), (.imul, 1, []), (.iadd, 1, [])] 20 _ _ h (by decide +kernel)).trans rfl
set_option maxHeartbeats 4000000 in
theorem bk_113_43 (x0 : Nat) (x1 : Nat) (x2 : Int) (x3 : Int) (x4 : Int) (x5 : Int) (x6 : Int) (y0 : Int) (y1 : Nat) (y2 : Int) (h : am_H) : am_run am_ms 113 43 [am_R x0, am_R x1, am_I x2, am_I x3, am_I x4, am_I x5, am_I x6] [am_I y0, am_R y1, am_I y2] h = ((am_rd h y1 0 (am_w (y0 + x6))).bind fun v1 => (bif decide (¬ v1 = x2) then am_run am_ms 113 73 [am_R x0, am_R x1, am_I x2, am_I x3, am_I x4, am_I x5, am_I x6] [am_I y2] h else ((am_rd h x1 0 (am_w ((am_w (288 + (am_w (16 * x5)))) + x6))).bind fun v2 => am_run am_ms 113 65 [am_R x0, am_R x1, am_I x2, am_I x3, am_I x4, am_I x5, am_I x6] [am_I v2, am_I y2] h))) :=
  (am_xs_run am_ms 113 [(.iload 6, 2, []), (.iadd, 1, []), (.iaload, 1, []), (.iload_n 2, 1, []), (.if_icmp .ne 25, 3, []), (.aload_n 1, 1, []), (.sipush 288, 3, []), (.bipush 16, 2, []), (.iload 5, 2, []), (.imul, 1, []), (.iadd, 1, []), (.iload 6, 2, []), (.iadd, 1, []), (.iaload, 1, [])] 43 _ _ h (by decide +kernel)).trans rfl
set_option maxHeartbeats 4000000 in
theorem bk_113_65 (x0 : Nat) (x1 : Nat) (x2 : Int) (x3 : Int) (x4 : Int) (x5 : Int) (x6 : Int) (y0 : Int) (y1 : Int) (h : am_H) : am_run am_ms 113 65 [am_R x0, am_R x1, am_I x2, am_I x3, am_I x4, am_I x5, am_I x6] [am_I y0, am_I y1] h = (bif decide (x3 ≤ y0) then am_run am_ms 113 73 [am_R x0, am_R x1, am_I x2, am_I x3, am_I x4, am_I x5, am_I x6] [am_I y1] h else am_run am_ms 113 74 [am_R x0, am_R x1, am_I x2, am_I x3, am_I x4, am_I x5, am_I x6] [am_I 1, am_I y1] h) :=
  (am_xs_run am_ms 113 [(.iload_n 3, 1, []), (.if_icmp .ge 7, 3, []), (.iconst 1, 1, []), (.goto 4, 3, [])] 65 _ _ h (by decide +kernel)).trans rfl
set_option maxHeartbeats 4000000 in
theorem bk_113_73 (x0 : Nat) (x1 : Nat) (x2 : Int) (x3 : Int) (x4 : Int) (x5 : Int) (x6 : Int) (y0 : Int) (h : am_H) : am_run am_ms 113 73 [am_R x0, am_R x1, am_I x2, am_I x3, am_I x4, am_I x5, am_I x6] [am_I y0] h = am_run am_ms 113 74 [am_R x0, am_R x1, am_I x2, am_I x3, am_I x4, am_I x5, am_I x6] [am_I 0, am_I y0] h :=
  (am_xs_run am_ms 113 [(.iconst 0, 1, [])] 73 _ _ h (by decide +kernel)).trans rfl
set_option maxHeartbeats 4000000 in
theorem bk_113_74 (x0 : Nat) (x1 : Nat) (x2 : Int) (x3 : Int) (x4 : Int) (x5 : Int) (x6 : Int) (y0 : Int) (y1 : Int) (h : am_H) : am_run am_ms 113 74 [am_R x0, am_R x1, am_I x2, am_I x3, am_I x4, am_I x5, am_I x6] [am_I y0, am_I y1] h = am_run am_ms 113 20 [am_R x0, am_R x1, am_I x2, am_I x3, am_I (am_w (y1 + y0)), am_I x5, am_I (am_w (x6 + 1))] [] h :=
  (am_xs_run am_ms 113 [(.iadd, 1, []), (.istore 4, 2, []), (.iinc 6 1, 3, []), (.goto (-60), 3, [])] 74 _ _ h (by decide +kernel)).trans rfl
set_option maxHeartbeats 4000000 in
theorem bk_113_83 (x0 : Nat) (x1 : Nat) (x2 : Int) (x3 : Int) (x4 : Int) (x5 : Int) (x6 : Int) (h : am_H) : am_run am_ms 113 83 [am_R x0, am_R x1, am_I x2, am_I x3, am_I x4, am_I x5, am_I x6] [] h = am_run am_ms 113 6 [am_R x0, am_R x1, am_I x2, am_I x3, am_I x4, am_I (am_w (x5 + 1)), am_I x6] [] h :=
  (am_xs_run am_ms 113 [(.iinc 5 1, 3, []), (.goto (-80), 3, [])] 83 _ _ h (by decide +kernel)).trans rfl
set_option maxHeartbeats 4000000 in
theorem bk_113_89 (x0 : Nat) (x1 : Nat) (x2 : Int) (x3 : Int) (x4 : Int) (x5 : Int) (x6 : am_V) (h : am_H) : am_run am_ms 113 89 [am_R x0, am_R x1, am_I x2, am_I x3, am_I x4, am_I x5, x6] [] h = some (some (am_I x4), h) :=
  (am_xs_run am_ms 113 [(.iload 4, 2, []), (.ireturn, 1, [0])] 89 _ _ h (by decide +kernel)).trans rfl
set_option maxHeartbeats 4000000 in
theorem bk_114_0 (x0 : Nat) (x1 : Nat) (x2 : Int) (h : am_H) : am_run am_ms 114 0 [am_R x0, am_R x1, am_I x2] [] h = ((am_rd h x1 0 (am_w (32 + x2))).bind fun v1 => ((am_isc h x0 9).bind fun _ => ((am_cI 109 [am_R x0, am_R x1, am_I v1] h).bind fun r2 => (bif decide (r2.1 = x2) then am_run am_ms 114 17 [am_R x0, am_R x1, am_I x2] [] r2.2 else some (some (am_I 0), r2.2))))) :=
  (am_xs_run am_ms 114 [(.aload_n 0, 1, []), (.aload_n 1, 1, []), (.aload_n 1, 1, []), (.bipush 32, 2, []), (.iload_n 2, 1, []), (.iadd, 1, []), (.iaload, 1, []), (.invokevirtual 180, 3, [0, 109, 3, 9, 1, 6162, 6164, 51]), (.iload_n 2, 1, []), (.if_icmp .eq 5, 3, []), (.iconst 0, 1, []), (.ireturn, 1, [1])] 0 _ _ h (by decide +kernel)).trans rfl
theorem en_114 (x0 : Nat) (x1 : Nat) (x2 : Int) (h : am_H) : am_call am_ms 114 [am_R x0, am_R x1, am_I x2] h = am_run am_ms 114 0 [am_R x0, am_R x1, am_I x2] [] h := rfl
set_option maxHeartbeats 4000000 in
theorem bk_114_17 (x0 : Nat) (x1 : Nat) (x2 : Int) (h : am_H) : am_run am_ms 114 17 [am_R x0, am_R x1, am_I x2] [] h = ((am_rd h x1 0 (am_w (160 + x2))).bind fun v1 => (bif decide (¬ v1 = (-1)) then am_run am_ms 114 49 [am_R x0, am_R x1, am_I x2] [] h else ((am_rd h x1 0 (am_w (32 + x2))).bind fun v2 => am_run am_ms 114 36 [am_R x0, am_R x1, am_I x2] [am_I v2, am_R x1, am_R x0] h))) :=
  (am_xs_run am_ms 114 [(.aload_n 1, 1, []), (.sipush 160, 3, []), (.iload_n 2, 1, []), (.iadd, 1, []), (.iaload, 1, []), (.iconst (-1), 1, []), (.if_icmp .ne 24, 3, []), (.aload_n 0, 1, []), (.aload_n 1, 1, []), (.aload_n 1, 1, []), (.bipush 32, 2, []), (.iload_n 2, 1, []), (.iadd, 1, []), (.iaload, 1, [])] 17 _ _ h (by decide +kernel)).trans rfl
set_option maxHeartbeats 4000000 in
theorem bk_114_36 (x0 : Nat) (x1 : Nat) (x2 : Int) (y0 : Int) (y1 : Nat) (y2 : Nat) (h : am_H) : am_run am_ms 114 36 [am_R x0, am_R x1, am_I x2] [am_I y0, am_R y1, am_R y2] h = ((am_rd h x1 0 (am_w (288 + x2))).bind fun v1 => ((am_isc h y2 9).bind fun _ => ((am_cI 113 [am_R y2, am_R y1, am_I y0, am_I v1] h).bind fun r2 => (bif decide (r2.1 ≤ 0) then am_run am_ms 114 53 [am_R x0, am_R x1, am_I x2] [] r2.2 else am_run am_ms 114 49 [am_R x0, am_R x1, am_I x2] [] r2.2)))) :=
  (am_xs_run am_ms 114 [(.aload_n 1, 1, []), (.sipush 288, 3, []), (.iload_n 2, 1, []), (.iadd, 1, []), (.iaload, 1, []), (.invokevirtual 184, 3, [0, 113, 4, 9, 1, 6194, 6196, 59]), (.ifCond .le 7, 3, [])] 36 _ _ h (by decide +kernel)).trans rfl
set_option maxHeartbeats 4000000 in
theorem bk_114_49 (x0 : Nat) (x1 : Nat) (x2 : Int) (h : am_H) : am_run am_ms 114 49 [am_R x0, am_R x1, am_I x2] [] h = am_run am_ms 114 54 [am_R x0, am_R x1, am_I x2] [am_I 1] h :=
  (am_xs_run am_ms 114 [(.iconst 1, 1, []), (.goto 4, 3, [])] 49 _ _ h (by decide +kernel)).trans rfl
set_option maxHeartbeats 4000000 in
theorem bk_114_53 (x0 : Nat) (x1 : Nat) (x2 : Int) (h : am_H) : am_run am_ms 114 53 [am_R x0, am_R x1, am_I x2] [] h = am_run am_ms 114 54 [am_R x0, am_R x1, am_I x2] [am_I 0] h :=
  (am_xs_run am_ms 114 [(.iconst 0, 1, [])] 53 _ _ h (by decide +kernel)).trans rfl
set_option maxHeartbeats 4000000 in
theorem bk_114_54 (x0 : Nat) (x1 : Nat) (x2 : Int) (y0 : Int) (h : am_H) : am_run am_ms 114 54 [am_R x0, am_R x1, am_I x2] [am_I y0] h = (bif am_rok 1 y0 then some (some (am_I y0), h) else none) :=
  (am_xs_run am_ms 114 [(.ireturn, 1, [1])] 54 _ _ h (by decide +kernel)).trans rfl
set_option maxHeartbeats 4000000 in
theorem bk_115_0 (x0 : Nat) (x1 : Nat) (x2 : Int) (h : am_H) : am_run am_ms 115 0 [am_R x0, am_R x1, am_I x2, am_K 1, am_K 1] [] h = am_run am_ms 115 5 [am_R x0, am_R x1, am_I x2, am_I 0, am_I 0] [] h :=
  (am_xs_run am_ms 115 [(.iconst 0, 1, []), (.istore_n 3, 1, []), (.iconst 0, 1, []), (.istore 4, 2, [])] 0 _ _ h (by decide +kernel)).trans rfl
theorem en_115 (x0 : Nat) (x1 : Nat) (x2 : Int) (h : am_H) : am_call am_ms 115 [am_R x0, am_R x1, am_I x2] h = am_run am_ms 115 0 [am_R x0, am_R x1, am_I x2, am_K 1, am_K 1] [] h := rfl
set_option maxHeartbeats 4000000 in
theorem bk_115_5 (x0 : Nat) (x1 : Nat) (x2 : Int) (x3 : Int) (x4 : Int) (h : am_H) : am_run am_ms 115 5 [am_R x0, am_R x1, am_I x2, am_I x3, am_I x4] [] h = ((am_rd h x1 0 (am_w (8 + x2))).bind fun v1 => (bif decide (v1 ≤ x4) then am_run am_ms 115 45 [am_R x0, am_R x1, am_I x2, am_I x3, am_I x4] [] h else am_run am_ms 115 25 [am_R x0, am_R x1, am_I x2, am_I x3, am_I x4] [am_I x4, am_I (am_w (16 * x2)), am_R x1, am_R x0, am_I x3] h)) :=
  (am_xs_run am_ms 115 [(.iload 4, 2, []), (.aload_n 1, 1, []), (.bipush 8, 2, []), (.iload_n 2, 1, []), (.iadd, 1, []), (.iaload, 1, []), (.if_icmp .ge 32, 3, []), (.iload_n 3, 1, []), (.aload_n 0, 1, []), (.aload_n 1, 1, []), (.bipush 16, 2, []), (.iload_n 2, 1, []), (.imul, 1, []), (.iload 4, 2, [])] 5 _ _ h (by decide +kernel)).trans rfl
set_option maxHeartbeats 4000000 in
theorem bk_115_25 (x0 : Nat) (x1 : Nat) (x2 : Int) (x3 : Int) (x4 : Int) (y0 : Int) (y1 : Int) (y2 : Nat) (y3 : Nat) (y4 : Int) (h : am_H) : am_run am_ms 115 25 [am_R x0, am_R x1, am_I x2, am_I x3, am_I x4] [am_I y0, am_I y1, am_R y2, am_R y3, am_I y4] h = ((am_isc h y3 9).bind fun _ => ((am_cI 114 [am_R y3, am_R y2, am_I (am_w (y1 + y0))] h).bind fun r1 => (bif decide (r1.1 = 0) then am_run am_ms 115 36 [am_R x0, am_R x1, am_I x2, am_I x3, am_I x4] [am_I y4] r1.2 else am_run am_ms 115 37 [am_R x0, am_R x1, am_I x2, am_I x3, am_I x4] [am_I 1, am_I y4] r1.2))) :=
  (am_xs_run am_ms 115 [(.iadd, 1, []), (.invokevirtual 188, 3, [0, 114, 3, 9, 1, 6190, 6192, 58]), (.ifCond .eq 7, 3, []), (.iconst 1, 1, []), (.goto 4, 3, [])] 25 _ _ h (by decide +kernel)).trans rfl
set_option maxHeartbeats 4000000 in
theorem bk_115_36 (x0 : Nat) (x1 : Nat) (x2 : Int) (x3 : Int) (x4 : Int) (y0 : Int) (h : am_H) : am_run am_ms 115 36 [am_R x0, am_R x1, am_I x2, am_I x3, am_I x4] [am_I y0] h = am_run am_ms 115 37 [am_R x0, am_R x1, am_I x2, am_I x3, am_I x4] [am_I 0, am_I y0] h :=
  (am_xs_run am_ms 115 [(.iconst 0, 1, [])] 36 _ _ h (by decide +kernel)).trans rfl
set_option maxHeartbeats 4000000 in
theorem bk_115_37 (x0 : Nat) (x1 : Nat) (x2 : Int) (x3 : Int) (x4 : Int) (y0 : Int) (y1 : Int) (h : am_H) : am_run am_ms 115 37 [am_R x0, am_R x1, am_I x2, am_I x3, am_I x4] [am_I y0, am_I y1] h = am_run am_ms 115 5 [am_R x0, am_R x1, am_I x2, am_I (am_w (y1 + y0)), am_I (am_w (x4 + 1))] [] h :=
  (am_xs_run am_ms 115 [(.iadd, 1, []), (.istore_n 3, 1, []), (.iinc 4 1, 3, []), (.goto (-37), 3, [])] 37 _ _ h (by decide +kernel)).trans rfl
set_option maxHeartbeats 4000000 in
theorem bk_115_45 (x0 : Nat) (x1 : Nat) (x2 : Int) (x3 : Int) (x4 : Int) (h : am_H) : am_run am_ms 115 45 [am_R x0, am_R x1, am_I x2, am_I x3, am_I x4] [] h = some (some (am_I x3), h) :=
  (am_xs_run am_ms 115 [(.iload_n 3, 1, []), (.ireturn, 1, [0])] 45 _ _ h (by decide +kernel)).trans rfl
set_option maxHeartbeats 4000000 in
theorem bk_116_0 (x0 : Nat) (x1 : Nat) (x2 : Int) (h : am_H) : am_run am_ms 116 0 [am_R x0, am_R x1, am_I x2] [] h = ((am_gfR h x0 9 6).bind fun f1 => ((am_rd h f1 0 1).bind fun v2 => ((am_isc h x0 9).bind fun _ => ((am_cI 115 [am_R x0, am_R x1, am_I x2] h).bind fun r3 => some (some (am_I (am_w (v2 - r3.1))), r3.2))))) :=
  (am_xs_run am_ms 116 [(.aload_n 0, 1, []), (.getfield 17, 3, [9, 6, 5189, 3]), (.iconst 1, 1, []), (.iaload, 1, []), (.aload_n 0, 1, []), (.aload_n 1, 1, []), (.iload_n 2, 1, []), (.invokevirtual 192, 3, [0, 115, 3, 9, 1, 6186, 6188, 57]), (.isub, 1, []), (.ireturn, 1, [0])] 0 _ _ h (by decide +kernel)).trans rfl
theorem en_116 (x0 : Nat) (x1 : Nat) (x2 : Int) (h : am_H) : am_call am_ms 116 [am_R x0, am_R x1, am_I x2] h = am_run am_ms 116 0 [am_R x0, am_R x1, am_I x2] [] h := rfl
set_option maxHeartbeats 4000000 in
theorem bk_117_0 (x0 : Nat) (x1 : Nat) (x2 : Int) (h : am_H) : am_run am_ms 117 0 [am_R x0, am_R x1, am_I x2, am_K 1, am_K 1] [] h = am_run am_ms 117 5 [am_R x0, am_R x1, am_I x2, am_I 0, am_I 0] [] h :=
  (am_xs_run am_ms 117 [(.iconst 0, 1, []), (.istore_n 3, 1, []), (.iconst 0, 1, []), (.istore 4, 2, [])] 0 _ _ h (by decide +kernel)).trans rfl
theorem en_117 (x0 : Nat) (x1 : Nat) (x2 : Int) (h : am_H) : am_call am_ms 117 [am_R x0, am_R x1, am_I x2] h = am_run am_ms 117 0 [am_R x0, am_R x1, am_I x2, am_K 1, am_K 1] [] h := rfl
set_option maxHeartbeats 4000000 in
theorem bk_117_5 (x0 : Nat) (x1 : Nat) (x2 : Int) (x3 : Int) (x4 : Int) (h : am_H) : am_run am_ms 117 5 [am_R x0, am_R x1, am_I x2, am_I x3, am_I x4] [] h = ((am_rd h x1 0 (am_w (8 + x2))).bind fun v1 => (bif decide (v1 ≤ x4) then am_run am_ms 117 57 [am_R x0, am_R x1, am_I x2, am_I x3, am_I x4] [] h else am_run am_ms 117 27 [am_R x0, am_R x1, am_I x2, am_I x3, am_I x4] [am_I x4, am_I (am_w (288 + (am_w (16 * x2)))), am_R x1] h)) :=
  (am_xs_run am_ms 117 [(.iload 4, 2, []), (.aload_n 1, 1, []), (.bipush 8, 2, []), (.iload_n 2, 1, []), (.iadd, 1, []), (.iaload, 1, []), (.if_icmp .ge 44, 3, []), (.aload_n 1, 1, []), (.sipush 288, 3, []), (.bipush 16, 2, []), (.iload_n 2, 1, []), (.imul, 1, []), (.iadd, 1, []), (.iload 4, 2, [])] 5 _ _ h (by decide +kernel)).trans rfl
set_option maxHeartbeats 4000000 in
theorem bk_117_27 (x0 : Nat) (x1 : Nat) (x2 : Int) (x3 : Int) (x4 : Int) (y0 : Int) (y1 : Int) (y2 : Nat) (h : am_H) : am_run am_ms 117 27 [am_R x0, am_R x1, am_I x2, am_I x3, am_I x4] [am_I y0, am_I y1, am_R y2] h = ((am_rd h y2 0 (am_w (y1 + y0))).bind fun v1 => (bif decide (v1 ≤ x3) then am_run am_ms 117 49 [am_R x0, am_R x1, am_I x2, am_I x3, am_I x4] [] h else ((am_rd h x1 0 (am_w ((am_w (288 + (am_w (16 * x2)))) + x4))).bind fun v2 => am_run am_ms 117 50 [am_R x0, am_R x1, am_I x2, am_I x3, am_I x4] [am_I v2] h))) :=
  (am_xs_run am_ms 117 [(.iadd, 1, []), (.iaload, 1, []), (.iload_n 3, 1, []), (.if_icmp .le 19, 3, []), (.aload_n 1, 1, []), (.sipush 288, 3, []), (.bipush 16, 2, []), (.iload_n 2, 1, []), (.imul, 1, []), (.iadd, 1, []), (.iload 4, 2, []), (.iadd, 1, []), (.iaload, 1, []), (.goto 4, 3, [])] 27 _ _ h (by decide +kernel)).trans rfl
set_option maxHeartbeats 4000000 in
theorem bk_117_49 (x0 : Nat) (x1 : Nat) (x2 : Int) (x3 : Int) (x4 : Int) (h : am_H) : am_run am_ms 117 49 [am_R x0, am_R x1, am_I x2, am_I x3, am_I x4] [] h = am_run am_ms 117 50 [am_R x0, am_R x1, am_I x2, am_I x3, am_I x4] [am_I x3] h :=
  (am_xs_run am_ms 117 [(.iload_n 3, 1, [])] 49 _ _ h (by decide +kernel)).trans rfl
set_option maxHeartbeats 4000000 in
theorem bk_117_50 (x0 : Nat) (x1 : Nat) (x2 : Int) (x3 : Int) (x4 : Int) (y0 : Int) (h : am_H) : am_run am_ms 117 50 [am_R x0, am_R x1, am_I x2, am_I x3, am_I x4] [am_I y0] h = am_run am_ms 117 5 [am_R x0, am_R x1, am_I x2, am_I y0, am_I (am_w (x4 + 1))] [] h :=
  (am_xs_run am_ms 117 [(.istore_n 3, 1, []), (.iinc 4 1, 3, []), (.goto (-49), 3, [])] 50 _ _ h (by decide +kernel)).trans rfl
set_option maxHeartbeats 4000000 in
theorem bk_117_57 (x0 : Nat) (x1 : Nat) (x2 : Int) (x3 : Int) (x4 : Int) (h : am_H) : am_run am_ms 117 57 [am_R x0, am_R x1, am_I x2, am_I x3, am_I x4] [] h = ((am_rd h x1 0 (am_w (8 + x2))).bind fun v1 => (bif decide (¬ v1 = 0) then am_run am_ms 117 70 [am_R x0, am_R x1, am_I x2, am_I x3, am_I x4] [] h else am_run am_ms 117 77 [am_R x0, am_R x1, am_I x2, am_I x3, am_I x4] [am_I 0] h)) :=
  (am_xs_run am_ms 117 [(.aload_n 1, 1, []), (.bipush 8, 2, []), (.iload_n 2, 1, []), (.iadd, 1, []), (.iaload, 1, []), (.ifCond .ne 7, 3, []), (.iconst 0, 1, []), (.goto 10, 3, [])] 57 _ _ h (by decide +kernel)).trans rfl
set_option maxHeartbeats 4000000 in
theorem bk_117_70 (x0 : Nat) (x1 : Nat) (x2 : Int) (x3 : Int) (x4 : Int) (h : am_H) : am_run am_ms 117 70 [am_R x0, am_R x1, am_I x2, am_I x3, am_I x4] [] h = ((am_rd h x1 0 419).bind fun v1 => am_run am_ms 117 77 [am_R x0, am_R x1, am_I x2, am_I x3, am_I x4] [am_I (am_w (v1 - x3))] h) :=
  (am_xs_run am_ms 117 [(.aload_n 1, 1, []), (.sipush 419, 3, []), (.iaload, 1, []), (.iload_n 3, 1, []), (.isub, 1, [])] 70 _ _ h (by decide +kernel)).trans rfl
set_option maxHeartbeats 4000000 in
theorem bk_117_77 (x0 : Nat) (x1 : Nat) (x2 : Int) (x3 : Int) (x4 : Int) (y0 : Int) (h : am_H) : am_run am_ms 117 77 [am_R x0, am_R x1, am_I x2, am_I x3, am_I x4] [am_I y0] h = some (some (am_I y0), h) :=
  (am_xs_run am_ms 117 [(.ireturn, 1, [0])] 77 _ _ h (by decide +kernel)).trans rfl
set_option maxHeartbeats 4000000 in
theorem bk_118_0 (x0 : Nat) (x1 : Nat) (x2 : Int) (x3 : Int) (h : am_H) : am_run am_ms 118 0 [am_R x0, am_R x1, am_I x2, am_I x3, am_K 1, am_K 1] [] h = ((am_isc h x0 9).bind fun _ => ((am_cI 115 [am_R x0, am_R x1, am_I x2] h).bind fun r1 => ((am_gfR r1.2 x0 9 6).bind fun f2 => ((am_rd r1.2 f2 0 1).bind fun v3 => am_run am_ms 118 20 [am_R x0, am_R x1, am_I x2, am_I x3, am_I r1.1, am_I (am_w (v3 - r1.1))] [am_I x3] r1.2)))) :=
  (am_xs_run am_ms 118 [(.aload_n 0, 1, []), (.aload_n 1, 1, []), (.iload_n 2, 1, []), (.invokevirtual 192, 3, [0, 115, 3, 9, 1, 6186, 6188, 57]), (.istore 4, 2, []), (.aload_n 0, 1, []), (.getfield 17, 3, [9, 6, 5189, 3]), (.iconst 1, 1, []), (.iaload, 1, []), (.iload 4, 2, []), (.isub, 1, []), (.istore 5, 2, []), (.iload_n 3, 1, [])] 0 _ _ h (by decide +kernel)).trans rfl
theorem en_118 (x0 : Nat) (x1 : Nat) (x2 : Int) (x3 : Int) (h : am_H) : am_call am_ms 118 [am_R x0, am_R x1, am_I x2, am_I x3] h = am_run am_ms 118 0 [am_R x0, am_R x1, am_I x2, am_I x3, am_K 1, am_K 1] [] h := rfl
theorem bk_118_20 (x0 : Nat) (x1 : Nat) (x2 : Int) (x3 : Int) (x4 : Int) (x5 : Int) (y0 : Int) (h : am_H) : am_run am_ms 118 20 [am_R x0, am_R x1, am_I x2, am_I x3, am_I x4, am_I x5] [am_I y0] h = am_run am_ms 118 (am_tsw 20 66 0 2 #[28, 31, 59] y0) [am_R x0, am_R x1, am_I x2, am_I x3, am_I x4, am_I x5] [] h := by
  rw [am_run_eq, show am_code am_ms 118 20 = some (.tableswitch 66 0 2 #[28, 31, 59], 28, []) from by decide +kernel]
  rfl
set_option maxHeartbeats 4000000 in
theorem bk_118_48 (x0 : Nat) (x1 : Nat) (x2 : Int) (x3 : Int) (x4 : Int) (x5 : Int) (h : am_H) : am_run am_ms 118 48 [am_R x0, am_R x1, am_I x2, am_I x3, am_I x4, am_I x5] [] h = some (some (am_I x5), h) :=
  (am_xs_run am_ms 118 [(.iload 5, 2, []), (.ireturn, 1, [0])] 48 _ _ h (by decide +kernel)).trans rfl
set_option maxHeartbeats 4000000 in
theorem bk_118_51 (x0 : Nat) (x1 : Nat) (x2 : Int) (x3 : Int) (x4 : Int) (x5 : Int) (h : am_H) : am_run am_ms 118 51 [am_R x0, am_R x1, am_I x2, am_I x3, am_I x4, am_I x5] [] h = ((am_isc h x0 9).bind fun _ => ((am_cI 117 [am_R x0, am_R x1, am_I x2] h).bind fun r1 => ((am_gfR r1.2 x0 9 6).bind fun f2 => ((am_rd r1.2 f2 0 1).bind fun v3 => am_run am_ms 118 72 [am_R x0, am_R x1, am_I x2, am_I x3, am_I x4, am_I x5] [am_I v3, am_L (am_q ((am_q (1000 * x5)) * r1.1))] r1.2)))) :=
  (am_xs_run am_ms 118 [(.ldc2_w 195, 3, [0, 1000, 6202]), (.iload 5, 2, []), (.i2l, 1, []), (.lmul, 1, []), (.aload_n 0, 1, []), (.aload_n 1, 1, []), (.iload_n 2, 1, []), (.invokevirtual 197, 3, [0, 117, 3, 9, 1, 6203, 6205, 61]), (.i2l, 1, []), (.lmul, 1, []), (.aload_n 0, 1, []), (.getfield 17, 3, [9, 6, 5189, 3]), (.iconst 1, 1, []), (.iaload, 1, [])] 51 _ _ h (by decide +kernel)).trans rfl
set_option maxHeartbeats 4000000 in
theorem bk_118_72 (x0 : Nat) (x1 : Nat) (x2 : Int) (x3 : Int) (x4 : Int) (x5 : Int) (y0 : Int) (y1 : Int) (h : am_H) : am_run am_ms 118 72 [am_R x0, am_R x1, am_I x2, am_I x3, am_I x4, am_I x5] [am_I y0, am_L y1] h = (if am_w (y0 + x4) = 0 then none else some (some (am_I (am_w (am_ldiv y1 (am_w (y0 + x4))))), h)) :=
  (am_xs_run am_ms 118 [(.iload 4, 2, []), (.iadd, 1, []), (.i2l, 1, []), (.ldiv, 1, []), (.l2i, 1, []), (.ireturn, 1, [0])] 72 _ _ h (by decide +kernel)).trans rfl
set_option maxHeartbeats 4000000 in
theorem bk_118_79 (x0 : Nat) (x1 : Nat) (x2 : Int) (x3 : Int) (x4 : Int) (x5 : Int) (h : am_H) : am_run am_ms 118 79 [am_R x0, am_R x1, am_I x2, am_I x3, am_I x4, am_I x5] [] h = ((am_isc h x0 9).bind fun _ => ((am_cI 117 [am_R x0, am_R x1, am_I x2] h).bind fun r1 => some (some (am_I r1.1), r1.2))) :=
  (am_xs_run am_ms 118 [(.aload_n 0, 1, []), (.aload_n 1, 1, []), (.iload_n 2, 1, []), (.invokevirtual 197, 3, [0, 117, 3, 9, 1, 6203, 6205, 61]), (.ireturn, 1, [0])] 79 _ _ h (by decide +kernel)).trans rfl
set_option maxHeartbeats 4000000 in
theorem bk_118_86 (x0 : Nat) (x1 : Nat) (x2 : Int) (x3 : Int) (x4 : Int) (x5 : Int) (h : am_H) : am_run am_ms 118 86 [am_R x0, am_R x1, am_I x2, am_I x3, am_I x4, am_I x5] [] h = ((am_rd h x1 0 (am_w (16 + x2))).bind fun v1 => some (some (am_I (am_w ((am_w (20 * (am_w (1000 - v1)))) + x5))), h)) :=
  (am_xs_run am_ms 118 [(.bipush 20, 2, []), (.sipush 1000, 3, []), (.aload_n 1, 1, []), (.bipush 16, 2, []), (.iload_n 2, 1, []), (.iadd, 1, []), (.iaload, 1, []), (.isub, 1, []), (.imul, 1, []), (.iload 5, 2, []), (.iadd, 1, []), (.ireturn, 1, [0])] 86 _ _ h (by decide +kernel)).trans rfl
set_option maxHeartbeats 4000000 in
theorem bk_119_0 (x0 : Nat) (x1 : Nat) (x2 : Int) (x3 : Int) (h : am_H) : am_run am_ms 119 0 [am_R x0, am_R x1, am_I x2, am_I x3, am_K 1, am_K 1, am_K 1, am_K 1] [] h = am_run am_ms 119 9 [am_R x0, am_R x1, am_I x2, am_I x3, am_I (-1), am_I 0, am_I 0, am_K 1] [] h :=
  (am_xs_run am_ms 119 [(.iconst (-1), 1, []), (.istore 4, 2, []), (.iconst 0, 1, []), (.istore 5, 2, []), (.iconst 0, 1, []), (.istore 6, 2, [])] 0 _ _ h (by decide +kernel)).trans rfl
theorem en_119 (x0 : Nat) (x1 : Nat) (x2 : Int) (x3 : Int) (h : am_H) : am_call am_ms 119 [am_R x0, am_R x1, am_I x2, am_I x3] h = am_run am_ms 119 0 [am_R x0, am_R x1, am_I x2, am_I x3, am_K 1, am_K 1, am_K 1, am_K 1] [] h := rfl
set_option maxHeartbeats 4000000 in
theorem bk_119_9 (x0 : Nat) (x1 : Nat) (x2 : Int) (x3 : Int) (x4 : Int) (x5 : Int) (x6 : Int) (x7 : am_V) (h : am_H) : am_run am_ms 119 9 [am_R x0, am_R x1, am_I x2, am_I x3, am_I x4, am_I x5, am_I x6, x7] [] h = ((am_gfR h x0 9 6).bind fun f1 => ((am_rd h f1 0 0).bind fun v2 => (bif decide (v2 ≤ x6) then am_run am_ms 119 92 [am_R x0, am_R x1, am_I x2, am_I x3, am_I x4, am_I x5, am_I x6, x7] [] h else ((am_rd h x1 0 (am_w (0 + x6))).bind fun v3 => (bif decide (¬ v3 = 3) then am_run am_ms 119 86 [am_R x0, am_R x1, am_I x2, am_I x3, am_I x4, am_I x5, am_I x6, x7] [] h else am_run am_ms 119 31 [am_R x0, am_R x1, am_I x2, am_I x3, am_I x4, am_I x5, am_I x6, x7] [am_I x3] h))))) :=
  (am_xs_run am_ms 119 [(.iload 6, 2, []), (.aload_n 0, 1, []), (.getfield 17, 3, [9, 6, 5189, 3]), (.iconst 0, 1, []), (.iaload, 1, []), (.if_icmp .ge 75, 3, []), (.aload_n 1, 1, []), (.iconst 0, 1, []), (.iload 6, 2, []), (.iadd, 1, []), (.iaload, 1, []), (.iconst 3, 1, []), (.if_icmp .ne 59, 3, []), (.iload_n 3, 1, [])] 9 _ _ h (by decide +kernel)).trans rfl
set_option maxHeartbeats 4000000 in
theorem bk_119_31 (x0 : Nat) (x1 : Nat) (x2 : Int) (x3 : Int) (x4 : Int) (x5 : Int) (x6 : Int) (x7 : am_V) (y0 : Int) (h : am_H) : am_run am_ms 119 31 [am_R x0, am_R x1, am_I x2, am_I x3, am_I x4, am_I x5, am_I x6, x7] [am_I y0] h = ((am_cI 49 [am_I y0, am_I x6] h).bind fun r1 => (bif decide (¬ r1.1 = 0) then am_run am_ms 119 86 [am_R x0, am_R x1, am_I x2, am_I x3, am_I x4, am_I x5, am_I x6, x7] [] r1.2 else ((am_isc r1.2 x0 9).bind fun _ => ((am_cI 116 [am_R x0, am_R x1, am_I x6] r1.2).bind fun r2 => (bif decide (¬ r2.1 = 0) then am_run am_ms 119 52 [am_R x0, am_R x1, am_I x2, am_I x3, am_I x4, am_I x5, am_I x6, x7] [] r2.2 else am_run am_ms 119 86 [am_R x0, am_R x1, am_I x2, am_I x3, am_I x4, am_I x5, am_I x6, x7] [] r2.2))))) :=
  (am_xs_run am_ms 119 [(.iload 6, 2, []), (.invokestatic 111, 3, [1, 49, 2, 0, 1, 6112, 6113]), (.ifCond .ne 50, 3, []), (.aload_n 0, 1, []), (.aload_n 1, 1, []), (.iload 6, 2, []), (.invokevirtual 240, 3, [0, 116, 3, 9, 1, 6182, 6184, 56]), (.ifCond .ne 6, 3, []), (.goto 37, 3, [])] 31 _ _ h (by decide +kernel)).trans rfl
set_option maxHeartbeats 4000000 in
theorem bk_119_52 (x0 : Nat) (x1 : Nat) (x2 : Int) (x3 : Int) (x4 : Int) (x5 : Int) (x6 : Int) (x7 : am_V) (h : am_H) : am_run am_ms 119 52 [am_R x0, am_R x1, am_I x2, am_I x3, am_I x4, am_I x5, am_I x6, x7] [] h = ((am_isc h x0 9).bind fun _ => ((am_cI 118 [am_R x0, am_R x1, am_I x6, am_I x2] h).bind fun r1 => (bif decide (x4 = (-1)) then am_run am_ms 119 78 [am_R x0, am_R x1, am_I x2, am_I x3, am_I x4, am_I x5, am_I x6, am_I r1.1] [] r1.2 else (bif decide (x5 < r1.1) then am_run am_ms 119 78 [am_R x0, am_R x1, am_I x2, am_I x3, am_I x4, am_I x5, am_I x6, am_I r1.1] [] r1.2 else am_run am_ms 119 86 [am_R x0, am_R x1, am_I x2, am_I x3, am_I x4, am_I x5, am_I x6, am_I r1.1] [] r1.2)))) :=
  (am_xs_run am_ms 119 [(.aload_n 0, 1, []), (.aload_n 1, 1, []), (.iload 6, 2, []), (.iload_n 2, 1, []), (.invokevirtual 243, 3, [0, 118, 4, 9, 1, 6198, 6200, 60]), (.istore 7, 2, []), (.iload 4, 2, []), (.iconst (-1), 1, []), (.if_icmp .eq 13, 3, []), (.iload 7, 2, []), (.iload 5, 2, []), (.if_icmp .gt 6, 3, []), (.goto 11, 3, [])] 52 _ _ h (by decide +kernel)).trans rfl
set_option maxHeartbeats 4000000 in
theorem bk_119_78 (x0 : Nat) (x1 : Nat) (x2 : Int) (x3 : Int) (x4 : Int) (x5 : Int) (x6 : Int) (x7 : Int) (h : am_H) : am_run am_ms 119 78 [am_R x0, am_R x1, am_I x2, am_I x3, am_I x4, am_I x5, am_I x6, am_I x7] [] h = am_run am_ms 119 86 [am_R x0, am_R x1, am_I x2, am_I x3, am_I x6, am_I x7, am_I x6, am_I x7] [] h :=
  (am_xs_run am_ms 119 [(.iload 6, 2, []), (.istore 4, 2, []), (.iload 7, 2, []), (.istore 5, 2, [])] 78 _ _ h (by decide +kernel)).trans rfl
set_option maxHeartbeats 4000000 in
theorem bk_119_86 (x0 : Nat) (x1 : Nat) (x2 : Int) (x3 : Int) (x4 : Int) (x5 : Int) (x6 : Int) (x7 : am_V) (h : am_H) : am_run am_ms 119 86 [am_R x0, am_R x1, am_I x2, am_I x3, am_I x4, am_I x5, am_I x6, x7] [] h = am_run am_ms 119 9 [am_R x0, am_R x1, am_I x2, am_I x3, am_I x4, am_I x5, am_I (am_w (x6 + 1)), x7] [] h :=
  (am_xs_run am_ms 119 [(.iinc 6 1, 3, []), (.goto (-80), 3, [])] 86 _ _ h (by decide +kernel)).trans rfl
set_option maxHeartbeats 4000000 in
theorem bk_119_92 (x0 : Nat) (x1 : Nat) (x2 : Int) (x3 : Int) (x4 : Int) (x5 : Int) (x6 : Int) (x7 : am_V) (h : am_H) : am_run am_ms 119 92 [am_R x0, am_R x1, am_I x2, am_I x3, am_I x4, am_I x5, am_I x6, x7] [] h = some (some (am_I x4), h) :=
  (am_xs_run am_ms 119 [(.iload 4, 2, []), (.ireturn, 1, [0])] 92 _ _ h (by decide +kernel)).trans rfl
