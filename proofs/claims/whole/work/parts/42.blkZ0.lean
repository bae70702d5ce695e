/-! ===== BLOCK LAWS: printed by a program of ours ===== -/
set_option maxHeartbeats 4000000 in
theorem bk_6_0 (x0 : Nat) (x1 : Nat) (h : am_H) : am_run am_ms 6 0 [am_R x0, am_R x1] [] h = ((am_cV 4 [am_R h.2.1] (am_push h (am_ob 1 (am_dfl 1)) 14)).bind fun h1 => ((am_pf h1 x0 7 0 (am_R h.2.1)).bind fun h2 => ((am_cV 5 [am_R h2.2.1] (am_push h2 (am_ob 0 (am_dfl 0)) 1)).bind fun h3 => ((am_pf h3 x0 7 2 (am_R h2.2.1)).bind fun h4 => am_run am_ms 6 28 [am_R x0, am_R x1] [am_R x1, am_R x0] h4)))) :=
  (am_xs_run am_ms 6 [(.aload_n 0, 1, []), (.invokespecial 3, 3, [10, 0, 1, 0, 0, 1214, 1030, 1031]), (.aload_n 0, 1, []), (.new 9, 3, [1, 14, 1215, 1118, 1005]), (.dup, 1, []), (.invokespecial 11, 3, [3, 4, 1, 0, 0, 1216, 1120]), (.putfield 12, 3, [7, 0, 1229, 3]), (.aload_n 0, 1, []), (.new 18, 3, [0, 1, 1217, 1218, 1008]), (.dup, 1, []), (.invokespecial 20, 3, [3, 5, 1, 0, 0, 1219, 1220]), (.putfield 21, 3, [7, 2, 1232, 3]), (.aload_n 0, 1, []), (.aload_n 1, 1, [])] 0 _ _ h (by decide +kernel)).trans rfl
theorem en_6 (x0 : Nat) (x1 : Nat) (h : am_H) : am_call am_ms 6 [am_R x0, am_R x1] h = am_run am_ms 6 0 [am_R x0, am_R x1] [] h := rfl
set_option maxHeartbeats 4000000 in
theorem bk_6_28 (x0 : Nat) (x1 : Nat) (y0 : Nat) (y1 : Nat) (h : am_H) : am_run am_ms 6 28 [am_R x0, am_R x1] [am_R y0, am_R y1] h = ((am_pf h y1 7 1 (am_R y0)).bind fun h1 => some (none, h1)) :=
  (am_xs_run am_ms 6 [(.putfield 25, 3, [7, 1, 1231, 3]), (.return_, 1, [])] 28 _ _ h (by decide +kernel)).trans rfl
set_option maxHeartbeats 4000000 in
theorem bk_7_0 (x0 : Nat) (h : am_H) : am_run am_ms 7 0 [am_R x0] [] h = (if 0 ≤ 41 ∧ 41 ≤ 100000 then ((am_pf (am_push h (am_ra 4 (41 : Int).toNat (fun _ => none)) (41 : Int).toNat) x0 2 0 (am_R h.2.1)).bind fun h1 => some (none, h1)) else none) :=
  (am_xs_run am_ms 7 [(.aload_n 0, 1, []), (.invokespecial 3, 3, [10, 0, 1, 0, 0, 2020, 1030, 1031]), (.aload_n 0, 1, []), (.bipush 41, 2, []), (.anewarray 9, 3, [4, 2021, 2022]), (.putfield 11, 3, [2, 0, 2023, 3]), (.return_, 1, [])] 0 _ _ h (by decide +kernel)).trans rfl
theorem en_7 (x0 : Nat) (h : am_H) : am_call am_ms 7 [am_R x0] h = am_run am_ms 7 0 [am_R x0] [] h := rfl
set_option maxHeartbeats 4000000 in
theorem bk_8_0 (x0 : Nat) (h : am_H) : am_run am_ms 8 0 [am_R x0, am_K 1] [] h = ((am_cV 0 [am_R h.2.1] (am_push h (am_ob 6 (am_dfl 6)) 2)).bind fun h1 => ((am_pf h1 x0 8 0 (am_R h.2.1)).bind fun h2 => ((am_gfR (am_push h2 (am_ob 4 (am_dfl 4)) 10) x0 8 0).bind fun f3 => ((am_cV 2 [am_R h2.2.1, am_R f3] (am_push h2 (am_ob 4 (am_dfl 4)) 10)).bind fun h4 => ((am_pf h4 x0 8 1 (am_R h2.2.1)).bind fun h5 => am_run am_ms 8 30 [am_R x0, am_K 1] [] h5))))) :=
  (am_xs_run am_ms 8 [(.aload_n 0, 1, []), (.invokespecial 1, 3, [10, 0, 1, 0, 0, 1029, 1030, 1031]), (.aload_n 0, 1, []), (.new 7, 3, [6, 2, 1032, 1033, 1002]), (.dup, 1, []), (.invokespecial 9, 3, [3, 0, 1, 0, 0, 1034, 1035]), (.putfield 10, 3, [8, 0, 2037, 3]), (.aload_n 0, 1, []), (.new 16, 3, [4, 10, 1049, 1050, 1003]), (.dup, 1, []), (.aload_n 0, 1, []), (.getfield 10, 3, [8, 0, 2037, 3]), (.invokespecial 18, 3, [2, 2, 2, 0, 0, 1051, 1052]), (.putfield 21, 3, [8, 1, 2038, 3])] 0 _ _ h (by decide +kernel)).trans rfl
theorem en_8 (x0 : Nat) (h : am_H) : am_call am_ms 8 [am_R x0] h = am_run am_ms 8 0 [am_R x0, am_K 1] [] h := rfl
set_option maxHeartbeats 4000000 in
theorem bk_8_30 (x0 : Nat) (h : am_H) : am_run am_ms 8 30 [am_R x0, am_K 1] [] h = (if 0 ≤ 4 ∧ 4 ≤ 100000 then ((am_pf (am_push h (am_ra 3 (4 : Int).toNat (fun _ => none)) (4 : Int).toNat) x0 8 2 (am_R h.2.1)).bind fun h1 => ((am_cV 4 [am_R h1.2.1] (am_push h1 (am_ob 1 (am_dfl 1)) 14)).bind fun h2 => ((am_pf h2 x0 8 4 (am_R h1.2.1)).bind fun h3 => ((am_cV 4 [am_R h3.2.1] (am_push h3 (am_ob 1 (am_dfl 1)) 14)).bind fun h4 => ((am_pf h4 x0 8 5 (am_R h3.2.1)).bind fun h5 => am_run am_ms 8 60 [am_R x0, am_K 1] [] h5))))) else none) :=
  (am_xs_run am_ms 8 [(.aload_n 0, 1, []), (.iconst 4, 1, []), (.anewarray 25, 3, [3, 1115, 1116]), (.putfield 27, 3, [8, 2, 2039, 3]), (.aload_n 0, 1, []), (.new 31, 3, [1, 14, 1117, 1118, 1005]), (.dup, 1, []), (.invokespecial 33, 3, [3, 4, 1, 0, 0, 1119, 1120]), (.putfield 34, 3, [8, 4, 2041, 3]), (.aload_n 0, 1, []), (.new 31, 3, [1, 14, 1117, 1118, 1005]), (.dup, 1, []), (.invokespecial 33, 3, [3, 4, 1, 0, 0, 1119, 1120]), (.putfield 38, 3, [8, 5, 2042, 3])] 30 _ _ h (by decide +kernel)).trans rfl
set_option maxHeartbeats 4000000 in
theorem bk_8_60 (x0 : Nat) (h : am_H) : am_run am_ms 8 60 [am_R x0, am_K 1] [] h = ((am_cV 4 [am_R h.2.1] (am_push h (am_ob 1 (am_dfl 1)) 14)).bind fun h1 => ((am_pf h1 x0 8 6 (am_R h.2.1)).bind fun h2 => ((am_gfR (am_push h2 (am_ob 7 (am_dfl 7)) 8) x0 8 5).bind fun f3 => ((am_cV 6 [am_R h2.2.1, am_R f3] (am_push h2 (am_ob 7 (am_dfl 7)) 8)).bind fun h4 => ((am_pf h4 x0 8 8 (am_R h2.2.1)).bind fun h5 => am_run am_ms 8 90 [am_R x0, am_K 1] [am_R h5.2.1, am_R x0] (am_push h5 (am_ob 2 (am_dfl 2)) 3)))))) :=
  (am_xs_run am_ms 8 [(.aload_n 0, 1, []), (.new 31, 3, [1, 14, 1117, 1118, 1005]), (.dup, 1, []), (.invokespecial 33, 3, [3, 4, 1, 0, 0, 1119, 1120]), (.putfield 41, 3, [8, 6, 2043, 3]), (.aload_n 0, 1, []), (.new 44, 3, [7, 8, 1209, 1210, 1007]), (.dup, 1, []), (.aload_n 0, 1, []), (.getfield 38, 3, [8, 5, 2042, 3]), (.invokespecial 46, 3, [2, 6, 2, 0, 0, 1211, 1212]), (.putfield 49, 3, [8, 8, 2045, 3]), (.aload_n 0, 1, []), (.new 53, 3, [2, 3, 2015, 2016, 1009])] 60 _ _ h (by decide +kernel)).trans rfl
set_option maxHeartbeats 4000000 in
theorem bk_8_90 (x0 : Nat) (y0 : Nat) (y1 : Nat) (h : am_H) : am_run am_ms 8 90 [am_R x0, am_K 1] [am_R y0, am_R y1] h = ((am_cV 7 [am_R y0] h).bind fun h1 => ((am_pf h1 y1 8 9 (am_R y0)).bind fun h2 => ((am_cV 5 [am_R h2.2.1] (am_push h2 (am_ob 0 (am_dfl 0)) 1)).bind fun h3 => ((am_pf h3 x0 8 10 (am_R h2.2.1)).bind fun h4 => (if 0 ≤ 4 ∧ 4 ≤ 100000 then ((am_pf (am_push h4 (am_ar 0 (4 : Int).toNat (fun _ => 0)) (4 : Int).toNat) x0 8 11 (am_R h4.2.1)).bind fun h5 => am_run am_ms 8 117 [am_R x0, am_I 0] [] h5) else none))))) :=
  (am_xs_run am_ms 8 [(.dup, 1, []), (.invokespecial 55, 3, [3, 7, 1, 0, 0, 2017, 2018]), (.putfield 56, 3, [8, 9, 2046, 3]), (.aload_n 0, 1, []), (.new 60, 3, [0, 1, 2034, 1218, 1008]), (.dup, 1, []), (.invokespecial 62, 3, [3, 5, 1, 0, 0, 2035, 1220]), (.putfield 63, 3, [8, 10, 2047, 3]), (.aload_n 0, 1, []), (.iconst 4, 1, []), (.newarray .int, 2, [1048]), (.putfield 67, 3, [8, 11, 2048, 3]), (.iconst 0, 1, []), (.istore_n 1, 1, [])] 90 _ _ h (by decide +kernel)).trans rfl
set_option maxHeartbeats 4000000 in
theorem bk_8_117 (x0 : Nat) (x1 : Int) (h : am_H) : am_run am_ms 8 117 [am_R x0, am_I x1] [] h = (bif decide (4 ≤ x1) then am_run am_ms 8 141 [am_R x0, am_I x1] [] h else ((am_gfR h x0 8 2).bind fun f1 => ((am_cV 1 [am_R h.2.1] (am_push h (am_ob 5 (am_dfl 5)) 4)).bind fun h2 => ((am_wrr h2 f1 x1 h.2.1).bind fun h3 => am_run am_ms 8 117 [am_R x0, am_I (am_w (x1 + 1))] [] h3)))) :=
  (am_xs_run am_ms 8 [(.iload_n 1, 1, []), (.iconst 4, 1, []), (.if_icmp .ge 22, 3, []), (.aload_n 0, 1, []), (.getfield 27, 3, [8, 2, 2039, 3]), (.iload_n 1, 1, []), (.new 25, 3, [5, 4, 1115, 1056, 1004]), (.dup, 1, []), (.invokespecial 71, 3, [3, 1, 1, 0, 0, 2036, 1058]), (.aastore, 1, []), (.iinc 1 1, 3, []), (.goto (-21), 3, [])] 117 _ _ h (by decide +kernel)).trans rfl
set_option maxHeartbeats 4000000 in
theorem bk_8_141 (x0 : Nat) (x1 : Int) (h : am_H) : am_run am_ms 8 141 [am_R x0, am_I x1] [] h = some (none, h) :=
  (am_xs_run am_ms 8 [(.return_, 1, [])] 141 _ _ h (by decide +kernel)).trans rfl
set_option maxHeartbeats 4000000 in
theorem bk_12_0 (x0 : Nat) (x1 : Int) (x2 : Int) (x3 : Int) (x4 : Int) (x5 : Int) (h : am_H) : am_run am_ms 12 0 [am_R x0, am_I x1, am_I x2, am_I x3, am_I x4, am_I x5, am_K 1] [] h = ((am_cI 10 [am_I x1] h).bind fun r1 => ((am_cI 10 [am_I x2] r1.2).bind fun r2 => ((am_cI 10 [am_I x3] r2.2).bind fun r3 => ((am_cI 10 [am_I x4] r3.2).bind fun r4 => ((am_cI 10 [am_I x5] r4.2).bind fun r5 => am_run am_ms 12 26 [am_R x0, am_I x1, am_I x2, am_I x3, am_I x4, am_I x5, am_K 1] [am_I (am_w ((am_w ((am_w ((am_w (r1.1 + r2.1)) + r3.1)) + r4.1)) + r5.1))] r5.2))))) :=
  (am_xs_run am_ms 12 [(.iload_n 1, 1, []), (.invokestatic 72, 3, [1, 10, 1, 0, 1, 2078, 2079]), (.iload_n 2, 1, []), (.invokestatic 72, 3, [1, 10, 1, 0, 1, 2078, 2079]), (.iadd, 1, []), (.iload_n 3, 1, []), (.invokestatic 72, 3, [1, 10, 1, 0, 1, 2078, 2079]), (.iadd, 1, []), (.iload 4, 2, []), (.invokestatic 72, 3, [1, 10, 1, 0, 1, 2078, 2079]), (.iadd, 1, []), (.iload 5, 2, []), (.invokestatic 72, 3, [1, 10, 1, 0, 1, 2078, 2079]), (.iadd, 1, [])] 0 _ _ h (by decide +kernel)).trans rfl
theorem en_12 (x0 : Nat) (x1 : Int) (x2 : Int) (x3 : Int) (x4 : Int) (x5 : Int) (h : am_H) : am_call am_ms 12 [am_R x0, am_I x1, am_I x2, am_I x3, am_I x4, am_I x5] h = am_run am_ms 12 0 [am_R x0, am_I x1, am_I x2, am_I x3, am_I x4, am_I x5, am_K 1] [] h := rfl
set_option maxHeartbeats 4000000 in
theorem bk_12_26 (x0 : Nat) (x1 : Int) (x2 : Int) (x3 : Int) (x4 : Int) (x5 : Int) (y0 : Int) (h : am_H) : am_run am_ms 12 26 [am_R x0, am_I x1, am_I x2, am_I x3, am_I x4, am_I x5, am_K 1] [am_I y0] h = ((am_gfR h x0 8 0).bind fun f1 => ((am_gfI h f1 6 1).bind fun f2 => (bif decide ((am_w (f2 + y0)) ≤ 240) then am_run am_ms 12 46 [am_R x0, am_I x1, am_I x2, am_I x3, am_I x4, am_I x5, am_I y0] [] h else some (some (am_I (-1)), h)))) :=
  (am_xs_run am_ms 12 [(.istore 6, 2, []), (.aload_n 0, 1, []), (.getfield 10, 3, [8, 0, 2037, 3]), (.getfield 76, 3, [6, 1, 1040, 0]), (.iload 6, 2, []), (.iadd, 1, []), (.sipush 240, 3, []), (.if_icmp .le 5, 3, []), (.iconst (-1), 1, []), (.ireturn, 1, [0])] 26 _ _ h (by decide +kernel)).trans rfl
set_option maxHeartbeats 4000000 in
theorem bk_12_46 (x0 : Nat) (x1 : Int) (x2 : Int) (x3 : Int) (x4 : Int) (x5 : Int) (x6 : Int) (h : am_H) : am_run am_ms 12 46 [am_R x0, am_I x1, am_I x2, am_I x3, am_I x4, am_I x5, am_I x6] [] h = ((am_gfR h x0 8 0).bind fun f1 => ((am_isc h f1 6).bind fun _ => ((am_cV 11 [am_R f1, am_I x1] h).bind fun h2 => ((am_gfR h2 x0 8 0).bind fun f3 => ((am_isc h2 f3 6).bind fun _ => ((am_cV 11 [am_R f3, am_I x2] h2).bind fun h4 => ((am_gfR h4 x0 8 0).bind fun f5 => ((am_isc h4 f5 6).bind fun _ => ((am_cV 11 [am_R f5, am_I x3] h4).bind fun h6 => ((am_gfR h6 x0 8 0).bind fun f7 => am_run am_ms 12 74 [am_R x0, am_I x1, am_I x2, am_I x3, am_I x4, am_I x5, am_I x6] [am_R f7] h6)))))))))) :=
  (am_xs_run am_ms 12 [(.aload_n 0, 1, []), (.getfield 10, 3, [8, 0, 2037, 3]), (.iload_n 1, 1, []), (.invokevirtual 80, 3, [0, 11, 2, 6, 0, 2081, 2082, 2083]), (.aload_n 0, 1, []), (.getfield 10, 3, [8, 0, 2037, 3]), (.iload_n 2, 1, []), (.invokevirtual 80, 3, [0, 11, 2, 6, 0, 2081, 2082, 2083]), (.aload_n 0, 1, []), (.getfield 10, 3, [8, 0, 2037, 3]), (.iload_n 3, 1, []), (.invokevirtual 80, 3, [0, 11, 2, 6, 0, 2081, 2082, 2083]), (.aload_n 0, 1, []), (.getfield 10, 3, [8, 0, 2037, 3])] 46 _ _ h (by decide +kernel)).trans rfl
set_option maxHeartbeats 4000000 in
theorem bk_12_74 (x0 : Nat) (x1 : Int) (x2 : Int) (x3 : Int) (x4 : Int) (x5 : Int) (x6 : Int) (y0 : Nat) (h : am_H) : am_run am_ms 12 74 [am_R x0, am_I x1, am_I x2, am_I x3, am_I x4, am_I x5, am_I x6] [am_R y0] h = ((am_isc h y0 6).bind fun _ => ((am_cV 11 [am_R y0, am_I x4] h).bind fun h1 => ((am_gfR h1 x0 8 0).bind fun f2 => ((am_isc h1 f2 6).bind fun _ => ((am_cV 11 [am_R f2, am_I x5] h1).bind fun h3 => ((am_gfR h3 x0 8 0).bind fun f4 => ((am_gfI h3 f4 6 1).bind fun f5 => some (some (am_I f5), h3)))))))) :=
  (am_xs_run am_ms 12 [(.iload 4, 2, []), (.invokevirtual 80, 3, [0, 11, 2, 6, 0, 2081, 2082, 2083]), (.aload_n 0, 1, []), (.getfield 10, 3, [8, 0, 2037, 3]), (.iload 5, 2, []), (.invokevirtual 80, 3, [0, 11, 2, 6, 0, 2081, 2082, 2083]), (.aload_n 0, 1, []), (.getfield 10, 3, [8, 0, 2037, 3]), (.getfield 76, 3, [6, 1, 1040, 0]), (.ireturn, 1, [0])] 74 _ _ h (by decide +kernel)).trans rfl
set_option maxHeartbeats 4000000 in
theorem bk_16_0 (x0 : Nat) (x1 : Int) (h : am_H) : am_run am_ms 16 0 [am_R x0, am_I x1] [] h = (bif decide (x1 < 0) then am_run am_ms 16 15 [am_R x0, am_I x1] [] h else ((am_gfR h x0 8 0).bind fun f1 => ((am_gfI h f1 6 1).bind fun f2 => (bif decide (x1 ≤ f2) then am_run am_ms 16 17 [am_R x0, am_I x1] [] h else am_run am_ms 16 15 [am_R x0, am_I x1] [] h)))) :=
  (am_xs_run am_ms 16 [(.iload_n 1, 1, []), (.ifCond .lt 14, 3, []), (.iload_n 1, 1, []), (.aload_n 0, 1, []), (.getfield 10, 3, [8, 0, 2037, 3]), (.getfield 76, 3, [6, 1, 1040, 0]), (.if_icmp .le 5, 3, [])] 0 _ _ h (by decide +kernel)).trans rfl
theorem en_16 (x0 : Nat) (x1 : Int) (h : am_H) : am_call am_ms 16 [am_R x0, am_I x1] h = am_run am_ms 16 0 [am_R x0, am_I x1] [] h := rfl
set_option maxHeartbeats 4000000 in
theorem bk_16_15 (x0 : Nat) (x1 : Int) (h : am_H) : am_run am_ms 16 15 [am_R x0, am_I x1] [] h = some (some (am_I 0), h) :=
  (am_xs_run am_ms 16 [(.iconst 0, 1, []), (.ireturn, 1, [1])] 15 _ _ h (by decide +kernel)).trans rfl
set_option maxHeartbeats 4000000 in
theorem bk_16_17 (x0 : Nat) (x1 : Int) (h : am_H) : am_run am_ms 16 17 [am_R x0, am_I x1] [] h = ((am_gfR h x0 8 0).bind fun f1 => ((am_pf h f1 6 1 (am_I x1)).bind fun h2 => some (some (am_I 1), h2))) :=
  (am_xs_run am_ms 16 [(.aload_n 0, 1, []), (.getfield 10, 3, [8, 0, 2037, 3]), (.iload_n 1, 1, []), (.putfield 76, 3, [6, 1, 1040, 0]), (.iconst 1, 1, []), (.ireturn, 1, [1])] 17 _ _ h (by decide +kernel)).trans rfl
set_option maxHeartbeats 4000000 in
theorem bk_39_0 (x0 : Nat) (x1 : Int) (h : am_H) : am_run am_ms 39 0 [am_R x0, am_I x1] [] h = (bif decide (¬ x1 = 0) then am_run am_ms 39 12 [am_R x0, am_I x1] [] h else ((am_gfR h x0 8 1).bind fun f1 => ((am_isc h f1 4).bind fun _ => ((am_cI 33 [am_R f1] h).bind fun r2 => some (some (am_I r2.1), r2.2))))) :=
  (am_xs_run am_ms 39 [(.iload_n 1, 1, []), (.ifCond .ne 11, 3, []), (.aload_n 0, 1, []), (.getfield 21, 3, [8, 1, 2038, 3]), (.invokevirtual 84, 3, [0, 33, 1, 4, 1, 2093, 2094, 2095]), (.ireturn, 1, [0])] 0 _ _ h (by decide +kernel)).trans rfl
theorem en_39 (x0 : Nat) (x1 : Int) (h : am_H) : am_call am_ms 39 [am_R x0, am_I x1] h = am_run am_ms 39 0 [am_R x0, am_I x1] [] h := rfl
set_option maxHeartbeats 4000000 in
theorem bk_39_12 (x0 : Nat) (x1 : Int) (h : am_H) : am_run am_ms 39 12 [am_R x0, am_I x1] [] h = (bif decide (¬ x1 = 1) then am_run am_ms 39 27 [am_R x0, am_I x1] [] h else ((am_gfR h x0 8 1).bind fun f1 => ((am_isc h f1 4).bind fun _ => ((am_cI 38 [am_R f1] h).bind fun r2 => am_run am_ms 39 29 [am_R x0, am_I x1] [am_I r2.1] r2.2)))) :=
  (am_xs_run am_ms 39 [(.iload_n 1, 1, []), (.iconst 1, 1, []), (.if_icmp .ne 13, 3, []), (.aload_n 0, 1, []), (.getfield 21, 3, [8, 1, 2038, 3]), (.invokevirtual 88, 3, [0, 38, 1, 4, 1, 2227, 2228, 2229]), (.goto 5, 3, [])] 12 _ _ h (by decide +kernel)).trans rfl
set_option maxHeartbeats 4000000 in
theorem bk_39_27 (x0 : Nat) (x1 : Int) (h : am_H) : am_run am_ms 39 27 [am_R x0, am_I x1] [] h = am_run am_ms 39 29 [am_R x0, am_I x1] [am_I (-2)] h :=
  (am_xs_run am_ms 39 [(.bipush (-2), 2, [])] 27 _ _ h (by decide +kernel)).trans rfl
set_option maxHeartbeats 4000000 in
theorem bk_39_29 (x0 : Nat) (x1 : Int) (y0 : Int) (h : am_H) : am_run am_ms 39 29 [am_R x0, am_I x1] [am_I y0] h = some (some (am_I y0), h) :=
  (am_xs_run am_ms 39 [(.ireturn, 1, [0])] 29 _ _ h (by decide +kernel)).trans rfl
set_option maxHeartbeats 4000000 in
theorem bk_61_0 (x0 : Nat) (h : am_H) : am_run am_ms 61 0 [am_R x0] [] h = ((am_pf h x0 2 1 (am_I 0)).bind fun h1 => ((am_pf h1 x0 2 2 (am_I 0)).bind fun h2 => some (none, h2))) :=
  (am_xs_run am_ms 61 [(.aload_n 0, 1, []), (.iconst 0, 1, []), (.putfield 15, 3, [2, 1, 2024, 0]), (.aload_n 0, 1, []), (.iconst 0, 1, []), (.putfield 19, 3, [2, 2, 2025, 0]), (.return_, 1, [])] 0 _ _ h (by decide +kernel)).trans rfl
theorem en_61 (x0 : Nat) (h : am_H) : am_call am_ms 61 [am_R x0] h = am_run am_ms 61 0 [am_R x0] [] h := rfl
set_option maxHeartbeats 4000000 in
theorem bk_103_0 (x0 : Nat) (h : am_H) : am_run am_ms 103 0 [am_R x0, am_K 1] [] h = ((am_gfR h x0 8 1).bind fun f1 => ((am_isc h f1 4).bind fun _ => ((am_cI 33 [am_R f1] h).bind fun r2 => (bif decide (r2.1 = (-1)) then am_run am_ms 103 13 [am_R x0, am_K 1] [] r2.2 else some (some (am_I (-1)), r2.2))))) :=
  (am_xs_run am_ms 103 [(.aload_n 0, 1, []), (.getfield 21, 3, [8, 1, 2038, 3]), (.invokevirtual 84, 3, [0, 33, 1, 4, 1, 2093, 2094, 2095]), (.iconst (-1), 1, []), (.if_icmp .eq 5, 3, []), (.iconst (-1), 1, []), (.ireturn, 1, [0])] 0 _ _ h (by decide +kernel)).trans rfl
theorem en_103 (x0 : Nat) (h : am_H) : am_call am_ms 103 [am_R x0] h = am_run am_ms 103 0 [am_R x0, am_K 1] [] h := rfl
set_option maxHeartbeats 4000000 in
theorem bk_103_13 (x0 : Nat) (h : am_H) : am_run am_ms 103 13 [am_R x0, am_K 1] [] h = ((am_gfR h x0 8 0).bind fun f1 => ((am_pf h f1 6 1 (am_I 0)).bind fun h2 => ((am_gfR h2 x0 8 9).bind fun f3 => ((am_isc h2 f3 2).bind fun _ => ((am_cV 61 [am_R f3] h2).bind fun h4 => ((am_pf h4 x0 8 7 (am_I 0)).bind fun h5 => ((am_gfR h5 x0 8 4).bind fun f6 => ((am_gfR h5 x0 8 1).bind fun f7 => am_run am_ms 103 41 [am_R x0, am_K 1] [am_R f7, am_R f6] h5)))))))) :=
  (am_xs_run am_ms 103 [(.aload_n 0, 1, []), (.getfield 10, 3, [8, 0, 2037, 3]), (.iconst 0, 1, []), (.putfield 76, 3, [6, 1, 1040, 0]), (.aload_n 0, 1, []), (.getfield 56, 3, [8, 9, 2046, 3]), (.invokevirtual 97, 3, [0, 61, 1, 2, 0, 3017, 3018, 3019]), (.aload_n 0, 1, []), (.iconst 0, 1, []), (.putfield 100, 3, [8, 7, 2044, 1]), (.aload_n 0, 1, []), (.getfield 34, 3, [8, 4, 2041, 3]), (.aload_n 0, 1, []), (.getfield 21, 3, [8, 1, 2038, 3])] 13 _ _ h (by decide +kernel)).trans rfl
set_option maxHeartbeats 4000000 in
theorem bk_103_41 (x0 : Nat) (y0 : Nat) (y1 : Nat) (h : am_H) : am_run am_ms 103 41 [am_R x0, am_K 1] [am_R y0, am_R y1] h = ((am_gfR h y0 4 0).bind fun f1 => ((am_isc h y1 1).bind fun _ => ((am_cV 68 [am_R y1, am_R f1] h).bind fun h2 => am_run am_ms 103 49 [am_R x0, am_I 0] [] h2))) :=
  (am_xs_run am_ms 103 [(.getfield 104, 3, [4, 0, 1080, 3]), (.invokevirtual 107, 3, [0, 68, 2, 1, 0, 3021, 3022, 3023]), (.iconst 0, 1, []), (.istore_n 1, 1, [])] 41 _ _ h (by decide +kernel)).trans rfl
set_option maxHeartbeats 4000000 in
theorem bk_103_49 (x0 : Nat) (x1 : Int) (h : am_H) : am_run am_ms 103 49 [am_R x0, am_I x1] [] h = ((am_gfR h x0 8 1).bind fun f1 => ((am_gfI h f1 4 3).bind fun f2 => (bif decide (f2 ≤ x1) then am_run am_ms 103 96 [am_R x0, am_I x1] [] h else ((am_gfR h x0 8 4).bind fun f3 => ((am_gfR h x0 8 1).bind fun f4 => ((am_gfR h f4 4 1).bind fun f5 => ((am_rd h f5 0 x1).bind fun v6 => ((am_gfR h x0 8 1).bind fun f7 => am_run am_ms 103 77 [am_R x0, am_I x1] [am_R f7, am_I v6, am_R f3] h)))))))) :=
  (am_xs_run am_ms 103 [(.iload_n 1, 1, []), (.aload_n 0, 1, []), (.getfield 21, 3, [8, 1, 2038, 3]), (.getfield 111, 3, [4, 3, 1086, 0]), (.if_icmp .ge 39, 3, []), (.aload_n 0, 1, []), (.getfield 34, 3, [8, 4, 2041, 3]), (.aload_n 0, 1, []), (.getfield 21, 3, [8, 1, 2038, 3]), (.getfield 114, 3, [4, 1, 1082, 3]), (.iload_n 1, 1, []), (.iaload, 1, []), (.aload_n 0, 1, []), (.getfield 21, 3, [8, 1, 2038, 3])] 49 _ _ h (by decide +kernel)).trans rfl
set_option maxHeartbeats 4000000 in
theorem bk_103_77 (x0 : Nat) (x1 : Int) (y0 : Nat) (y1 : Int) (y2 : Nat) (h : am_H) : am_run am_ms 103 77 [am_R x0, am_I x1] [am_R y0, am_I y1, am_R y2] h = ((am_gfR h y0 4 2).bind fun f1 => ((am_rd h f1 0 x1).bind fun v2 => ((am_gfR h x0 8 5).bind fun f3 => ((am_isc h y2 1).bind fun _ => ((am_cI 102 [am_R y2, am_I y1, am_I v2, am_R f3] h).bind fun r4 => am_run am_ms 103 49 [am_R x0, am_I (am_w (x1 + 1))] [] r4.2))))) :=
  (am_xs_run am_ms 103 [(.getfield 117, 3, [4, 2, 1084, 3]), (.iload_n 1, 1, []), (.iaload, 1, []), (.aload_n 0, 1, []), (.getfield 38, 3, [8, 5, 2042, 3]), (.invokevirtual 120, 3, [0, 102, 4, 1, 1, 3050, 3051, 3052]), (.pop, 1, []), (.iinc 1 1, 3, []), (.goto (-44), 3, [])] 77 _ _ h (by decide +kernel)).trans rfl
set_option maxHeartbeats 4000000 in
theorem bk_103_96 (x0 : Nat) (x1 : Int) (h : am_H) : am_run am_ms 103 96 [am_R x0, am_I x1] [] h = ((am_gfR h x0 8 4).bind fun f1 => ((am_gfR h f1 1 0).bind fun f2 => ((am_rd h f2 0 0).bind fun v3 => some (some (am_I v3), h)))) :=
  (am_xs_run am_ms 103 [(.aload_n 0, 1, []), (.getfield 34, 3, [8, 4, 2041, 3]), (.getfield 124, 3, [1, 0, 1149, 3]), (.iconst 0, 1, []), (.iaload, 1, []), (.ireturn, 1, [0])] 96 _ _ h (by decide +kernel)).trans rfl
set_option maxHeartbeats 4000000 in
theorem bk_105_0 (x0 : Nat) (h : am_H) : am_run am_ms 105 0 [am_R x0] [] h = ((am_gfI h x0 8 3).bind fun f1 => (bif decide (4 ≤ f1) then am_run am_ms 105 19 [am_R x0] [] h else ((am_gfR h x0 8 1).bind fun f2 => ((am_isc h f2 4).bind fun _ => ((am_cI 38 [am_R f2] h).bind fun r3 => (bif decide (r3.1 = (-1)) then am_run am_ms 105 21 [am_R x0] [] r3.2 else am_run am_ms 105 19 [am_R x0] [] r3.2)))))) :=
  (am_xs_run am_ms 105 [(.aload_n 0, 1, []), (.getfield 125, 3, [8, 3, 2040, 0]), (.iconst 4, 1, []), (.if_icmp .ge 14, 3, []), (.aload_n 0, 1, []), (.getfield 21, 3, [8, 1, 2038, 3]), (.invokevirtual 88, 3, [0, 38, 1, 4, 1, 2227, 2228, 2229]), (.iconst (-1), 1, []), (.if_icmp .eq 5, 3, [])] 0 _ _ h (by decide +kernel)).trans rfl
theorem en_105 (x0 : Nat) (h : am_H) : am_call am_ms 105 [am_R x0] h = am_run am_ms 105 0 [am_R x0] [] h := rfl
set_option maxHeartbeats 4000000 in
theorem bk_105_19 (x0 : Nat) (h : am_H) : am_run am_ms 105 19 [am_R x0] [] h = some (some (am_I (-1)), h) :=
  (am_xs_run am_ms 105 [(.iconst (-1), 1, []), (.ireturn, 1, [0])] 19 _ _ h (by decide +kernel)).trans rfl
set_option maxHeartbeats 4000000 in
theorem bk_105_21 (x0 : Nat) (h : am_H) : am_run am_ms 105 21 [am_R x0] [] h = ((am_gfR h x0 8 0).bind fun f1 => ((am_pf h f1 6 1 (am_I 0)).bind fun h2 => ((am_gfR h2 x0 8 2).bind fun f3 => ((am_gfI h2 x0 8 3).bind fun f4 => ((am_rr h2 f3 f4).bind fun r5 => match r5 with
      | none => ((am_gfR h2 x0 8 1).bind fun f7 => ((am_gfR h2 f7 4 4).bind fun f8 => none))
      | some b6 => ((am_gfR h2 x0 8 1).bind fun f9 => ((am_gfR h2 f9 4 4).bind fun f10 => ((am_isc h2 b6 5).bind fun _ => ((am_cV 104 [am_R b6, am_R f10] h2).bind fun h11 => am_run am_ms 105 49 [am_R x0] [am_R x0] h11))))))))) :=
  (am_xs_run am_ms 105 [(.aload_n 0, 1, []), (.getfield 10, 3, [8, 0, 2037, 3]), (.iconst 0, 1, []), (.putfield 76, 3, [6, 1, 1040, 0]), (.aload_n 0, 1, []), (.getfield 27, 3, [8, 2, 2039, 3]), (.aload_n 0, 1, []), (.getfield 125, 3, [8, 3, 2040, 0]), (.aaload, 1, []), (.aload_n 0, 1, []), (.getfield 21, 3, [8, 1, 2038, 3]), (.getfield 128, 3, [4, 4, 1088, 3]), (.invokevirtual 132, 3, [0, 104, 2, 5, 0, 3193, 3194, 3195]), (.aload_n 0, 1, [])] 21 _ _ h (by decide +kernel)).trans rfl
set_option maxHeartbeats 4000000 in
theorem bk_105_49 (x0 : Nat) (y0 : Nat) (h : am_H) : am_run am_ms 105 49 [am_R x0] [am_R y0] h = ((am_gfI h y0 8 3).bind fun f1 => ((am_pf h y0 8 3 (am_I (am_w (f1 + 1)))).bind fun h2 => ((am_gfI h2 x0 8 3).bind fun f3 => some (some (am_I (am_w (f3 - 1))), h2)))) :=
  (am_xs_run am_ms 105 [(.dup, 1, []), (.getfield 125, 3, [8, 3, 2040, 0]), (.iconst 1, 1, []), (.iadd, 1, []), (.putfield 125, 3, [8, 3, 2040, 0]), (.aload_n 0, 1, []), (.getfield 125, 3, [8, 3, 2040, 0]), (.iconst 1, 1, []), (.isub, 1, []), (.ireturn, 1, [0])] 49 _ _ h (by decide +kernel)).trans rfl
set_option maxHeartbeats 4000000 in
theorem bk_106_0 (x0 : Nat) (x1 : Int) (h : am_H) : am_run am_ms 106 0 [am_R x0, am_I x1] [] h = (bif decide (¬ x1 = 0) then am_run am_ms 106 9 [am_R x0, am_I x1] [] h else ((am_isc h x0 8).bind fun _ => ((am_cI 103 [am_R x0] h).bind fun r1 => some (some (am_I r1.1), r1.2)))) :=
  (am_xs_run am_ms 106 [(.iload_n 1, 1, []), (.ifCond .ne 8, 3, []), (.aload_n 0, 1, []), (.invokevirtual 91, 3, [0, 103, 1, 8, 1, 3013, 3015, 10]), (.ireturn, 1, [0])] 0 _ _ h (by decide +kernel)).trans rfl
theorem en_106 (x0 : Nat) (x1 : Int) (h : am_H) : am_call am_ms 106 [am_R x0, am_I x1] h = am_run am_ms 106 0 [am_R x0, am_I x1] [] h := rfl
set_option maxHeartbeats 4000000 in
theorem bk_106_9 (x0 : Nat) (x1 : Int) (h : am_H) : am_run am_ms 106 9 [am_R x0, am_I x1] [] h = (bif decide (¬ x1 = 1) then am_run am_ms 106 21 [am_R x0, am_I x1] [] h else ((am_isc h x0 8).bind fun _ => ((am_cI 105 [am_R x0] h).bind fun r1 => am_run am_ms 106 22 [am_R x0, am_I x1] [am_I r1.1] r1.2))) :=
  (am_xs_run am_ms 106 [(.iload_n 1, 1, []), (.iconst 1, 1, []), (.if_icmp .ne 10, 3, []), (.aload_n 0, 1, []), (.invokevirtual 94, 3, [0, 105, 1, 8, 1, 3189, 3191, 26]), (.goto 4, 3, [])] 9 _ _ h (by decide +kernel)).trans rfl
set_option maxHeartbeats 4000000 in
theorem bk_106_21 (x0 : Nat) (x1 : Int) (h : am_H) : am_run am_ms 106 21 [am_R x0, am_I x1] [] h = am_run am_ms 106 22 [am_R x0, am_I x1] [am_I (-1)] h :=
  (am_xs_run am_ms 106 [(.iconst (-1), 1, [])] 21 _ _ h (by decide +kernel)).trans rfl
set_option maxHeartbeats 4000000 in
theorem bk_106_22 (x0 : Nat) (x1 : Int) (y0 : Int) (h : am_H) : am_run am_ms 106 22 [am_R x0, am_I x1] [am_I y0] h = some (some (am_I y0), h) :=
  (am_xs_run am_ms 106 [(.ireturn, 1, [0])] 22 _ _ h (by decide +kernel)).trans rfl
set_option maxHeartbeats 4000000 in
theorem bk_137_0 (x0 : Nat) (h : am_H) : am_run am_ms 137 0 [am_R x0] [] h = ((am_gfR h x0 8 4).bind fun f1 => ((am_gfR h f1 1 0).bind fun f2 => ((am_rd h f2 0 0).bind fun v3 => (bif decide (v3 ≤ 0) then am_run am_ms 137 16 [am_R x0] [] h else am_run am_ms 137 17 [am_R x0] [am_I 1] h)))) :=
  (am_xs_run am_ms 137 [(.aload_n 0, 1, []), (.getfield 34, 3, [8, 4, 2041, 3]), (.getfield 124, 3, [1, 0, 1149, 3]), (.iconst 0, 1, []), (.iaload, 1, []), (.ifCond .le 7, 3, []), (.iconst 1, 1, []), (.goto 4, 3, [])] 0 _ _ h (by decide +kernel)).trans rfl
theorem en_137 (x0 : Nat) (h : am_H) : am_call am_ms 137 [am_R x0] h = am_run am_ms 137 0 [am_R x0] [] h := rfl
set_option maxHeartbeats 4000000 in
theorem bk_137_16 (x0 : Nat) (h : am_H) : am_run am_ms 137 16 [am_R x0] [] h = am_run am_ms 137 17 [am_R x0] [am_I 0] h :=
  (am_xs_run am_ms 137 [(.iconst 0, 1, [])] 16 _ _ h (by decide +kernel)).trans rfl
set_option maxHeartbeats 4000000 in
theorem bk_137_17 (x0 : Nat) (y0 : Int) (h : am_H) : am_run am_ms 137 17 [am_R x0] [am_I y0] h = (bif am_rok 1 y0 then some (some (am_I y0), h) else none) :=
  (am_xs_run am_ms 137 [(.ireturn, 1, [1])] 17 _ _ h (by decide +kernel)).trans rfl
set_option maxHeartbeats 4000000 in
theorem bk_138_0 (x0 : Nat) (x1 : Int) (h : am_H) : am_run am_ms 138 0 [am_R x0, am_I x1] [] h = ((am_isc h x0 8).bind fun _ => ((am_cI 137 [am_R x0] h).bind fun r1 => (bif decide (r1.1 = 0) then am_run am_ms 138 29 [am_R x0, am_I x1] [] r1.2 else (bif decide (x1 < 0) then am_run am_ms 138 29 [am_R x0, am_I x1] [] r1.2 else (bif decide (7 ≤ x1) then am_run am_ms 138 29 [am_R x0, am_I x1] [] r1.2 else ((am_gfR r1.2 x0 8 4).bind fun f2 => ((am_gfR r1.2 f2 1 0).bind fun f3 => ((am_rd r1.2 f3 0 x1).bind fun v4 => am_run am_ms 138 30 [am_R x0, am_I x1] [am_I v4] r1.2)))))))) :=
  (am_xs_run am_ms 138 [(.aload_n 0, 1, []), (.invokevirtual 136, 3, [0, 137, 1, 8, 1, 3202, 3204, 27]), (.ifCond .eq 25, 3, []), (.iload_n 1, 1, []), (.ifCond .lt 21, 3, []), (.iload_n 1, 1, []), (.bipush 7, 2, []), (.if_icmp .ge 15, 3, []), (.aload_n 0, 1, []), (.getfield 34, 3, [8, 4, 2041, 3]), (.getfield 124, 3, [1, 0, 1149, 3]), (.iload_n 1, 1, []), (.iaload, 1, []), (.goto 4, 3, [])] 0 _ _ h (by decide +kernel)).trans rfl
theorem en_138 (x0 : Nat) (x1 : Int) (h : am_H) : am_call am_ms 138 [am_R x0, am_I x1] h = am_run am_ms 138 0 [am_R x0, am_I x1] [] h := rfl
set_option maxHeartbeats 4000000 in
theorem bk_138_29 (x0 : Nat) (x1 : Int) (h : am_H) : am_run am_ms 138 29 [am_R x0, am_I x1] [] h = am_run am_ms 138 30 [am_R x0, am_I x1] [am_I (-1)] h :=
  (am_xs_run am_ms 138 [(.iconst (-1), 1, [])] 29 _ _ h (by decide +kernel)).trans rfl
set_option maxHeartbeats 4000000 in
theorem bk_138_30 (x0 : Nat) (x1 : Int) (y0 : Int) (h : am_H) : am_run am_ms 138 30 [am_R x0, am_I x1] [am_I y0] h = some (some (am_I y0), h) :=
  (am_xs_run am_ms 138 [(.ireturn, 1, [0])] 30 _ _ h (by decide +kernel)).trans rfl
set_option maxHeartbeats 4000000 in
theorem bk_143_0 (x0 : Nat) (x1 : Int) (x2 : Int) (x3 : Int) (h : am_H) : am_run am_ms 143 0 [am_R x0, am_I x1, am_I x2, am_I x3, am_K 1] [] h = ((am_gfR h x0 8 4).bind fun f1 => ((am_isc h f1 1).bind fun _ => ((am_cI 64 [am_R f1, am_I x1] h).bind fun r2 => (bif decide (r2.1 = 0) then am_run am_ms 143 28 [am_R x0, am_I x1, am_I x2, am_I x3, am_K 1] [] r2.2 else (bif decide (x2 < 0) then am_run am_ms 143 28 [am_R x0, am_I x1, am_I x2, am_I x3, am_K 1] [] r2.2 else ((am_gfR r2.2 x0 8 4).bind fun f3 => ((am_gfR r2.2 f3 1 3).bind fun f4 => ((am_rd r2.2 f4 0 x1).bind fun v5 => (bif decide (x2 < v5) then am_run am_ms 143 31 [am_R x0, am_I x1, am_I x2, am_I x3, am_K 1] [] r2.2 else am_run am_ms 143 28 [am_R x0, am_I x1, am_I x2, am_I x3, am_K 1] [] r2.2))))))))) :=
  (am_xs_run am_ms 143 [(.aload_n 0, 1, []), (.getfield 34, 3, [8, 4, 2041, 3]), (.iload_n 1, 1, []), (.invokevirtual 140, 3, [0, 64, 2, 1, 1, 3210, 3043, 3044]), (.ifCond .eq 20, 3, []), (.iload_n 2, 1, []), (.ifCond .lt 16, 3, []), (.iload_n 2, 1, []), (.aload_n 0, 1, []), (.getfield 34, 3, [8, 4, 2041, 3]), (.getfield 150, 3, [1, 3, 1156, 3]), (.iload_n 1, 1, []), (.iaload, 1, []), (.if_icmp .lt 6, 3, [])] 0 _ _ h (by decide +kernel)).trans rfl
theorem en_143 (x0 : Nat) (x1 : Int) (x2 : Int) (x3 : Int) (h : am_H) : am_call am_ms 143 [am_R x0, am_I x1, am_I x2, am_I x3] h = am_run am_ms 143 0 [am_R x0, am_I x1, am_I x2, am_I x3, am_K 1] [] h := rfl
set_option maxHeartbeats 4000000 in
theorem bk_143_28 (x0 : Nat) (x1 : Int) (x2 : Int) (x3 : Int) (h : am_H) : am_run am_ms 143 28 [am_R x0, am_I x1, am_I x2, am_I x3, am_K 1] [] h = some (some (am_I (-1000000)), h) :=
  (am_xs_run am_ms 143 [(.ldc 172, 2, [0, -1000000, 3211]), (.ireturn, 1, [0])] 28 _ _ h (by decide +kernel)).trans rfl
set_option maxHeartbeats 4000000 in
theorem bk_143_31 (x0 : Nat) (x1 : Int) (x2 : Int) (x3 : Int) (h : am_H) : am_run am_ms 143 31 [am_R x0, am_I x1, am_I x2, am_I x3, am_K 1] [] h = am_run am_ms 143 40 [am_R x0, am_I x1, am_I x2, am_I x3, am_I (am_w ((am_w (x1 * 16)) + x2))] [am_I x3] h :=
  (am_xs_run am_ms 143 [(.iload_n 1, 1, []), (.bipush 16, 2, []), (.imul, 1, []), (.iload_n 2, 1, []), (.iadd, 1, []), (.istore 4, 2, []), (.iload_n 3, 1, [])] 31 _ _ h (by decide +kernel)).trans rfl
theorem bk_143_40 (x0 : Nat) (x1 : Int) (x2 : Int) (x3 : Int) (x4 : Int) (y0 : Int) (h : am_H) : am_run am_ms 143 40 [am_R x0, am_I x1, am_I x2, am_I x3, am_I x4] [am_I y0] h = am_run am_ms 143 (am_tsw 40 83 0 3 #[32, 43, 54, 65] y0) [am_R x0, am_I x1, am_I x2, am_I x3, am_I x4] [] h := by
  rw [am_run_eq, show am_code am_ms 143 40 = some (.tableswitch 83 0 3 #[32, 43, 54, 65], 32, []) from by decide +kernel]
  rfl
set_option maxHeartbeats 4000000 in
theorem bk_143_72 (x0 : Nat) (x1 : Int) (x2 : Int) (x3 : Int) (x4 : Int) (h : am_H) : am_run am_ms 143 72 [am_R x0, am_I x1, am_I x2, am_I x3, am_I x4] [] h = ((am_gfR h x0 8 4).bind fun f1 => ((am_gfR h f1 1 7).bind fun f2 => ((am_rd h f2 0 x4).bind fun v3 => some (some (am_I v3), h)))) :=
  (am_xs_run am_ms 143 [(.aload_n 0, 1, []), (.getfield 34, 3, [8, 4, 2041, 3]), (.getfield 173, 3, [1, 7, 1165, 3]), (.iload 4, 2, []), (.iaload, 1, []), (.ireturn, 1, [0])] 72 _ _ h (by decide +kernel)).trans rfl
set_option maxHeartbeats 4000000 in
theorem bk_143_83 (x0 : Nat) (x1 : Int) (x2 : Int) (x3 : Int) (x4 : Int) (h : am_H) : am_run am_ms 143 83 [am_R x0, am_I x1, am_I x2, am_I x3, am_I x4] [] h = ((am_gfR h x0 8 4).bind fun f1 => ((am_gfR h f1 1 8).bind fun f2 => ((am_rd h f2 0 x4).bind fun v3 => some (some (am_I v3), h)))) :=
  (am_xs_run am_ms 143 [(.aload_n 0, 1, []), (.getfield 34, 3, [8, 4, 2041, 3]), (.getfield 174, 3, [1, 8, 1167, 3]), (.iload 4, 2, []), (.iaload, 1, []), (.ireturn, 1, [0])] 83 _ _ h (by decide +kernel)).trans rfl
set_option maxHeartbeats 4000000 in
theorem bk_143_94 (x0 : Nat) (x1 : Int) (x2 : Int) (x3 : Int) (x4 : Int) (h : am_H) : am_run am_ms 143 94 [am_R x0, am_I x1, am_I x2, am_I x3, am_I x4] [] h = ((am_gfR h x0 8 4).bind fun f1 => ((am_gfR h f1 1 9).bind fun f2 => ((am_rd h f2 0 x4).bind fun v3 => some (some (am_I v3), h)))) :=
  (am_xs_run am_ms 143 [(.aload_n 0, 1, []), (.getfield 34, 3, [8, 4, 2041, 3]), (.getfield 175, 3, [1, 9, 1170, 3]), (.iload 4, 2, []), (.iaload, 1, []), (.ireturn, 1, [0])] 94 _ _ h (by decide +kernel)).trans rfl
set_option maxHeartbeats 4000000 in
theorem bk_143_105 (x0 : Nat) (x1 : Int) (x2 : Int) (x3 : Int) (x4 : Int) (h : am_H) : am_run am_ms 143 105 [am_R x0, am_I x1, am_I x2, am_I x3, am_I x4] [] h = ((am_gfR h x0 8 4).bind fun f1 => ((am_isc h f1 1).bind fun _ => ((am_cI 78 [am_R f1, am_I x4] h).bind fun r2 => (bif decide (r2.1 = 0) then am_run am_ms 143 121 [am_R x0, am_I x1, am_I x2, am_I x3, am_I x4] [] r2.2 else am_run am_ms 143 122 [am_R x0, am_I x1, am_I x2, am_I x3, am_I x4] [am_I 1] r2.2)))) :=
  (am_xs_run am_ms 143 [(.aload_n 0, 1, []), (.getfield 34, 3, [8, 4, 2041, 3]), (.iload 4, 2, []), (.invokevirtual 178, 3, [0, 78, 2, 1, 1, 3212, 3108, 3109]), (.ifCond .eq 7, 3, []), (.iconst 1, 1, []), (.goto 4, 3, [])] 105 _ _ h (by decide +kernel)).trans rfl
set_option maxHeartbeats 4000000 in
theorem bk_143_121 (x0 : Nat) (x1 : Int) (x2 : Int) (x3 : Int) (x4 : Int) (h : am_H) : am_run am_ms 143 121 [am_R x0, am_I x1, am_I x2, am_I x3, am_I x4] [] h = am_run am_ms 143 122 [am_R x0, am_I x1, am_I x2, am_I x3, am_I x4] [am_I 0] h :=
  (am_xs_run am_ms 143 [(.iconst 0, 1, [])] 121 _ _ h (by decide +kernel)).trans rfl
set_option maxHeartbeats 4000000 in
theorem bk_143_122 (x0 : Nat) (x1 : Int) (x2 : Int) (x3 : Int) (x4 : Int) (y0 : Int) (h : am_H) : am_run am_ms 143 122 [am_R x0, am_I x1, am_I x2, am_I x3, am_I x4] [am_I y0] h = some (some (am_I y0), h) :=
  (am_xs_run am_ms 143 [(.ireturn, 1, [0])] 122 _ _ h (by decide +kernel)).trans rfl
set_option maxHeartbeats 4000000 in
theorem bk_143_123 (x0 : Nat) (x1 : Int) (x2 : Int) (x3 : Int) (x4 : Int) (h : am_H) : am_run am_ms 143 123 [am_R x0, am_I x1, am_I x2, am_I x3, am_I x4] [] h = some (some (am_I (-1000000)), h) :=
  (am_xs_run am_ms 143 [(.ldc 172, 2, [0, -1000000, 3211]), (.ireturn, 1, [0])] 123 _ _ h (by decide +kernel)).trans rfl
set_option maxHeartbeats 4000000 in
theorem bk_145_0 (x0 : Nat) (x1 : Int) (h : am_H) : am_run am_ms 145 0 [am_R x0, am_I x1] [] h = ((am_gfR h x0 8 4).bind fun f1 => ((am_isc h f1 1).bind fun _ => ((am_cI 70 [am_R f1, am_I x1] h).bind fun r2 => some (some (am_I r2.1), r2.2)))) :=
  (am_xs_run am_ms 145 [(.aload_n 0, 1, []), (.getfield 34, 3, [8, 4, 2041, 3]), (.iload_n 1, 1, []), (.invokevirtual 181, 3, [0, 70, 2, 1, 1, 3217, 3059, 3060]), (.ireturn, 1, [0])] 0 _ _ h (by decide +kernel)).trans rfl
theorem en_145 (x0 : Nat) (x1 : Int) (h : am_H) : am_call am_ms 145 [am_R x0, am_I x1] h = am_run am_ms 145 0 [am_R x0, am_I x1] [] h := rfl
set_option maxHeartbeats 4000000 in
theorem bk_150_0 (x0 : Nat) (x1 : Int) (x2 : Int) (h : am_H) : am_run am_ms 150 0 [am_R x0, am_I x1, am_I x2] [] h = ((am_gfR h x0 8 4).bind fun f1 => ((am_isc h f1 1).bind fun _ => ((am_cI 69 [am_R f1, am_I x1] h).bind fun r2 => (bif decide (¬ r2.1 = 0) then am_run am_ms 150 13 [am_R x0, am_I x1, am_I x2] [] r2.2 else some (some (am_I (-1)), r2.2))))) :=
  (am_xs_run am_ms 150 [(.aload_n 0, 1, []), (.getfield 34, 3, [8, 4, 2041, 3]), (.iload_n 1, 1, []), (.invokevirtual 184, 3, [0, 69, 2, 1, 1, 3222, 3055, 3056]), (.ifCond .ne 5, 3, []), (.iconst (-1), 1, []), (.ireturn, 1, [0])] 0 _ _ h (by decide +kernel)).trans rfl
theorem en_150 (x0 : Nat) (x1 : Int) (x2 : Int) (h : am_H) : am_call am_ms 150 [am_R x0, am_I x1, am_I x2] h = am_run am_ms 150 0 [am_R x0, am_I x1, am_I x2] [] h := rfl
set_option maxHeartbeats 4000000 in
theorem bk_150_13 (x0 : Nat) (x1 : Int) (x2 : Int) (h : am_H) : am_run am_ms 150 13 [am_R x0, am_I x1, am_I x2] [] h = am_run am_ms 150 14 [am_R x0, am_I x1, am_I x2] [am_I x2] h :=
  (am_xs_run am_ms 150 [(.iload_n 2, 1, [])] 13 _ _ h (by decide +kernel)).trans rfl
theorem bk_150_14 (x0 : Nat) (x1 : Int) (x2 : Int) (y0 : Int) (h : am_H) : am_run am_ms 150 14 [am_R x0, am_I x1, am_I x2] [am_I y0] h = am_run am_ms 150 (am_tsw 14 68 0 3 #[30, 40, 49, 58] y0) [am_R x0, am_I x1, am_I x2] [] h := by
  rw [am_run_eq, show am_code am_ms 150 14 = some (.tableswitch 68 0 3 #[30, 40, 49, 58], 30, []) from by decide +kernel]
  rfl
set_option maxHeartbeats 4000000 in
theorem bk_150_44 (x0 : Nat) (x1 : Int) (x2 : Int) (h : am_H) : am_run am_ms 150 44 [am_R x0, am_I x1, am_I x2] [] h = ((am_gfR h x0 8 4).bind fun f1 => ((am_gfR h f1 1 10).bind fun f2 => ((am_rd h f2 0 x1).bind fun v3 => some (some (am_I v3), h)))) :=
  (am_xs_run am_ms 150 [(.aload_n 0, 1, []), (.getfield 34, 3, [8, 4, 2041, 3]), (.getfield 187, 3, [1, 10, 1173, 3]), (.iload_n 1, 1, []), (.iaload, 1, []), (.ireturn, 1, [0])] 44 _ _ h (by decide +kernel)).trans rfl
set_option maxHeartbeats 4000000 in
theorem bk_150_54 (x0 : Nat) (x1 : Int) (x2 : Int) (h : am_H) : am_run am_ms 150 54 [am_R x0, am_I x1, am_I x2] [] h = ((am_gfR h x0 8 4).bind fun f1 => ((am_isc h f1 1).bind fun _ => ((am_cI 149 [am_R f1, am_I x1] h).bind fun r2 => some (some (am_I r2.1), r2.2)))) :=
  (am_xs_run am_ms 150 [(.aload_n 0, 1, []), (.getfield 34, 3, [8, 4, 2041, 3]), (.iload_n 1, 1, []), (.invokevirtual 190, 3, [0, 149, 2, 1, 1, 3223, 3224, 3225]), (.ireturn, 1, [0])] 54 _ _ h (by decide +kernel)).trans rfl
set_option maxHeartbeats 4000000 in
theorem bk_150_63 (x0 : Nat) (x1 : Int) (x2 : Int) (h : am_H) : am_run am_ms 150 63 [am_R x0, am_I x1, am_I x2] [] h = ((am_gfR h x0 8 4).bind fun f1 => ((am_isc h f1 1).bind fun _ => ((am_cI 71 [am_R f1, am_I x1] h).bind fun r2 => some (some (am_I r2.1), r2.2)))) :=
  (am_xs_run am_ms 150 [(.aload_n 0, 1, []), (.getfield 34, 3, [8, 4, 2041, 3]), (.iload_n 1, 1, []), (.invokevirtual 193, 3, [0, 71, 2, 1, 1, 3227, 3063, 3064]), (.ireturn, 1, [0])] 63 _ _ h (by decide +kernel)).trans rfl
set_option maxHeartbeats 4000000 in
theorem bk_150_72 (x0 : Nat) (x1 : Int) (x2 : Int) (h : am_H) : am_run am_ms 150 72 [am_R x0, am_I x1, am_I x2] [] h = ((am_gfR h x0 8 4).bind fun f1 => ((am_gfR h f1 1 12).bind fun f2 => ((am_rd h f2 0 x1).bind fun v3 => some (some (am_I v3), h)))) :=
  (am_xs_run am_ms 150 [(.aload_n 0, 1, []), (.getfield 34, 3, [8, 4, 2041, 3]), (.getfield 196, 3, [1, 12, 1176, 3]), (.iload_n 1, 1, []), (.iaload, 1, []), (.ireturn, 1, [0])] 72 _ _ h (by decide +kernel)).trans rfl
set_option maxHeartbeats 4000000 in
theorem bk_150_82 (x0 : Nat) (x1 : Int) (x2 : Int) (h : am_H) : am_run am_ms 150 82 [am_R x0, am_I x1, am_I x2] [] h = some (some (am_I (-1)), h) :=
  (am_xs_run am_ms 150 [(.iconst (-1), 1, []), (.ireturn, 1, [0])] 82 _ _ h (by decide +kernel)).trans rfl
set_option maxHeartbeats 4000000 in
theorem bk_152_0 (x0 : Nat) (x1 : Int) (h : am_H) : am_run am_ms 152 0 [am_R x0, am_I x1, am_K 1] [] h = (bif decide (0 ≤ x1) then am_run am_ms 152 6 [am_R x0, am_I x1, am_K 1] [] h else some (some (am_I (-1)), h)) :=
  (am_xs_run am_ms 152 [(.iload_n 1, 1, []), (.ifCond .ge 5, 3, []), (.iconst (-1), 1, []), (.ireturn, 1, [0])] 0 _ _ h (by decide +kernel)).trans rfl
theorem en_152 (x0 : Nat) (x1 : Int) (h : am_H) : am_call am_ms 152 [am_R x0, am_I x1] h = am_run am_ms 152 0 [am_R x0, am_I x1, am_K 1] [] h := rfl
set_option maxHeartbeats 4000000 in
theorem bk_152_6 (x0 : Nat) (x1 : Int) (h : am_H) : am_run am_ms 152 6 [am_R x0, am_I x1, am_K 1] [] h = am_run am_ms 152 8 [am_R x0, am_I x1, am_I x1] [] h :=
  (am_xs_run am_ms 152 [(.iload_n 1, 1, []), (.istore_n 2, 1, [])] 6 _ _ h (by decide +kernel)).trans rfl
set_option maxHeartbeats 4000000 in
theorem bk_152_8 (x0 : Nat) (x1 : Int) (x2 : Int) (h : am_H) : am_run am_ms 152 8 [am_R x0, am_I x1, am_I x2] [] h = (bif decide (32 ≤ x2) then am_run am_ms 152 34 [am_R x0, am_I x1, am_I x2] [] h else ((am_gfR h x0 8 4).bind fun f1 => ((am_isc h f1 1).bind fun _ => ((am_cI 70 [am_R f1, am_I x2] h).bind fun r2 => (bif decide (r2.1 = (-1)) then am_run am_ms 152 28 [am_R x0, am_I x1, am_I x2] [] r2.2 else some (some (am_I x2), r2.2)))))) :=
  (am_xs_run am_ms 152 [(.iload_n 2, 1, []), (.bipush 32, 2, []), (.if_icmp .ge 23, 3, []), (.aload_n 0, 1, []), (.getfield 34, 3, [8, 4, 2041, 3]), (.iload_n 2, 1, []), (.invokevirtual 181, 3, [0, 70, 2, 1, 1, 3217, 3059, 3060]), (.iconst (-1), 1, []), (.if_icmp .eq 5, 3, []), (.iload_n 2, 1, []), (.ireturn, 1, [0])] 8 _ _ h (by decide +kernel)).trans rfl
set_option maxHeartbeats 4000000 in
theorem bk_152_28 (x0 : Nat) (x1 : Int) (x2 : Int) (h : am_H) : am_run am_ms 152 28 [am_R x0, am_I x1, am_I x2] [] h = am_run am_ms 152 8 [am_R x0, am_I x1, am_I (am_w (x2 + 1))] [] h :=
  (am_xs_run am_ms 152 [(.iinc 2 1, 3, []), (.goto (-23), 3, [])] 28 _ _ h (by decide +kernel)).trans rfl
set_option maxHeartbeats 4000000 in
theorem bk_152_34 (x0 : Nat) (x1 : Int) (x2 : Int) (h : am_H) : am_run am_ms 152 34 [am_R x0, am_I x1, am_I x2] [] h = some (some (am_I (-1)), h) :=
  (am_xs_run am_ms 152 [(.iconst (-1), 1, []), (.ireturn, 1, [0])] 34 _ _ h (by decide +kernel)).trans rfl
set_option maxHeartbeats 4000000 in
theorem bk_154_0 (x0 : Nat) (x1 : Int) (x2 : Int) (x3 : Int) (h : am_H) : am_run am_ms 154 0 [am_R x0, am_I x1, am_I x2, am_I x3, am_K 1, am_K 1, am_K 1, am_K 1] [] h = ((am_gfR h x0 8 4).bind fun f1 => ((am_isc h f1 1).bind fun _ => ((am_cI 69 [am_R f1, am_I x1] h).bind fun r2 => (bif decide (r2.1 = 0) then am_run am_ms 154 36 [am_R x0, am_I x1, am_I x2, am_I x3, am_K 1, am_K 1, am_K 1, am_K 1] [] r2.2 else ((am_gfR r2.2 x0 8 4).bind fun f3 => ((am_isc r2.2 f3 1).bind fun _ => ((am_cI 69 [am_R f3, am_I x2] r2.2).bind fun r4 => (bif decide (r4.1 = 0) then am_run am_ms 154 36 [am_R x0, am_I x1, am_I x2, am_I x3, am_K 1, am_K 1, am_K 1, am_K 1] [] r4.2 else (bif decide (x2 < x1) then am_run am_ms 154 36 [am_R x0, am_I x1, am_I x2, am_I x3, am_K 1, am_K 1, am_K 1, am_K 1] [] r4.2 else am_run am_ms 154 28 [am_R x0, am_I x1, am_I x2, am_I x3, am_K 1, am_K 1, am_K 1, am_K 1] [am_I x3] r4.2))))))))) :=
  (am_xs_run am_ms 154 [(.aload_n 0, 1, []), (.getfield 34, 3, [8, 4, 2041, 3]), (.iload_n 1, 1, []), (.invokevirtual 184, 3, [0, 69, 2, 1, 1, 3222, 3055, 3056]), (.ifCond .eq 28, 3, []), (.aload_n 0, 1, []), (.getfield 34, 3, [8, 4, 2041, 3]), (.iload_n 2, 1, []), (.invokevirtual 184, 3, [0, 69, 2, 1, 1, 3222, 3055, 3056]), (.ifCond .eq 17, 3, []), (.iload_n 2, 1, []), (.iload_n 1, 1, []), (.if_icmp .lt 12, 3, []), (.iload_n 3, 1, [])] 0 _ _ h (by decide +kernel)).trans rfl
theorem en_154 (x0 : Nat) (x1 : Int) (x2 : Int) (x3 : Int) (h : am_H) : am_call am_ms 154 [am_R x0, am_I x1, am_I x2, am_I x3] h = am_run am_ms 154 0 [am_R x0, am_I x1, am_I x2, am_I x3, am_K 1, am_K 1, am_K 1, am_K 1] [] h := rfl
set_option maxHeartbeats 4000000 in
theorem bk_154_28 (x0 : Nat) (x1 : Int) (x2 : Int) (x3 : Int) (y0 : Int) (h : am_H) : am_run am_ms 154 28 [am_R x0, am_I x1, am_I x2, am_I x3, am_K 1, am_K 1, am_K 1, am_K 1] [am_I y0] h = (bif decide (y0 < 0) then am_run am_ms 154 36 [am_R x0, am_I x1, am_I x2, am_I x3, am_K 1, am_K 1, am_K 1, am_K 1] [] h else (bif decide (x3 ≤ 1) then am_run am_ms 154 38 [am_R x0, am_I x1, am_I x2, am_I x3, am_K 1, am_K 1, am_K 1, am_K 1] [] h else am_run am_ms 154 36 [am_R x0, am_I x1, am_I x2, am_I x3, am_K 1, am_K 1, am_K 1, am_K 1] [] h)) :=
  (am_xs_run am_ms 154 [(.ifCond .lt 8, 3, []), (.iload_n 3, 1, []), (.iconst 1, 1, []), (.if_icmp .le 5, 3, [])] 28 _ _ h (by decide +kernel)).trans rfl
set_option maxHeartbeats 4000000 in
theorem bk_154_36 (x0 : Nat) (x1 : Int) (x2 : Int) (x3 : Int) (h : am_H) : am_run am_ms 154 36 [am_R x0, am_I x1, am_I x2, am_I x3, am_K 1, am_K 1, am_K 1, am_K 1] [] h = some (some (am_I (-1)), h) :=
  (am_xs_run am_ms 154 [(.iconst (-1), 1, []), (.ireturn, 1, [0])] 36 _ _ h (by decide +kernel)).trans rfl
set_option maxHeartbeats 4000000 in
theorem bk_154_38 (x0 : Nat) (x1 : Int) (x2 : Int) (x3 : Int) (h : am_H) : am_run am_ms 154 38 [am_R x0, am_I x1, am_I x2, am_I x3, am_K 1, am_K 1, am_K 1, am_K 1] [] h = am_run am_ms 154 47 [am_R x0, am_I x1, am_I x2, am_I x3, am_I 0, am_I 0, am_I x1, am_K 1] [] h :=
  (am_xs_run am_ms 154 [(.iconst 0, 1, []), (.istore 4, 2, []), (.iconst 0, 1, []), (.istore 5, 2, []), (.iload_n 1, 1, []), (.istore 6, 2, [])] 38 _ _ h (by decide +kernel)).trans rfl
set_option maxHeartbeats 4000000 in
theorem bk_154_47 (x0 : Nat) (x1 : Int) (x2 : Int) (x3 : Int) (x4 : Int) (x5 : Int) (x6 : Int) (x7 : am_V) (h : am_H) : am_run am_ms 154 47 [am_R x0, am_I x1, am_I x2, am_I x3, am_I x4, am_I x5, am_I x6, x7] [] h = (bif decide (x2 < x6) then am_run am_ms 154 86 [am_R x0, am_I x1, am_I x2, am_I x3, am_I x4, am_I x5, am_I x6, x7] [] h else ((am_gfR h x0 8 4).bind fun f1 => ((am_isc h f1 1).bind fun _ => ((am_cI 70 [am_R f1, am_I x6] h).bind fun r2 => (bif decide (r2.1 = (-1)) then am_run am_ms 154 80 [am_R x0, am_I x1, am_I x2, am_I x3, am_I x4, am_I x5, am_I x6, am_I r2.1] [] r2.2 else am_run am_ms 154 77 [am_R x0, am_I x1, am_I x2, am_I x3, am_I (am_w (x4 + 1)), am_I x5, am_I x6, am_I r2.1] [am_I r2.1, am_I x5] r2.2))))) :=
  (am_xs_run am_ms 154 [(.iload 6, 2, []), (.iload_n 2, 1, []), (.if_icmp .gt 36, 3, []), (.aload_n 0, 1, []), (.getfield 34, 3, [8, 4, 2041, 3]), (.iload 6, 2, []), (.invokevirtual 181, 3, [0, 70, 2, 1, 1, 3217, 3059, 3060]), (.istore 7, 2, []), (.iload 7, 2, []), (.iconst (-1), 1, []), (.if_icmp .eq 13, 3, []), (.iinc 4 1, 3, []), (.iload 5, 2, []), (.iload 7, 2, [])] 47 _ _ h (by decide +kernel)).trans rfl
set_option maxHeartbeats 4000000 in
theorem bk_154_77 (x0 : Nat) (x1 : Int) (x2 : Int) (x3 : Int) (x4 : Int) (x5 : Int) (x6 : Int) (x7 : Int) (y0 : Int) (y1 : Int) (h : am_H) : am_run am_ms 154 77 [am_R x0, am_I x1, am_I x2, am_I x3, am_I x4, am_I x5, am_I x6, am_I x7] [am_I y0, am_I y1] h = am_run am_ms 154 80 [am_R x0, am_I x1, am_I x2, am_I x3, am_I x4, am_I (am_w (y1 + y0)), am_I x6, am_I x7] [] h :=
  (am_xs_run am_ms 154 [(.iadd, 1, []), (.istore 5, 2, [])] 77 _ _ h (by decide +kernel)).trans rfl
set_option maxHeartbeats 4000000 in
theorem bk_154_80 (x0 : Nat) (x1 : Int) (x2 : Int) (x3 : Int) (x4 : Int) (x5 : Int) (x6 : Int) (x7 : Int) (h : am_H) : am_run am_ms 154 80 [am_R x0, am_I x1, am_I x2, am_I x3, am_I x4, am_I x5, am_I x6, am_I x7] [] h = am_run am_ms 154 47 [am_R x0, am_I x1, am_I x2, am_I x3, am_I x4, am_I x5, am_I (am_w (x6 + 1)), am_I x7] [] h :=
  (am_xs_run am_ms 154 [(.iinc 6 1, 3, []), (.goto (-36), 3, [])] 80 _ _ h (by decide +kernel)).trans rfl
set_option maxHeartbeats 4000000 in
theorem bk_154_86 (x0 : Nat) (x1 : Int) (x2 : Int) (x3 : Int) (x4 : Int) (x5 : Int) (x6 : Int) (x7 : am_V) (h : am_H) : am_run am_ms 154 86 [am_R x0, am_I x1, am_I x2, am_I x3, am_I x4, am_I x5, am_I x6, x7] [] h = (bif decide (¬ x3 = 0) then am_run am_ms 154 95 [am_R x0, am_I x1, am_I x2, am_I x3, am_I x4, am_I x5, am_I x6, x7] [] h else am_run am_ms 154 97 [am_R x0, am_I x1, am_I x2, am_I x3, am_I x4, am_I x5, am_I x6, x7] [am_I x4] h) :=
  (am_xs_run am_ms 154 [(.iload_n 3, 1, []), (.ifCond .ne 8, 3, []), (.iload 4, 2, []), (.goto 5, 3, [])] 86 _ _ h (by decide +kernel)).trans rfl
set_option maxHeartbeats 4000000 in
theorem bk_154_95 (x0 : Nat) (x1 : Int) (x2 : Int) (x3 : Int) (x4 : Int) (x5 : Int) (x6 : Int) (x7 : am_V) (h : am_H) : am_run am_ms 154 95 [am_R x0, am_I x1, am_I x2, am_I x3, am_I x4, am_I x5, am_I x6, x7] [] h = am_run am_ms 154 97 [am_R x0, am_I x1, am_I x2, am_I x3, am_I x4, am_I x5, am_I x6, x7] [am_I x5] h :=
  (am_xs_run am_ms 154 [(.iload 5, 2, [])] 95 _ _ h (by decide +kernel)).trans rfl
set_option maxHeartbeats 4000000 in
theorem bk_154_97 (x0 : Nat) (x1 : Int) (x2 : Int) (x3 : Int) (x4 : Int) (x5 : Int) (x6 : Int) (x7 : am_V) (y0 : Int) (h : am_H) : am_run am_ms 154 97 [am_R x0, am_I x1, am_I x2, am_I x3, am_I x4, am_I x5, am_I x6, x7] [am_I y0] h = some (some (am_I y0), h) :=
  (am_xs_run am_ms 154 [(.ireturn, 1, [0])] 97 _ _ h (by decide +kernel)).trans rfl
set_option maxHeartbeats 4000000 in
theorem bk_156_0 (x0 : Nat) (x1 : Int) (h : am_H) : am_run am_ms 156 0 [am_R x0, am_I x1] [] h = ((am_gfR h x0 8 4).bind fun f1 => ((am_isc h f1 1).bind fun _ => ((am_cI 72 [am_R f1, am_I x1] h).bind fun r2 => (bif decide (r2.1 = 0) then am_run am_ms 156 23 [am_R x0, am_I x1] [] r2.2 else ((am_gfR r2.2 x0 8 4).bind fun f3 => ((am_gfR r2.2 f3 1 6).bind fun f4 => ((am_rd r2.2 f4 0 x1).bind fun v5 => am_run am_ms 156 24 [am_R x0, am_I x1] [am_I v5] r2.2))))))) :=
  (am_xs_run am_ms 156 [(.aload_n 0, 1, []), (.getfield 34, 3, [8, 4, 2041, 3]), (.iload_n 1, 1, []), (.invokevirtual 199, 3, [0, 72, 2, 1, 1, 4000, 3075, 3076]), (.ifCond .eq 15, 3, []), (.aload_n 0, 1, []), (.getfield 34, 3, [8, 4, 2041, 3]), (.getfield 202, 3, [1, 6, 1162, 3]), (.iload_n 1, 1, []), (.iaload, 1, []), (.goto 4, 3, [])] 0 _ _ h (by decide +kernel)).trans rfl
theorem en_156 (x0 : Nat) (x1 : Int) (h : am_H) : am_call am_ms 156 [am_R x0, am_I x1] h = am_run am_ms 156 0 [am_R x0, am_I x1] [] h := rfl
set_option maxHeartbeats 4000000 in
theorem bk_156_23 (x0 : Nat) (x1 : Int) (h : am_H) : am_run am_ms 156 23 [am_R x0, am_I x1] [] h = am_run am_ms 156 24 [am_R x0, am_I x1] [am_I (-1)] h :=
  (am_xs_run am_ms 156 [(.iconst (-1), 1, [])] 23 _ _ h (by decide +kernel)).trans rfl
set_option maxHeartbeats 4000000 in
theorem bk_156_24 (x0 : Nat) (x1 : Int) (y0 : Int) (h : am_H) : am_run am_ms 156 24 [am_R x0, am_I x1] [am_I y0] h = some (some (am_I y0), h) :=
  (am_xs_run am_ms 156 [(.ireturn, 1, [0])] 24 _ _ h (by decide +kernel)).trans rfl
set_option maxHeartbeats 4000000 in
theorem bk_158_0 (x0 : Nat) (x1 : Int) (h : am_H) : am_run am_ms 158 0 [am_R x0, am_I x1] [] h = ((am_gfI h x0 2 1).bind fun f1 => (if 41 = 0 then none else some (some (am_I (am_rem (am_w (f1 + x1)) 41)), h))) :=
  (am_xs_run am_ms 158 [(.aload_n 0, 1, []), (.getfield 15, 3, [2, 1, 2024, 0]), (.iload_n 1, 1, []), (.iadd, 1, []), (.bipush 41, 2, []), (.irem, 1, []), (.ireturn, 1, [0])] 0 _ _ h (by decide +kernel)).trans rfl
theorem en_158 (x0 : Nat) (x1 : Int) (h : am_H) : am_call am_ms 158 [am_R x0, am_I x1] h = am_run am_ms 158 0 [am_R x0, am_I x1] [] h := rfl
set_option maxHeartbeats 4000000 in
theorem bk_159_0 (x0 : Nat) (h : am_H) : am_run am_ms 159 0 [am_R x0] [] h = ((am_gfI h x0 2 2).bind fun f1 => (bif decide (40 ≤ f1) then am_run am_ms 159 22 [am_R x0] [] h else ((am_gfI h x0 2 2).bind fun f2 => ((am_pf h x0 2 2 (am_I (am_w (f2 + 1)))).bind fun h3 => am_run am_ms 159 31 [am_R x0] [] h3)))) :=
  (am_xs_run am_ms 159 [(.aload_n 0, 1, []), (.getfield 19, 3, [2, 2, 2025, 0]), (.bipush 40, 2, []), (.if_icmp .ge 16, 3, []), (.aload_n 0, 1, []), (.dup, 1, []), (.getfield 19, 3, [2, 2, 2025, 0]), (.iconst 1, 1, []), (.iadd, 1, []), (.putfield 19, 3, [2, 2, 2025, 0]), (.goto 12, 3, [])] 0 _ _ h (by decide +kernel)).trans rfl
theorem en_159 (x0 : Nat) (h : am_H) : am_call am_ms 159 [am_R x0] h = am_run am_ms 159 0 [am_R x0] [] h := rfl
set_option maxHeartbeats 4000000 in
theorem bk_159_22 (x0 : Nat) (h : am_H) : am_run am_ms 159 22 [am_R x0] [] h = ((am_isc h x0 2).bind fun _ => ((am_cI 158 [am_R x0, am_I 1] h).bind fun r1 => ((am_pf r1.2 x0 2 1 (am_I r1.1)).bind fun h2 => am_run am_ms 159 31 [am_R x0] [] h2))) :=
  (am_xs_run am_ms 159 [(.aload_n 0, 1, []), (.aload_n 0, 1, []), (.iconst 1, 1, []), (.invokevirtual 22, 3, [0, 158, 2, 2, 1, 4013, 4015, 29]), (.putfield 15, 3, [2, 1, 2024, 0])] 22 _ _ h (by decide +kernel)).trans rfl
set_option maxHeartbeats 4000000 in
theorem bk_159_31 (x0 : Nat) (h : am_H) : am_run am_ms 159 31 [am_R x0] [] h = some (none, h) :=
  (am_xs_run am_ms 159 [(.return_, 1, [])] 31 _ _ h (by decide +kernel)).trans rfl
set_option maxHeartbeats 4000000 in
theorem bk_160_0 (x0 : Nat) (x1 : Int) (h : am_H) : am_run am_ms 160 0 [am_R x0, am_I x1, am_K 1] [] h = (bif decide (x1 < 0) then am_run am_ms 160 13 [am_R x0, am_I x1, am_K 1] [] h else ((am_gfR h x0 8 9).bind fun f1 => ((am_isc h f1 2).bind fun _ => ((am_cV 159 [am_R f1] h).bind fun h2 => some (some (am_I x1), h2))))) :=
  (am_xs_run am_ms 160 [(.iload_n 1, 1, []), (.ifCond .lt 12, 3, []), (.aload_n 0, 1, []), (.getfield 56, 3, [8, 9, 2046, 3]), (.invokevirtual 205, 3, [0, 159, 1, 2, 0, 4009, 4010, 4011]), (.iload_n 1, 1, []), (.ireturn, 1, [0])] 0 _ _ h (by decide +kernel)).trans rfl
theorem en_160 (x0 : Nat) (x1 : Int) (h : am_H) : am_call am_ms 160 [am_R x0, am_I x1] h = am_run am_ms 160 0 [am_R x0, am_I x1, am_K 1] [] h := rfl
set_option maxHeartbeats 4000000 in
theorem bk_160_13 (x0 : Nat) (x1 : Int) (h : am_H) : am_run am_ms 160 13 [am_R x0, am_I x1, am_K 1] [] h = ((am_gfR h x0 8 11).bind fun f1 => ((am_len h f1).bind fun n2 => (bif decide (n2 ≤ (am_w ((-1) - x1))) then am_run am_ms 160 36 [am_R x0, am_I x1, am_I (am_w ((-1) - x1))] [] h else ((am_gfR h x0 8 11).bind fun f3 => ((am_rd h f3 0 (am_w ((-1) - x1))).bind fun v4 => am_run am_ms 160 33 [am_R x0, am_I x1, am_I (am_w ((-1) - x1))] [am_I v4, am_I (am_w ((-1) - x1)), am_R f3] h))))) :=
  (am_xs_run am_ms 160 [(.iconst (-1), 1, []), (.iload_n 1, 1, []), (.isub, 1, []), (.istore_n 2, 1, []), (.iload_n 2, 1, []), (.aload_n 0, 1, []), (.getfield 67, 3, [8, 11, 2048, 3]), (.arraylength, 1, []), (.if_icmp .ge 13, 3, []), (.aload_n 0, 1, []), (.getfield 67, 3, [8, 11, 2048, 3]), (.iload_n 2, 1, []), (.dup2, 1, []), (.iaload, 1, [])] 13 _ _ h (by decide +kernel)).trans rfl
set_option maxHeartbeats 4000000 in
theorem bk_160_33 (x0 : Nat) (x1 : Int) (x2 : Int) (y0 : Int) (y1 : Int) (y2 : Nat) (h : am_H) : am_run am_ms 160 33 [am_R x0, am_I x1, am_I x2] [am_I y0, am_I y1, am_R y2] h = ((am_wr h y2 0 y1 (am_w (y0 + 1))).bind fun h1 => am_run am_ms 160 36 [am_R x0, am_I x1, am_I x2] [] h1) :=
  (am_xs_run am_ms 160 [(.iconst 1, 1, []), (.iadd, 1, []), (.iastore, 1, [])] 33 _ _ h (by decide +kernel)).trans rfl
set_option maxHeartbeats 4000000 in
theorem bk_160_36 (x0 : Nat) (x1 : Int) (x2 : Int) (h : am_H) : am_run am_ms 160 36 [am_R x0, am_I x1, am_I x2] [] h = some (some (am_I (-1)), h) :=
  (am_xs_run am_ms 160 [(.iconst (-1), 1, []), (.ireturn, 1, [0])] 36 _ _ h (by decide +kernel)).trans rfl
set_option maxHeartbeats 4000000 in
theorem bk_161_0 (x0 : Nat) (x1 : Nat) (h : am_H) : am_run am_ms 161 0 [am_R x0, am_R x1, am_K 1] [] h = ((am_gfI h x0 2 2).bind fun f1 => ((am_isc h x0 2).bind fun _ => ((am_cI 158 [am_R x0, am_I f1] h).bind fun r2 => ((am_gfR r2.2 x0 2 0).bind fun f3 => ((am_rr r2.2 f3 r2.1).bind fun r4 => match r4 with
      | none => ((am_gfR r2.2 x0 2 0).bind fun f6 => am_run am_ms 161 26 [am_R x0, am_R x1, am_I r2.1] [am_R r2.2.2.1, am_I r2.1, am_R f6] (am_push r2.2 (am_ob 1 (am_dfl 1)) 14))
      | some b5 => am_run am_ms 161 31 [am_R x0, am_R x1, am_I r2.1] [] r2.2))))) :=
  (am_xs_run am_ms 161 [(.aload_n 0, 1, []), (.aload_n 0, 1, []), (.getfield 19, 3, [2, 2, 2025, 0]), (.invokevirtual 22, 3, [0, 158, 2, 2, 1, 4013, 4015, 29]), (.istore_n 2, 1, []), (.aload_n 0, 1, []), (.getfield 11, 3, [2, 0, 2023, 3]), (.iload_n 2, 1, []), (.aaload, 1, []), (.ifnonnull 16, 3, []), (.aload_n 0, 1, []), (.getfield 11, 3, [2, 0, 2023, 3]), (.iload_n 2, 1, []), (.new 9, 3, [1, 14, 2021, 1118, 1005])] 0 _ _ h (by decide +kernel)).trans rfl
theorem en_161 (x0 : Nat) (x1 : Nat) (h : am_H) : am_call am_ms 161 [am_R x0, am_R x1] h = am_run am_ms 161 0 [am_R x0, am_R x1, am_K 1] [] h := rfl
set_option maxHeartbeats 4000000 in
theorem bk_161_26 (x0 : Nat) (x1 : Nat) (x2 : Int) (y0 : Nat) (y1 : Int) (y2 : Nat) (h : am_H) : am_run am_ms 161 26 [am_R x0, am_R x1, am_I x2] [am_R y0, am_I y1, am_R y2] h = ((am_cV 4 [am_R y0] h).bind fun h1 => ((am_wrr h1 y2 y1 y0).bind fun h2 => am_run am_ms 161 31 [am_R x0, am_R x1, am_I x2] [] h2)) :=
  (am_xs_run am_ms 161 [(.dup, 1, []), (.invokespecial 26, 3, [3, 4, 1, 0, 0, 4021, 1120]), (.aastore, 1, [])] 26 _ _ h (by decide +kernel)).trans rfl
set_option maxHeartbeats 4000000 in
theorem bk_161_31 (x0 : Nat) (x1 : Nat) (x2 : Int) (h : am_H) : am_run am_ms 161 31 [am_R x0, am_R x1, am_I x2] [] h = ((am_gfR h x0 2 0).bind fun f1 => ((am_rr h f1 x2).bind fun r2 => match r2 with
      | none => none
      | some b3 => ((am_isc h b3 1).bind fun _ => ((am_cV 77 [am_R b3, am_R x1] h).bind fun h4 => some (none, h4))))) :=
  (am_xs_run am_ms 161 [(.aload_n 0, 1, []), (.getfield 11, 3, [2, 0, 2023, 3]), (.iload_n 2, 1, []), (.aaload, 1, []), (.aload_n 1, 1, []), (.invokevirtual 27, 3, [0, 77, 2, 1, 0, 4022, 3083, 3084]), (.return_, 1, [])] 31 _ _ h (by decide +kernel)).trans rfl
set_option maxHeartbeats 4000000 in
theorem bk_162_0 (x0 : Nat) (x1 : Int) (x2 : Int) (h : am_H) : am_run am_ms 162 0 [am_R x0, am_I x1, am_I x2] [] h = ((am_gfR h x0 8 4).bind fun f1 => ((am_isc h f1 1).bind fun _ => ((am_cI 69 [am_R f1, am_I x1] h).bind fun r2 => (bif decide (r2.1 = 0) then am_run am_ms 162 29 [am_R x0, am_I x1, am_I x2] [] r2.2 else (bif decide (x2 < 0) then am_run am_ms 162 22 [am_R x0, am_I x1, am_I x2] [] r2.2 else (bif decide (x2 < 1000) then am_run am_ms 162 29 [am_R x0, am_I x1, am_I x2] [] r2.2 else am_run am_ms 162 22 [am_R x0, am_I x1, am_I x2] [] r2.2)))))) :=
  (am_xs_run am_ms 162 [(.aload_n 0, 1, []), (.getfield 34, 3, [8, 4, 2041, 3]), (.iload_n 1, 1, []), (.invokevirtual 184, 3, [0, 69, 2, 1, 1, 3222, 3055, 3056]), (.ifCond .eq 21, 3, []), (.iload_n 2, 1, []), (.ifCond .lt 10, 3, []), (.iload_n 2, 1, []), (.sipush 1000, 3, []), (.if_icmp .lt 10, 3, [])] 0 _ _ h (by decide +kernel)).trans rfl
theorem en_162 (x0 : Nat) (x1 : Int) (x2 : Int) (h : am_H) : am_call am_ms 162 [am_R x0, am_I x1, am_I x2] h = am_run am_ms 162 0 [am_R x0, am_I x1, am_I x2] [] h := rfl
set_option maxHeartbeats 4000000 in
theorem bk_162_22 (x0 : Nat) (x1 : Int) (x2 : Int) (h : am_H) : am_run am_ms 162 22 [am_R x0, am_I x1, am_I x2] [] h = ((am_isc h x0 8).bind fun _ => ((am_cI 160 [am_R x0, am_I (-2)] h).bind fun r1 => some (some (am_I r1.1), r1.2))) :=
  (am_xs_run am_ms 162 [(.aload_n 0, 1, []), (.bipush (-2), 2, []), (.invokevirtual 208, 3, [0, 160, 2, 8, 1, 4005, 4007, 28]), (.ireturn, 1, [0])] 22 _ _ h (by decide +kernel)).trans rfl
set_option maxHeartbeats 4000000 in
theorem bk_162_29 (x0 : Nat) (x1 : Int) (x2 : Int) (h : am_H) : am_run am_ms 162 29 [am_R x0, am_I x1, am_I x2] [] h = ((am_gfR h x0 8 9).bind fun f1 => ((am_gfR h x0 8 4).bind fun f2 => ((am_isc h f1 2).bind fun _ => ((am_cV 161 [am_R f1, am_R f2] h).bind fun h3 => ((am_gfR h3 x0 8 4).bind fun f4 => ((am_gfR h3 x0 8 5).bind fun f5 => ((am_isc h3 f4 1).bind fun _ => ((am_cI 102 [am_R f4, am_I x1, am_I x2, am_R f5] h3).bind fun r6 => ((am_isc r6.2 x0 8).bind fun _ => ((am_cI 160 [am_R x0, am_I r6.1] r6.2).bind fun r7 => am_run am_ms 162 57 [am_R x0, am_I x1, am_I x2] [am_I r7.1] r7.2)))))))))) :=
  (am_xs_run am_ms 162 [(.aload_n 0, 1, []), (.getfield 56, 3, [8, 9, 2046, 3]), (.aload_n 0, 1, []), (.getfield 34, 3, [8, 4, 2041, 3]), (.invokevirtual 211, 3, [0, 161, 2, 2, 0, 4017, 4018, 4019]), (.aload_n 0, 1, []), (.aload_n 0, 1, []), (.getfield 34, 3, [8, 4, 2041, 3]), (.iload_n 1, 1, []), (.iload_n 2, 1, []), (.aload_n 0, 1, []), (.getfield 38, 3, [8, 5, 2042, 3]), (.invokevirtual 120, 3, [0, 102, 4, 1, 1, 3050, 3051, 3052]), (.invokevirtual 208, 3, [0, 160, 2, 8, 1, 4005, 4007, 28])] 29 _ _ h (by decide +kernel)).trans rfl
set_option maxHeartbeats 4000000 in
theorem bk_162_57 (x0 : Nat) (x1 : Int) (x2 : Int) (y0 : Int) (h : am_H) : am_run am_ms 162 57 [am_R x0, am_I x1, am_I x2] [am_I y0] h = some (some (am_I y0), h) :=
  (am_xs_run am_ms 162 [(.ireturn, 1, [0])] 57 _ _ h (by decide +kernel)).trans rfl
set_option maxHeartbeats 4000000 in
theorem bk_174_0 (x0 : Nat) (x1 : Int) (h : am_H) : am_run am_ms 174 0 [am_R x0, am_I x1] [] h = ((am_gfR h x0 8 9).bind fun f1 => ((am_gfR h x0 8 4).bind fun f2 => ((am_isc h f1 2).bind fun _ => ((am_cV 161 [am_R f1, am_R f2] h).bind fun h3 => ((am_gfR h3 x0 8 4).bind fun f4 => ((am_gfR h3 x0 8 5).bind fun f5 => ((am_isc h3 f4 1).bind fun _ => ((am_cI 102 [am_R f4, am_I x1, am_I (-1), am_R f5] h3).bind fun r6 => ((am_isc r6.2 x0 8).bind fun _ => ((am_cI 160 [am_R x0, am_I r6.1] r6.2).bind fun r7 => am_run am_ms 174 28 [am_R x0, am_I x1] [am_I r7.1] r7.2)))))))))) :=
  (am_xs_run am_ms 174 [(.aload_n 0, 1, []), (.getfield 56, 3, [8, 9, 2046, 3]), (.aload_n 0, 1, []), (.getfield 34, 3, [8, 4, 2041, 3]), (.invokevirtual 211, 3, [0, 161, 2, 2, 0, 4017, 4018, 4019]), (.aload_n 0, 1, []), (.aload_n 0, 1, []), (.getfield 34, 3, [8, 4, 2041, 3]), (.iload_n 1, 1, []), (.iconst (-1), 1, []), (.aload_n 0, 1, []), (.getfield 38, 3, [8, 5, 2042, 3]), (.invokevirtual 120, 3, [0, 102, 4, 1, 1, 3050, 3051, 3052]), (.invokevirtual 208, 3, [0, 160, 2, 8, 1, 4005, 4007, 28])] 0 _ _ h (by decide +kernel)).trans rfl
theorem en_174 (x0 : Nat) (x1 : Int) (h : am_H) : am_call am_ms 174 [am_R x0, am_I x1] h = am_run am_ms 174 0 [am_R x0, am_I x1] [] h := rfl
set_option maxHeartbeats 4000000 in
theorem bk_174_28 (x0 : Nat) (x1 : Int) (y0 : Int) (h : am_H) : am_run am_ms 174 28 [am_R x0, am_I x1] [am_I y0] h = some (some (am_I y0), h) :=
  (am_xs_run am_ms 174 [(.ireturn, 1, [0])] 28 _ _ h (by decide +kernel)).trans rfl
set_option maxHeartbeats 4000000 in
theorem bk_177_0 (x0 : Nat) (h : am_H) : am_run am_ms 177 0 [am_R x0] [] h = ((am_gfR h x0 8 9).bind fun f1 => ((am_gfR h x0 8 4).bind fun f2 => ((am_isc h f1 2).bind fun _ => ((am_cV 161 [am_R f1, am_R f2] h).bind fun h3 => ((am_gfR h3 x0 8 4).bind fun f4 => ((am_isc h3 f4 1).bind fun _ => ((am_cI 176 [am_R f4] h3).bind fun r5 => ((am_isc r5.2 x0 8).bind fun _ => ((am_cI 160 [am_R x0, am_I r5.1] r5.2).bind fun r6 => some (some (am_I r6.1), r6.2)))))))))) :=
  (am_xs_run am_ms 177 [(.aload_n 0, 1, []), (.getfield 56, 3, [8, 9, 2046, 3]), (.aload_n 0, 1, []), (.getfield 34, 3, [8, 4, 2041, 3]), (.invokevirtual 211, 3, [0, 161, 2, 2, 0, 4017, 4018, 4019]), (.aload_n 0, 1, []), (.aload_n 0, 1, []), (.getfield 34, 3, [8, 4, 2041, 3]), (.invokevirtual 214, 3, [0, 176, 1, 1, 1, 4031, 4032, 4033]), (.invokevirtual 208, 3, [0, 160, 2, 8, 1, 4005, 4007, 28]), (.ireturn, 1, [0])] 0 _ _ h (by decide +kernel)).trans rfl
theorem en_177 (x0 : Nat) (h : am_H) : am_call am_ms 177 [am_R x0] h = am_run am_ms 177 0 [am_R x0] [] h := rfl
set_option maxHeartbeats 4000000 in
theorem bk_183_0 (x0 : Nat) (h : am_H) : am_run am_ms 183 0 [am_R x0] [] h = ((am_gfR h x0 8 9).bind fun f1 => ((am_gfR h x0 8 4).bind fun f2 => ((am_isc h f1 2).bind fun _ => ((am_cV 161 [am_R f1, am_R f2] h).bind fun h3 => ((am_gfR h3 x0 8 4).bind fun f4 => ((am_isc h3 f4 1).bind fun _ => ((am_cI 182 [am_R f4] h3).bind fun r5 => ((am_isc r5.2 x0 8).bind fun _ => ((am_cI 160 [am_R x0, am_I r5.1] r5.2).bind fun r6 => some (some (am_I r6.1), r6.2)))))))))) :=
  (am_xs_run am_ms 183 [(.aload_n 0, 1, []), (.getfield 56, 3, [8, 9, 2046, 3]), (.aload_n 0, 1, []), (.getfield 34, 3, [8, 4, 2041, 3]), (.invokevirtual 211, 3, [0, 161, 2, 2, 0, 4017, 4018, 4019]), (.aload_n 0, 1, []), (.aload_n 0, 1, []), (.getfield 34, 3, [8, 4, 2041, 3]), (.invokevirtual 217, 3, [0, 182, 1, 1, 1, 4039, 4040, 4041]), (.invokevirtual 208, 3, [0, 160, 2, 8, 1, 4005, 4007, 28]), (.ireturn, 1, [0])] 0 _ _ h (by decide +kernel)).trans rfl
theorem en_183 (x0 : Nat) (h : am_H) : am_call am_ms 183 [am_R x0] h = am_run am_ms 183 0 [am_R x0] [] h := rfl
set_option maxHeartbeats 4000000 in
theorem bk_186_0 (x0 : Nat) (x1 : Int) (h : am_H) : am_run am_ms 186 0 [am_R x0, am_I x1] [] h = ((am_gfR h x0 8 9).bind fun f1 => ((am_gfR h x0 8 4).bind fun f2 => ((am_isc h f1 2).bind fun _ => ((am_cV 161 [am_R f1, am_R f2] h).bind fun h3 => ((am_gfR h3 x0 8 4).bind fun f4 => ((am_isc h3 f4 1).bind fun _ => ((am_cI 185 [am_R f4, am_I x1] h3).bind fun r5 => ((am_isc r5.2 x0 8).bind fun _ => ((am_cI 160 [am_R x0, am_I r5.1] r5.2).bind fun r6 => some (some (am_I r6.1), r6.2)))))))))) :=
  (am_xs_run am_ms 186 [(.aload_n 0, 1, []), (.getfield 56, 3, [8, 9, 2046, 3]), (.aload_n 0, 1, []), (.getfield 34, 3, [8, 4, 2041, 3]), (.invokevirtual 211, 3, [0, 161, 2, 2, 0, 4017, 4018, 4019]), (.aload_n 0, 1, []), (.aload_n 0, 1, []), (.getfield 34, 3, [8, 4, 2041, 3]), (.iload_n 1, 1, []), (.invokevirtual 220, 3, [0, 185, 2, 1, 1, 4060, 4061, 4062]), (.invokevirtual 208, 3, [0, 160, 2, 8, 1, 4005, 4007, 28]), (.ireturn, 1, [0])] 0 _ _ h (by decide +kernel)).trans rfl
theorem en_186 (x0 : Nat) (x1 : Int) (h : am_H) : am_call am_ms 186 [am_R x0, am_I x1] h = am_run am_ms 186 0 [am_R x0, am_I x1] [] h := rfl
set_option maxHeartbeats 4000000 in
theorem bk_189_0 (x0 : Nat) (x1 : Int) (h : am_H) : am_run am_ms 189 0 [am_R x0, am_I x1] [] h = ((am_gfR h x0 8 9).bind fun f1 => ((am_gfR h x0 8 4).bind fun f2 => ((am_isc h f1 2).bind fun _ => ((am_cV 161 [am_R f1, am_R f2] h).bind fun h3 => ((am_gfR h3 x0 8 4).bind fun f4 => ((am_isc h3 f4 1).bind fun _ => ((am_cI 188 [am_R f4, am_I x1] h3).bind fun r5 => ((am_isc r5.2 x0 8).bind fun _ => ((am_cI 160 [am_R x0, am_I r5.1] r5.2).bind fun r6 => some (some (am_I r6.1), r6.2)))))))))) :=
  (am_xs_run am_ms 189 [(.aload_n 0, 1, []), (.getfield 56, 3, [8, 9, 2046, 3]), (.aload_n 0, 1, []), (.getfield 34, 3, [8, 4, 2041, 3]), (.invokevirtual 211, 3, [0, 161, 2, 2, 0, 4017, 4018, 4019]), (.aload_n 0, 1, []), (.aload_n 0, 1, []), (.getfield 34, 3, [8, 4, 2041, 3]), (.iload_n 1, 1, []), (.invokevirtual 223, 3, [0, 188, 2, 1, 1, 4068, 4069, 4070]), (.invokevirtual 208, 3, [0, 160, 2, 8, 1, 4005, 4007, 28]), (.ireturn, 1, [0])] 0 _ _ h (by decide +kernel)).trans rfl
theorem en_189 (x0 : Nat) (x1 : Int) (h : am_H) : am_call am_ms 189 [am_R x0, am_I x1] h = am_run am_ms 189 0 [am_R x0, am_I x1] [] h := rfl
set_option maxHeartbeats 4000000 in
theorem bk_192_0 (x0 : Nat) (x1 : Int) (h : am_H) : am_run am_ms 192 0 [am_R x0, am_I x1] [] h = ((am_gfR h x0 8 9).bind fun f1 => ((am_gfR h x0 8 4).bind fun f2 => ((am_isc h f1 2).bind fun _ => ((am_cV 161 [am_R f1, am_R f2] h).bind fun h3 => ((am_gfR h3 x0 8 4).bind fun f4 => ((am_isc h3 f4 1).bind fun _ => ((am_cI 191 [am_R f4, am_I x1] h3).bind fun r5 => ((am_isc r5.2 x0 8).bind fun _ => ((am_cI 160 [am_R x0, am_I r5.1] r5.2).bind fun r6 => some (some (am_I r6.1), r6.2)))))))))) :=
  (am_xs_run am_ms 192 [(.aload_n 0, 1, []), (.getfield 56, 3, [8, 9, 2046, 3]), (.aload_n 0, 1, []), (.getfield 34, 3, [8, 4, 2041, 3]), (.invokevirtual 211, 3, [0, 161, 2, 2, 0, 4017, 4018, 4019]), (.aload_n 0, 1, []), (.aload_n 0, 1, []), (.getfield 34, 3, [8, 4, 2041, 3]), (.iload_n 1, 1, []), (.invokevirtual 226, 3, [0, 191, 2, 1, 1, 4076, 4077, 4078]), (.invokevirtual 208, 3, [0, 160, 2, 8, 1, 4005, 4007, 28]), (.ireturn, 1, [0])] 0 _ _ h (by decide +kernel)).trans rfl
theorem en_192 (x0 : Nat) (x1 : Int) (h : am_H) : am_call am_ms 192 [am_R x0, am_I x1] h = am_run am_ms 192 0 [am_R x0, am_I x1] [] h := rfl
set_option maxHeartbeats 4000000 in
theorem bk_195_0 (x0 : Nat) (x1 : Int) (h : am_H) : am_run am_ms 195 0 [am_R x0, am_I x1] [] h = ((am_gfR h x0 8 9).bind fun f1 => ((am_gfR h x0 8 4).bind fun f2 => ((am_isc h f1 2).bind fun _ => ((am_cV 161 [am_R f1, am_R f2] h).bind fun h3 => ((am_gfR h3 x0 8 4).bind fun f4 => ((am_isc h3 f4 1).bind fun _ => ((am_cI 194 [am_R f4, am_I x1] h3).bind fun r5 => ((am_isc r5.2 x0 8).bind fun _ => ((am_cI 160 [am_R x0, am_I r5.1] r5.2).bind fun r6 => some (some (am_I r6.1), r6.2)))))))))) :=
  (am_xs_run am_ms 195 [(.aload_n 0, 1, []), (.getfield 56, 3, [8, 9, 2046, 3]), (.aload_n 0, 1, []), (.getfield 34, 3, [8, 4, 2041, 3]), (.invokevirtual 211, 3, [0, 161, 2, 2, 0, 4017, 4018, 4019]), (.aload_n 0, 1, []), (.aload_n 0, 1, []), (.getfield 34, 3, [8, 4, 2041, 3]), (.iload_n 1, 1, []), (.invokevirtual 229, 3, [0, 194, 2, 1, 1, 4084, 4085, 4086]), (.invokevirtual 208, 3, [0, 160, 2, 8, 1, 4005, 4007, 28]), (.ireturn, 1, [0])] 0 _ _ h (by decide +kernel)).trans rfl
theorem en_195 (x0 : Nat) (x1 : Int) (h : am_H) : am_call am_ms 195 [am_R x0, am_I x1] h = am_run am_ms 195 0 [am_R x0, am_I x1] [] h := rfl
set_option maxHeartbeats 4000000 in
theorem bk_197_0 (x0 : Int) (h : am_H) : am_run am_ms 197 0 [am_I x0] [] h = (bif decide (x0 < 0) then am_run am_ms 197 13 [am_I x0] [] h else (bif decide (4 ≤ x0) then am_run am_ms 197 13 [am_I x0] [] h else am_run am_ms 197 14 [am_I x0] [am_I 1] h)) :=
  (am_xs_run am_ms 197 [(.iload_n 0, 1, []), (.ifCond .lt 12, 3, []), (.iload_n 0, 1, []), (.iconst 4, 1, []), (.if_icmp .ge 7, 3, []), (.iconst 1, 1, []), (.goto 4, 3, [])] 0 _ _ h (by decide +kernel)).trans rfl
theorem en_197 (x0 : Int) (h : am_H) : am_call am_ms 197 [am_I x0] h = am_run am_ms 197 0 [am_I x0] [] h := rfl
set_option maxHeartbeats 4000000 in
theorem bk_197_13 (x0 : Int) (h : am_H) : am_run am_ms 197 13 [am_I x0] [] h = am_run am_ms 197 14 [am_I x0] [am_I 0] h :=
  (am_xs_run am_ms 197 [(.iconst 0, 1, [])] 13 _ _ h (by decide +kernel)).trans rfl
set_option maxHeartbeats 4000000 in
theorem bk_197_14 (x0 : Int) (y0 : Int) (h : am_H) : am_run am_ms 197 14 [am_I x0] [am_I y0] h = (bif am_rok 1 y0 then some (some (am_I y0), h) else none) :=
  (am_xs_run am_ms 197 [(.ireturn, 1, [1])] 14 _ _ h (by decide +kernel)).trans rfl
set_option maxHeartbeats 4000000 in
theorem bk_199_0 (x0 : Nat) (x1 : Int) (h : am_H) : am_run am_ms 199 0 [am_R x0, am_I x1] [] h = ((am_gfR h x0 8 9).bind fun f1 => ((am_gfR h x0 8 4).bind fun f2 => ((am_isc h f1 2).bind fun _ => ((am_cV 161 [am_R f1, am_R f2] h).bind fun h3 => ((am_gfR h3 x0 8 4).bind fun f4 => ((am_isc h3 f4 1).bind fun _ => ((am_cI 198 [am_R f4, am_I x1] h3).bind fun r5 => ((am_isc r5.2 x0 8).bind fun _ => ((am_cI 160 [am_R x0, am_I r5.1] r5.2).bind fun r6 => some (some (am_I r6.1), r6.2)))))))))) :=
  (am_xs_run am_ms 199 [(.aload_n 0, 1, []), (.getfield 56, 3, [8, 9, 2046, 3]), (.aload_n 0, 1, []), (.getfield 34, 3, [8, 4, 2041, 3]), (.invokevirtual 211, 3, [0, 161, 2, 2, 0, 4017, 4018, 4019]), (.aload_n 0, 1, []), (.aload_n 0, 1, []), (.getfield 34, 3, [8, 4, 2041, 3]), (.iload_n 1, 1, []), (.invokevirtual 232, 3, [0, 198, 2, 1, 1, 4092, 4093, 4094]), (.invokevirtual 208, 3, [0, 160, 2, 8, 1, 4005, 4007, 28]), (.ireturn, 1, [0])] 0 _ _ h (by decide +kernel)).trans rfl
theorem en_199 (x0 : Nat) (x1 : Int) (h : am_H) : am_call am_ms 199 [am_R x0, am_I x1] h = am_run am_ms 199 0 [am_R x0, am_I x1] [] h := rfl
set_option maxHeartbeats 4000000 in
theorem bk_202_0 (x0 : Nat) (x1 : Int) (h : am_H) : am_run am_ms 202 0 [am_R x0, am_I x1, am_K 1] [] h = am_run am_ms 202 1 [am_R x0, am_I x1, am_K 1] [am_I x1] h :=
  (am_xs_run am_ms 202 [(.iload_n 1, 1, [])] 0 _ _ h (by decide +kernel)).trans rfl
theorem en_202 (x0 : Nat) (x1 : Int) (h : am_H) : am_call am_ms 202 [am_R x0, am_I x1] h = am_run am_ms 202 0 [am_R x0, am_I x1, am_K 1] [] h := rfl
theorem bk_202_1 (x0 : Nat) (x1 : Int) (y0 : Int) (h : am_H) : am_run am_ms 202 1 [am_R x0, am_I x1, am_K 1] [am_I y0] h = am_run am_ms 202 (am_tsw 1 81 5 7 #[27, 49, 57] y0) [am_R x0, am_I x1, am_K 1] [] h := by
  rw [am_run_eq, show am_code am_ms 202 1 = some (.tableswitch 81 5 7 #[27, 49, 57], 27, []) from by decide +kernel]
  rfl
set_option maxHeartbeats 4000000 in
theorem bk_202_28 (x0 : Nat) (x1 : Int) (h : am_H) : am_run am_ms 202 28 [am_R x0, am_I x1, am_K 1] [] h = ((am_gfR h x0 8 4).bind fun f1 => ((am_gfR h x0 8 10).bind fun f2 => ((am_isc h f2 0).bind fun _ => ((am_cI 201 [am_R f2, am_I 32] h).bind fun r3 => ((am_gfR r3.2 x0 8 5).bind fun f4 => ((am_isc r3.2 f1 1).bind fun _ => ((am_cI 102 [am_R f1, am_I r3.1, am_I (-1), am_R f4] r3.2).bind fun r5 => some (some (am_I r5.1), r5.2)))))))) :=
  (am_xs_run am_ms 202 [(.aload_n 0, 1, []), (.getfield 34, 3, [8, 4, 2041, 3]), (.aload_n 0, 1, []), (.getfield 63, 3, [8, 10, 2047, 3]), (.bipush 32, 2, []), (.invokevirtual 239, 3, [0, 201, 2, 0, 1, 4103, 4104, 4105]), (.iconst (-1), 1, []), (.aload_n 0, 1, []), (.getfield 38, 3, [8, 5, 2042, 3]), (.invokevirtual 120, 3, [0, 102, 4, 1, 1, 3050, 3051, 3052]), (.ireturn, 1, [0])] 28 _ _ h (by decide +kernel)).trans rfl
set_option maxHeartbeats 4000000 in
theorem bk_202_50 (x0 : Nat) (x1 : Int) (h : am_H) : am_run am_ms 202 50 [am_R x0, am_I x1, am_K 1] [] h = ((am_gfR h x0 8 4).bind fun f1 => ((am_isc h f1 1).bind fun _ => ((am_cI 176 [am_R f1] h).bind fun r2 => some (some (am_I r2.1), r2.2)))) :=
  (am_xs_run am_ms 202 [(.aload_n 0, 1, []), (.getfield 34, 3, [8, 4, 2041, 3]), (.invokevirtual 214, 3, [0, 176, 1, 1, 1, 4031, 4032, 4033]), (.ireturn, 1, [0])] 50 _ _ h (by decide +kernel)).trans rfl
set_option maxHeartbeats 4000000 in
theorem bk_202_58 (x0 : Nat) (x1 : Int) (h : am_H) : am_run am_ms 202 58 [am_R x0, am_I x1, am_K 1] [] h = ((am_gfR h x0 8 4).bind fun f1 => ((am_gfR h x0 8 10).bind fun f2 => ((am_gfR h x0 8 4).bind fun f3 => ((am_gfR h f3 1 0).bind fun f4 => ((am_rd h f4 0 0).bind fun v5 => ((am_isc h f2 0).bind fun _ => ((am_cI 201 [am_R f2, am_I v5] h).bind fun r6 => ((am_isc r6.2 f1 1).bind fun _ => ((am_cI 191 [am_R f1, am_I r6.1] r6.2).bind fun r7 => some (some (am_I r7.1), r7.2)))))))))) :=
  (am_xs_run am_ms 202 [(.aload_n 0, 1, []), (.getfield 34, 3, [8, 4, 2041, 3]), (.aload_n 0, 1, []), (.getfield 63, 3, [8, 10, 2047, 3]), (.aload_n 0, 1, []), (.getfield 34, 3, [8, 4, 2041, 3]), (.getfield 124, 3, [1, 0, 1149, 3]), (.iconst 0, 1, []), (.iaload, 1, []), (.invokevirtual 239, 3, [0, 201, 2, 0, 1, 4103, 4104, 4105]), (.invokevirtual 226, 3, [0, 191, 2, 1, 1, 4076, 4077, 4078]), (.ireturn, 1, [0])] 58 _ _ h (by decide +kernel)).trans rfl
set_option maxHeartbeats 4000000 in
theorem bk_202_82 (x0 : Nat) (x1 : Int) (h : am_H) : am_run am_ms 202 82 [am_R x0, am_I x1, am_K 1] [] h = ((am_gfR h x0 8 10).bind fun f1 => ((am_isc h f1 0).bind fun _ => ((am_cI 201 [am_R f1, am_I 32] h).bind fun r2 => ((am_gfR r2.2 x0 8 4).bind fun f3 => ((am_gfR r2.2 x0 8 10).bind fun f4 => ((am_isc r2.2 f4 0).bind fun _ => ((am_cI 201 [am_R f4, am_I 1000] r2.2).bind fun r5 => ((am_gfR r5.2 x0 8 5).bind fun f6 => am_run am_ms 202 111 [am_R x0, am_I x1, am_I r2.1] [am_R f6, am_I r5.1, am_I r2.1, am_R f3] r5.2)))))))) :=
  (am_xs_run am_ms 202 [(.aload_n 0, 1, []), (.getfield 63, 3, [8, 10, 2047, 3]), (.bipush 32, 2, []), (.invokevirtual 239, 3, [0, 201, 2, 0, 1, 4103, 4104, 4105]), (.istore_n 2, 1, []), (.aload_n 0, 1, []), (.getfield 34, 3, [8, 4, 2041, 3]), (.iload_n 2, 1, []), (.aload_n 0, 1, []), (.getfield 63, 3, [8, 10, 2047, 3]), (.sipush 1000, 3, []), (.invokevirtual 239, 3, [0, 201, 2, 0, 1, 4103, 4104, 4105]), (.aload_n 0, 1, []), (.getfield 38, 3, [8, 5, 2042, 3])] 82 _ _ h (by decide +kernel)).trans rfl
set_option maxHeartbeats 4000000 in
theorem bk_202_111 (x0 : Nat) (x1 : Int) (x2 : Int) (y0 : Nat) (y1 : Int) (y2 : Int) (y3 : Nat) (h : am_H) : am_run am_ms 202 111 [am_R x0, am_I x1, am_I x2] [am_R y0, am_I y1, am_I y2, am_R y3] h = ((am_isc h y3 1).bind fun _ => ((am_cI 102 [am_R y3, am_I y2, am_I y1, am_R y0] h).bind fun r1 => some (some (am_I r1.1), r1.2))) :=
  (am_xs_run am_ms 202 [(.invokevirtual 120, 3, [0, 102, 4, 1, 1, 3050, 3051, 3052]), (.ireturn, 1, [0])] 111 _ _ h (by decide +kernel)).trans rfl
set_option maxHeartbeats 4000000 in
theorem bk_203_0 (x0 : Nat) (x1 : Int) (x2 : Int) (h : am_H) : am_run am_ms 203 0 [am_R x0, am_I x1, am_L x2, am_K 1, am_K 1] [] h = ((am_isc h x0 8).bind fun _ => ((am_cI 137 [am_R x0] h).bind fun r1 => (bif decide (r1.1 = 0) then am_run am_ms 203 18 [am_R x0, am_I x1, am_L x2, am_K 1, am_K 1] [] r1.2 else (bif decide (x1 < 1) then am_run am_ms 203 18 [am_R x0, am_I x1, am_L x2, am_K 1, am_K 1] [] r1.2 else (bif decide (x1 ≤ 40) then am_run am_ms 203 20 [am_R x0, am_I x1, am_L x2, am_K 1, am_K 1] [] r1.2 else am_run am_ms 203 18 [am_R x0, am_I x1, am_L x2, am_K 1, am_K 1] [] r1.2))))) :=
  (am_xs_run am_ms 203 [(.aload_n 0, 1, []), (.invokevirtual 136, 3, [0, 137, 1, 8, 1, 3202, 3204, 27]), (.ifCond .eq 14, 3, []), (.iload_n 1, 1, []), (.iconst 1, 1, []), (.if_icmp .lt 9, 3, []), (.iload_n 1, 1, []), (.bipush 40, 2, []), (.if_icmp .le 5, 3, [])] 0 _ _ h (by decide +kernel)).trans rfl
theorem en_203 (x0 : Nat) (x1 : Int) (x2 : Int) (h : am_H) : am_call am_ms 203 [am_R x0, am_I x1, am_L x2] h = am_run am_ms 203 0 [am_R x0, am_I x1, am_L x2, am_K 1, am_K 1] [] h := rfl
set_option maxHeartbeats 4000000 in
theorem bk_203_18 (x0 : Nat) (x1 : Int) (x2 : Int) (h : am_H) : am_run am_ms 203 18 [am_R x0, am_I x1, am_L x2, am_K 1, am_K 1] [] h = some (some (am_I (-1)), h) :=
  (am_xs_run am_ms 203 [(.iconst (-1), 1, []), (.ireturn, 1, [0])] 18 _ _ h (by decide +kernel)).trans rfl
set_option maxHeartbeats 4000000 in
theorem bk_203_20 (x0 : Nat) (x1 : Int) (x2 : Int) (h : am_H) : am_run am_ms 203 20 [am_R x0, am_I x1, am_L x2, am_K 1, am_K 1] [] h = ((am_gfR h x0 8 10).bind fun f1 => ((am_pf h f1 0 0 (am_L x2)).bind fun h2 => am_run am_ms 203 31 [am_R x0, am_I x1, am_L x2, am_K 1, am_I 0] [] h2)) :=
  (am_xs_run am_ms 203 [(.aload_n 0, 1, []), (.getfield 63, 3, [8, 10, 2047, 3]), (.lload_n 2, 1, []), (.putfield 235, 3, [0, 0, 1225, 2]), (.iconst 0, 1, []), (.istore 4, 2, [])] 20 _ _ h (by decide +kernel)).trans rfl
set_option maxHeartbeats 4000000 in
theorem bk_203_31 (x0 : Nat) (x1 : Int) (x2 : Int) (x4 : Int) (h : am_H) : am_run am_ms 203 31 [am_R x0, am_I x1, am_L x2, am_K 1, am_I x4] [] h = (bif decide (x1 ≤ x4) then am_run am_ms 203 77 [am_R x0, am_I x1, am_L x2, am_K 1, am_I x4] [] h else ((am_gfR h x0 8 9).bind fun f1 => ((am_gfR h x0 8 4).bind fun f2 => ((am_isc h f1 2).bind fun _ => ((am_cV 161 [am_R f1, am_R f2] h).bind fun h3 => ((am_gfR h3 x0 8 10).bind fun f4 => ((am_isc h3 f4 0).bind fun _ => ((am_cI 201 [am_R f4, am_I 8] h3).bind fun r5 => ((am_isc r5.2 x0 8).bind fun _ => ((am_cI 202 [am_R x0, am_I r5.1] r5.2).bind fun r6 => am_run am_ms 203 61 [am_R x0, am_I x1, am_L x2, am_K 1, am_I x4] [am_I r6.1] r6.2)))))))))) :=
  (am_xs_run am_ms 203 [(.iload 4, 2, []), (.iload_n 1, 1, []), (.if_icmp .ge 43, 3, []), (.aload_n 0, 1, []), (.getfield 56, 3, [8, 9, 2046, 3]), (.aload_n 0, 1, []), (.getfield 34, 3, [8, 4, 2041, 3]), (.invokevirtual 211, 3, [0, 161, 2, 2, 0, 4017, 4018, 4019]), (.aload_n 0, 1, []), (.aload_n 0, 1, []), (.getfield 63, 3, [8, 10, 2047, 3]), (.bipush 8, 2, []), (.invokevirtual 239, 3, [0, 201, 2, 0, 1, 4103, 4104, 4105]), (.invokevirtual 242, 3, [0, 202, 2, 8, 1, 4109, 4111, 32])] 31 _ _ h (by decide +kernel)).trans rfl
set_option maxHeartbeats 4000000 in
theorem bk_203_61 (x0 : Nat) (x1 : Int) (x2 : Int) (x4 : Int) (y0 : Int) (h : am_H) : am_run am_ms 203 61 [am_R x0, am_I x1, am_L x2, am_K 1, am_I x4] [am_I y0] h = (bif decide (y0 < 0) then am_run am_ms 203 71 [am_R x0, am_I x1, am_L x2, am_K 1, am_I x4] [] h else ((am_gfR h x0 8 9).bind fun f1 => ((am_isc h f1 2).bind fun _ => ((am_cV 159 [am_R f1] h).bind fun h2 => am_run am_ms 203 71 [am_R x0, am_I x1, am_L x2, am_K 1, am_I x4] [] h2)))) :=
  (am_xs_run am_ms 203 [(.ifCond .lt 10, 3, []), (.aload_n 0, 1, []), (.getfield 56, 3, [8, 9, 2046, 3]), (.invokevirtual 205, 3, [0, 159, 1, 2, 0, 4009, 4010, 4011])] 61 _ _ h (by decide +kernel)).trans rfl
set_option maxHeartbeats 4000000 in
theorem bk_203_71 (x0 : Nat) (x1 : Int) (x2 : Int) (x4 : Int) (h : am_H) : am_run am_ms 203 71 [am_R x0, am_I x1, am_L x2, am_K 1, am_I x4] [] h = am_run am_ms 203 31 [am_R x0, am_I x1, am_L x2, am_K 1, am_I (am_w (x4 + 1))] [] h :=
  (am_xs_run am_ms 203 [(.iinc 4 1, 3, []), (.goto (-43), 3, [])] 71 _ _ h (by decide +kernel)).trans rfl
set_option maxHeartbeats 4000000 in
theorem bk_203_77 (x0 : Nat) (x1 : Int) (x2 : Int) (x4 : Int) (h : am_H) : am_run am_ms 203 77 [am_R x0, am_I x1, am_L x2, am_K 1, am_I x4] [] h = ((am_gfR h x0 8 4).bind fun f1 => ((am_gfR h f1 1 1).bind fun f2 => ((am_rd h f2 0 4).bind fun v3 => some (some (am_I v3), h)))) :=
  (am_xs_run am_ms 203 [(.aload_n 0, 1, []), (.getfield 34, 3, [8, 4, 2041, 3]), (.getfield 245, 3, [1, 1, 1151, 3]), (.iconst 4, 1, []), (.iaload, 1, []), (.ireturn, 1, [0])] 77 _ _ h (by decide +kernel)).trans rfl
set_option maxHeartbeats 4000000 in
theorem bk_207_0 (x0 : Nat) (x1 : Int) (h : am_H) : am_run am_ms 207 0 [am_R x0, am_I x1] [] h = (bif decide (x1 < 0) then am_run am_ms 207 22 [am_R x0, am_I x1] [] h else ((am_gfR h x0 8 11).bind fun f1 => ((am_len h f1).bind fun n2 => (bif decide (n2 ≤ x1) then am_run am_ms 207 22 [am_R x0, am_I x1] [] h else ((am_gfR h x0 8 11).bind fun f3 => ((am_rd h f3 0 x1).bind fun v4 => am_run am_ms 207 23 [am_R x0, am_I x1] [am_I v4] h)))))) :=
  (am_xs_run am_ms 207 [(.iload_n 1, 1, []), (.ifCond .lt 21, 3, []), (.iload_n 1, 1, []), (.aload_n 0, 1, []), (.getfield 67, 3, [8, 11, 2048, 3]), (.arraylength, 1, []), (.if_icmp .ge 12, 3, []), (.aload_n 0, 1, []), (.getfield 67, 3, [8, 11, 2048, 3]), (.iload_n 1, 1, []), (.iaload, 1, []), (.goto 4, 3, [])] 0 _ _ h (by decide +kernel)).trans rfl
theorem en_207 (x0 : Nat) (x1 : Int) (h : am_H) : am_call am_ms 207 [am_R x0, am_I x1] h = am_run am_ms 207 0 [am_R x0, am_I x1] [] h := rfl
set_option maxHeartbeats 4000000 in
theorem bk_207_22 (x0 : Nat) (x1 : Int) (h : am_H) : am_run am_ms 207 22 [am_R x0, am_I x1] [] h = am_run am_ms 207 23 [am_R x0, am_I x1] [am_I (-1)] h :=
  (am_xs_run am_ms 207 [(.iconst (-1), 1, [])] 22 _ _ h (by decide +kernel)).trans rfl
set_option maxHeartbeats 4000000 in
theorem bk_207_23 (x0 : Nat) (x1 : Int) (y0 : Int) (h : am_H) : am_run am_ms 207 23 [am_R x0, am_I x1] [am_I y0] h = some (some (am_I y0), h) :=
  (am_xs_run am_ms 207 [(.ireturn, 1, [0])] 23 _ _ h (by decide +kernel)).trans rfl
set_option maxHeartbeats 4000000 in
theorem bk_209_0 (x0 : Nat) (x1 : Nat) (h : am_H) : am_run am_ms 209 0 [am_R x0, am_R x1, am_K 1] [] h = ((am_gfI h x0 2 2).bind fun f1 => (bif decide (¬ f1 = 0) then am_run am_ms 209 8 [am_R x0, am_R x1, am_K 1] [] h else some (none, h))) :=
  (am_xs_run am_ms 209 [(.aload_n 0, 1, []), (.getfield 19, 3, [2, 2, 2025, 0]), (.ifCond .ne 4, 3, []), (.return_, 1, [])] 0 _ _ h (by decide +kernel)).trans rfl
theorem en_209 (x0 : Nat) (x1 : Nat) (h : am_H) : am_call am_ms 209 [am_R x0, am_R x1] h = am_run am_ms 209 0 [am_R x0, am_R x1, am_K 1] [] h := rfl
set_option maxHeartbeats 4000000 in
theorem bk_209_8 (x0 : Nat) (x1 : Nat) (h : am_H) : am_run am_ms 209 8 [am_R x0, am_R x1, am_K 1] [] h = ((am_gfI h x0 2 2).bind fun f1 => ((am_pf h x0 2 2 (am_I (am_w (f1 - 1)))).bind fun h2 => ((am_gfR h2 x0 2 0).bind fun f3 => ((am_gfI h2 x0 2 2).bind fun f4 => ((am_isc h2 x0 2).bind fun _ => ((am_cI 158 [am_R x0, am_I f4] h2).bind fun r5 => ((am_rr r5.2 f3 r5.1).bind fun r6 => match r6 with
      | none => none
      | some b7 => am_run am_ms 209 32 [am_R x0, am_R x1, am_R b7] [] r5.2))))))) :=
  (am_xs_run am_ms 209 [(.aload_n 0, 1, []), (.dup, 1, []), (.getfield 19, 3, [2, 2, 2025, 0]), (.iconst 1, 1, []), (.isub, 1, []), (.putfield 19, 3, [2, 2, 2025, 0]), (.aload_n 0, 1, []), (.getfield 11, 3, [2, 0, 2023, 3]), (.aload_n 0, 1, []), (.aload_n 0, 1, []), (.getfield 19, 3, [2, 2, 2025, 0]), (.invokevirtual 22, 3, [0, 158, 2, 2, 1, 4013, 4015, 29]), (.aaload, 1, []), (.astore_n 2, 1, [])] 8 _ _ h (by decide +kernel)).trans rfl
set_option maxHeartbeats 4000000 in
theorem bk_209_32 (x0 : Nat) (x1 : Nat) (x2 : Nat) (h : am_H) : am_run am_ms 209 32 [am_R x0, am_R x1, am_R x2] [] h = ((am_isc h x1 1).bind fun _ => ((am_cV 77 [am_R x1, am_R x2] h).bind fun h1 => am_run am_ms 209 41 [am_R x0, am_R x1, am_R x2] [] h1)) :=
  (am_xs_run am_ms 209 [(.aload_n 2, 1, []), (.ifnull 8, 3, []), (.aload_n 1, 1, []), (.aload_n 2, 1, []), (.invokevirtual 27, 3, [0, 77, 2, 1, 0, 4022, 3083, 3084])] 32 _ _ h (by decide +kernel)).trans rfl
set_option maxHeartbeats 4000000 in
theorem bk_209_41 (x0 : Nat) (x1 : Nat) (x2 : Nat) (h : am_H) : am_run am_ms 209 41 [am_R x0, am_R x1, am_R x2] [] h = some (none, h) :=
  (am_xs_run am_ms 209 [(.return_, 1, [])] 41 _ _ h (by decide +kernel)).trans rfl
set_option maxHeartbeats 4000000 in
theorem bk_210_0 (x0 : Nat) (h : am_H) : am_run am_ms 210 0 [am_R x0] [] h = ((am_gfR h x0 8 9).bind fun f1 => ((am_gfI h f1 2 2).bind fun f2 => (bif decide (¬ f2 = 0) then am_run am_ms 210 12 [am_R x0] [] h else some (some (am_I (-1)), h)))) :=
  (am_xs_run am_ms 210 [(.aload_n 0, 1, []), (.getfield 56, 3, [8, 9, 2046, 3]), (.getfield 248, 3, [2, 2, 2026, 0]), (.ifCond .ne 5, 3, []), (.iconst (-1), 1, []), (.ireturn, 1, [0])] 0 _ _ h (by decide +kernel)).trans rfl
theorem en_210 (x0 : Nat) (h : am_H) : am_call am_ms 210 [am_R x0] h = am_run am_ms 210 0 [am_R x0] [] h := rfl
set_option maxHeartbeats 4000000 in
theorem bk_210_12 (x0 : Nat) (h : am_H) : am_run am_ms 210 12 [am_R x0] [] h = ((am_gfR h x0 8 9).bind fun f1 => ((am_gfR h x0 8 4).bind fun f2 => ((am_isc h f1 2).bind fun _ => ((am_cV 209 [am_R f1, am_R f2] h).bind fun h3 => ((am_gfR h3 x0 8 9).bind fun f4 => ((am_gfI h3 f4 2 2).bind fun f5 => some (some (am_I f5), h3))))))) :=
  (am_xs_run am_ms 210 [(.aload_n 0, 1, []), (.getfield 56, 3, [8, 9, 2046, 3]), (.aload_n 0, 1, []), (.getfield 34, 3, [8, 4, 2041, 3]), (.invokevirtual 251, 3, [0, 209, 2, 2, 0, 4121, 4122, 4123]), (.aload_n 0, 1, []), (.getfield 56, 3, [8, 9, 2046, 3]), (.getfield 248, 3, [2, 2, 2026, 0]), (.ireturn, 1, [0])] 12 _ _ h (by decide +kernel)).trans rfl
set_option maxHeartbeats 4000000 in
theorem bk_213_0 (x0 : Nat) (x1 : Int) (x2 : Int) (h : am_H) : am_run am_ms 213 0 [am_R x0, am_I x1, am_I x2] [] h = ((am_gfR h x0 8 4).bind fun f1 => ((am_gfR h f1 1 13).bind fun f2 => ((am_isc h f2 3).bind fun _ => ((am_cI 212 [am_R f2, am_I x1, am_I x2] h).bind fun r3 => some (some (am_I r3.1), r3.2))))) :=
  (am_xs_run am_ms 213 [(.aload_n 0, 1, []), (.getfield 34, 3, [8, 4, 2041, 3]), (.getfield 254, 3, [1, 13, 1179, 3]), (.iload_n 1, 1, []), (.iload_n 2, 1, []), (.invokevirtual 258, 3, [0, 212, 3, 3, 1, 4129, 4130, 4131]), (.ireturn, 1, [0])] 0 _ _ h (by decide +kernel)).trans rfl
theorem en_213 (x0 : Nat) (x1 : Int) (x2 : Int) (h : am_H) : am_call am_ms 213 [am_R x0, am_I x1, am_I x2] h = am_run am_ms 213 0 [am_R x0, am_I x1, am_I x2] [] h := rfl
set_option maxHeartbeats 4000000 in
theorem bk_215_0 (x0 : Nat) (x1 : Int) (h : am_H) : am_run am_ms 215 0 [am_R x0, am_I x1] [] h = (bif decide (x1 < 0) then am_run am_ms 215 16 [am_R x0, am_I x1] [] h else ((am_gfI h x0 8 3).bind fun f1 => (bif decide (f1 ≤ x1) then am_run am_ms 215 16 [am_R x0, am_I x1] [] h else am_run am_ms 215 17 [am_R x0, am_I x1] [am_I 1] h))) :=
  (am_xs_run am_ms 215 [(.iload_n 1, 1, []), (.ifCond .lt 15, 3, []), (.iload_n 1, 1, []), (.aload_n 0, 1, []), (.getfield 125, 3, [8, 3, 2040, 0]), (.if_icmp .ge 7, 3, []), (.iconst 1, 1, []), (.goto 4, 3, [])] 0 _ _ h (by decide +kernel)).trans rfl
theorem en_215 (x0 : Nat) (x1 : Int) (h : am_H) : am_call am_ms 215 [am_R x0, am_I x1] h = am_run am_ms 215 0 [am_R x0, am_I x1] [] h := rfl
set_option maxHeartbeats 4000000 in
theorem bk_215_16 (x0 : Nat) (x1 : Int) (h : am_H) : am_run am_ms 215 16 [am_R x0, am_I x1] [] h = am_run am_ms 215 17 [am_R x0, am_I x1] [am_I 0] h :=
  (am_xs_run am_ms 215 [(.iconst 0, 1, [])] 16 _ _ h (by decide +kernel)).trans rfl
set_option maxHeartbeats 4000000 in
theorem bk_215_17 (x0 : Nat) (x1 : Int) (y0 : Int) (h : am_H) : am_run am_ms 215 17 [am_R x0, am_I x1] [am_I y0] h = (bif am_rok 1 y0 then some (some (am_I y0), h) else none) :=
  (am_xs_run am_ms 215 [(.ireturn, 1, [1])] 17 _ _ h (by decide +kernel)).trans rfl
set_option maxHeartbeats 4000000 in
theorem bk_217_0 (x0 : Nat) (x1 : Int) (x2 : Int) (x3 : Int) (h : am_H) : am_run am_ms 217 0 [am_R x0, am_I x1, am_I x2, am_I x3] [] h = ((am_isc h x0 8).bind fun _ => ((am_cI 215 [am_R x0, am_I x1] h).bind fun r1 => (bif decide (r1.1 = 0) then am_run am_ms 217 22 [am_R x0, am_I x1, am_I x2, am_I x3] [] r1.2 else ((am_gfR r1.2 x0 8 2).bind fun f2 => ((am_rr r1.2 f2 x1).bind fun r3 => match r3 with
      | none => none
      | some b4 => ((am_isc r1.2 b4 5).bind fun _ => ((am_cI 216 [am_R b4, am_I x2, am_I x3] r1.2).bind fun r5 => am_run am_ms 217 24 [am_R x0, am_I x1, am_I x2, am_I x3] [am_I r5.1] r5.2))))))) :=
  (am_xs_run am_ms 217 [(.aload_n 0, 1, []), (.iload_n 1, 1, []), (.invokevirtual 263, 3, [0, 215, 2, 8, 1, 4138, 4140, 33]), (.ifCond .eq 17, 3, []), (.aload_n 0, 1, []), (.getfield 27, 3, [8, 2, 2039, 3]), (.iload_n 1, 1, []), (.aaload, 1, []), (.iload_n 2, 1, []), (.iload_n 3, 1, []), (.invokevirtual 266, 3, [0, 216, 3, 5, 1, 4142, 4143, 4144]), (.goto 5, 3, [])] 0 _ _ h (by decide +kernel)).trans rfl
theorem en_217 (x0 : Nat) (x1 : Int) (x2 : Int) (x3 : Int) (h : am_H) : am_call am_ms 217 [am_R x0, am_I x1, am_I x2, am_I x3] h = am_run am_ms 217 0 [am_R x0, am_I x1, am_I x2, am_I x3] [] h := rfl
set_option maxHeartbeats 4000000 in
theorem bk_217_22 (x0 : Nat) (x1 : Int) (x2 : Int) (x3 : Int) (h : am_H) : am_run am_ms 217 22 [am_R x0, am_I x1, am_I x2, am_I x3] [] h = am_run am_ms 217 24 [am_R x0, am_I x1, am_I x2, am_I x3] [am_I (-1000000)] h :=
  (am_xs_run am_ms 217 [(.ldc 172, 2, [0, -1000000, 3211])] 22 _ _ h (by decide +kernel)).trans rfl
set_option maxHeartbeats 4000000 in
theorem bk_217_24 (x0 : Nat) (x1 : Int) (x2 : Int) (x3 : Int) (y0 : Int) (h : am_H) : am_run am_ms 217 24 [am_R x0, am_I x1, am_I x2, am_I x3] [am_I y0] h = some (some (am_I y0), h) :=
  (am_xs_run am_ms 217 [(.ireturn, 1, [0])] 24 _ _ h (by decide +kernel)).trans rfl
set_option maxHeartbeats 4000000 in
theorem bk_220_0 (x0 : Nat) (x1 : Nat) (x2 : Int) (x3 : Int) (x4 : Int) (h : am_H) : am_run am_ms 220 0 [am_R x0, am_R x1, am_I x2, am_I x3, am_I x4] [] h = am_run am_ms 220 1 [am_R x0, am_R x1, am_I x2, am_I x3, am_I x4] [am_I x2] h :=
  (am_xs_run am_ms 220 [(.iload_n 2, 1, [])] 0 _ _ h (by decide +kernel)).trans rfl
theorem en_220 (x0 : Nat) (x1 : Nat) (x2 : Int) (x3 : Int) (x4 : Int) (h : am_H) : am_call am_ms 220 [am_R x0, am_R x1, am_I x2, am_I x3, am_I x4] h = am_run am_ms 220 0 [am_R x0, am_R x1, am_I x2, am_I x3, am_I x4] [] h := rfl
theorem bk_220_1 (x0 : Nat) (x1 : Nat) (x2 : Int) (x3 : Int) (x4 : Int) (y0 : Int) (h : am_H) : am_run am_ms 220 1 [am_R x0, am_R x1, am_I x2, am_I x3, am_I x4] [am_I y0] h = am_run am_ms 220 (am_tsw 1 103 0 8 #[51, 51, 63, 68, 73, 79, 85, 91, 97] y0) [am_R x0, am_R x1, am_I x2, am_I x3, am_I x4] [] h := by
  rw [am_run_eq, show am_code am_ms 220 1 = some (.tableswitch 103 0 8 #[51, 51, 63, 68, 73, 79, 85, 91, 97], 51, []) from by decide +kernel]
  rfl
set_option maxHeartbeats 4000000 in
theorem bk_220_52 (x0 : Nat) (x1 : Nat) (x2 : Int) (x3 : Int) (x4 : Int) (h : am_H) : am_run am_ms 220 52 [am_R x0, am_R x1, am_I x2, am_I x3, am_I x4] [] h = ((am_gfR h x0 8 5).bind fun f1 => ((am_isc h x1 1).bind fun _ => ((am_cI 102 [am_R x1, am_I x3, am_I x4, am_R f1] h).bind fun r2 => some (some (am_I r2.1), r2.2)))) :=
  (am_xs_run am_ms 220 [(.aload_n 1, 1, []), (.iload_n 3, 1, []), (.iload 4, 2, []), (.aload_n 0, 1, []), (.getfield 38, 3, [8, 5, 2042, 3]), (.invokevirtual 120, 3, [0, 102, 4, 1, 1, 3050, 3051, 3052]), (.ireturn, 1, [0])] 52 _ _ h (by decide +kernel)).trans rfl
set_option maxHeartbeats 4000000 in
theorem bk_220_64 (x0 : Nat) (x1 : Nat) (x2 : Int) (x3 : Int) (x4 : Int) (h : am_H) : am_run am_ms 220 64 [am_R x0, am_R x1, am_I x2, am_I x3, am_I x4] [] h = ((am_isc h x1 1).bind fun _ => ((am_cI 176 [am_R x1] h).bind fun r1 => some (some (am_I r1.1), r1.2))) :=
  (am_xs_run am_ms 220 [(.aload_n 1, 1, []), (.invokevirtual 214, 3, [0, 176, 1, 1, 1, 4031, 4032, 4033]), (.ireturn, 1, [0])] 64 _ _ h (by decide +kernel)).trans rfl
set_option maxHeartbeats 4000000 in
theorem bk_220_69 (x0 : Nat) (x1 : Nat) (x2 : Int) (x3 : Int) (x4 : Int) (h : am_H) : am_run am_ms 220 69 [am_R x0, am_R x1, am_I x2, am_I x3, am_I x4] [] h = ((am_isc h x1 1).bind fun _ => ((am_cI 182 [am_R x1] h).bind fun r1 => some (some (am_I r1.1), r1.2))) :=
  (am_xs_run am_ms 220 [(.aload_n 1, 1, []), (.invokevirtual 217, 3, [0, 182, 1, 1, 1, 4039, 4040, 4041]), (.ireturn, 1, [0])] 69 _ _ h (by decide +kernel)).trans rfl
set_option maxHeartbeats 4000000 in
theorem bk_220_74 (x0 : Nat) (x1 : Nat) (x2 : Int) (x3 : Int) (x4 : Int) (h : am_H) : am_run am_ms 220 74 [am_R x0, am_R x1, am_I x2, am_I x3, am_I x4] [] h = ((am_isc h x1 1).bind fun _ => ((am_cI 185 [am_R x1, am_I x3] h).bind fun r1 => some (some (am_I r1.1), r1.2))) :=
  (am_xs_run am_ms 220 [(.aload_n 1, 1, []), (.iload_n 3, 1, []), (.invokevirtual 220, 3, [0, 185, 2, 1, 1, 4060, 4061, 4062]), (.ireturn, 1, [0])] 74 _ _ h (by decide +kernel)).trans rfl
set_option maxHeartbeats 4000000 in
theorem bk_220_80 (x0 : Nat) (x1 : Nat) (x2 : Int) (x3 : Int) (x4 : Int) (h : am_H) : am_run am_ms 220 80 [am_R x0, am_R x1, am_I x2, am_I x3, am_I x4] [] h = ((am_isc h x1 1).bind fun _ => ((am_cI 188 [am_R x1, am_I x3] h).bind fun r1 => some (some (am_I r1.1), r1.2))) :=
  (am_xs_run am_ms 220 [(.aload_n 1, 1, []), (.iload_n 3, 1, []), (.invokevirtual 223, 3, [0, 188, 2, 1, 1, 4068, 4069, 4070]), (.ireturn, 1, [0])] 80 _ _ h (by decide +kernel)).trans rfl
set_option maxHeartbeats 4000000 in
theorem bk_220_86 (x0 : Nat) (x1 : Nat) (x2 : Int) (x3 : Int) (x4 : Int) (h : am_H) : am_run am_ms 220 86 [am_R x0, am_R x1, am_I x2, am_I x3, am_I x4] [] h = ((am_isc h x1 1).bind fun _ => ((am_cI 191 [am_R x1, am_I x3] h).bind fun r1 => some (some (am_I r1.1), r1.2))) :=
  (am_xs_run am_ms 220 [(.aload_n 1, 1, []), (.iload_n 3, 1, []), (.invokevirtual 226, 3, [0, 191, 2, 1, 1, 4076, 4077, 4078]), (.ireturn, 1, [0])] 86 _ _ h (by decide +kernel)).trans rfl
set_option maxHeartbeats 4000000 in
theorem bk_220_92 (x0 : Nat) (x1 : Nat) (x2 : Int) (x3 : Int) (x4 : Int) (h : am_H) : am_run am_ms 220 92 [am_R x0, am_R x1, am_I x2, am_I x3, am_I x4] [] h = ((am_isc h x1 1).bind fun _ => ((am_cI 194 [am_R x1, am_I x3] h).bind fun r1 => some (some (am_I r1.1), r1.2))) :=
  (am_xs_run am_ms 220 [(.aload_n 1, 1, []), (.iload_n 3, 1, []), (.invokevirtual 229, 3, [0, 194, 2, 1, 1, 4084, 4085, 4086]), (.ireturn, 1, [0])] 92 _ _ h (by decide +kernel)).trans rfl
set_option maxHeartbeats 4000000 in
theorem bk_220_98 (x0 : Nat) (x1 : Nat) (x2 : Int) (x3 : Int) (x4 : Int) (h : am_H) : am_run am_ms 220 98 [am_R x0, am_R x1, am_I x2, am_I x3, am_I x4] [] h = ((am_isc h x1 1).bind fun _ => ((am_cI 198 [am_R x1, am_I x3] h).bind fun r1 => some (some (am_I r1.1), r1.2))) :=
  (am_xs_run am_ms 220 [(.aload_n 1, 1, []), (.iload_n 3, 1, []), (.invokevirtual 232, 3, [0, 198, 2, 1, 1, 4092, 4093, 4094]), (.ireturn, 1, [0])] 98 _ _ h (by decide +kernel)).trans rfl
set_option maxHeartbeats 4000000 in
theorem bk_220_104 (x0 : Nat) (x1 : Nat) (x2 : Int) (x3 : Int) (x4 : Int) (h : am_H) : am_run am_ms 220 104 [am_R x0, am_R x1, am_I x2, am_I x3, am_I x4] [] h = some (some (am_I (-1)), h) :=
  (am_xs_run am_ms 220 [(.iconst (-1), 1, []), (.ireturn, 1, [0])] 104 _ _ h (by decide +kernel)).trans rfl
set_option maxHeartbeats 4000000 in
theorem bk_222_0 (x0 : Nat) (x1 : Int) (x2 : Int) (h : am_H) : am_run am_ms 222 0 [am_R x0, am_I x1, am_I x2, am_K 1, am_K 1, am_K 1] [] h = ((am_isc h x0 8).bind fun _ => ((am_cI 215 [am_R x0, am_I x1] h).bind fun r1 => (bif decide (r1.1 = 0) then am_run am_ms 222 24 [am_R x0, am_I x1, am_I x2, am_K 1, am_K 1, am_K 1] [] r1.2 else ((am_isc r1.2 x0 8).bind fun _ => ((am_cI 137 [am_R x0] r1.2).bind fun r2 => (bif decide (r2.1 = 0) then am_run am_ms 222 24 [am_R x0, am_I x1, am_I x2, am_K 1, am_K 1, am_K 1] [] r2.2 else (bif decide (x2 < 0) then am_run am_ms 222 24 [am_R x0, am_I x1, am_I x2, am_K 1, am_K 1, am_K 1] [] r2.2 else (bif decide (x2 ≤ 1) then am_run am_ms 222 27 [am_R x0, am_I x1, am_I x2, am_K 1, am_K 1, am_K 1] [] r2.2 else am_run am_ms 222 24 [am_R x0, am_I x1, am_I x2, am_K 1, am_K 1, am_K 1] [] r2.2)))))))) :=
  (am_xs_run am_ms 222 [(.aload_n 0, 1, []), (.iload_n 1, 1, []), (.invokevirtual 263, 3, [0, 215, 2, 8, 1, 4138, 4140, 33]), (.ifCond .eq 19, 3, []), (.aload_n 0, 1, []), (.invokevirtual 136, 3, [0, 137, 1, 8, 1, 3202, 3204, 27]), (.ifCond .eq 12, 3, []), (.iload_n 2, 1, []), (.ifCond .lt 8, 3, []), (.iload_n 2, 1, []), (.iconst 1, 1, []), (.if_icmp .le 6, 3, [])] 0 _ _ h (by decide +kernel)).trans rfl
theorem en_222 (x0 : Nat) (x1 : Int) (x2 : Int) (h : am_H) : am_call am_ms 222 [am_R x0, am_I x1, am_I x2] h = am_run am_ms 222 0 [am_R x0, am_I x1, am_I x2, am_K 1, am_K 1, am_K 1] [] h := rfl
set_option maxHeartbeats 4000000 in
theorem bk_222_24 (x0 : Nat) (x1 : Int) (x2 : Int) (h : am_H) : am_run am_ms 222 24 [am_R x0, am_I x1, am_I x2, am_K 1, am_K 1, am_K 1] [] h = some (some (am_I (-1000000)), h) :=
  (am_xs_run am_ms 222 [(.ldc 172, 2, [0, -1000000, 3211]), (.ireturn, 1, [0])] 24 _ _ h (by decide +kernel)).trans rfl
set_option maxHeartbeats 4000000 in
theorem bk_222_27 (x0 : Nat) (x1 : Int) (x2 : Int) (h : am_H) : am_run am_ms 222 27 [am_R x0, am_I x1, am_I x2, am_K 1, am_K 1, am_K 1] [] h = ((am_gfR h x0 8 2).bind fun f1 => ((am_rr h f1 x1).bind fun r2 => match r2 with
      | none => none
      | some b3 => ((am_gfR h x0 8 8).bind fun f4 => ((am_gfR h f4 7 0).bind fun f5 => ((am_gfR h x0 8 4).bind fun f6 => ((am_isc h f5 1).bind fun _ => ((am_cV 77 [am_R f5, am_R f6] h).bind fun h7 => am_run am_ms 222 53 [am_R x0, am_I x1, am_I x2, am_R b3, am_R f5, am_K 1] [am_I 0] h7))))))) :=
  (am_xs_run am_ms 222 [(.aload_n 0, 1, []), (.getfield 27, 3, [8, 2, 2039, 3]), (.iload_n 1, 1, []), (.aaload, 1, []), (.astore_n 3, 1, []), (.aload_n 0, 1, []), (.getfield 49, 3, [8, 8, 2045, 3]), (.getfield 269, 3, [7, 0, 1230, 3]), (.astore 4, 2, []), (.aload 4, 2, []), (.aload_n 0, 1, []), (.getfield 34, 3, [8, 4, 2041, 3]), (.invokevirtual 272, 3, [0, 77, 2, 1, 0, 4151, 3083, 3084]), (.iconst 0, 1, [])] 27 _ _ h (by decide +kernel)).trans rfl
set_option maxHeartbeats 4000000 in
theorem bk_222_53 (x0 : Nat) (x1 : Int) (x2 : Int) (x3 : Nat) (x4 : Nat) (y0 : Int) (h : am_H) : am_run am_ms 222 53 [am_R x0, am_I x1, am_I x2, am_R x3, am_R x4, am_K 1] [am_I y0] h = am_run am_ms 222 55 [am_R x0, am_I x1, am_I x2, am_R x3, am_R x4, am_I y0] [] h :=
  (am_xs_run am_ms 222 [(.istore 5, 2, [])] 53 _ _ h (by decide +kernel)).trans rfl
set_option maxHeartbeats 4000000 in
theorem bk_222_55 (x0 : Nat) (x1 : Int) (x2 : Int) (x3 : Nat) (x4 : Nat) (x5 : Int) (h : am_H) : am_run am_ms 222 55 [am_R x0, am_I x1, am_I x2, am_R x3, am_R x4, am_I x5] [] h = ((am_gfI h x3 5 3).bind fun f1 => (bif decide (f1 ≤ x5) then am_run am_ms 222 100 [am_R x0, am_I x1, am_I x2, am_R x3, am_R x4, am_I x5] [] h else ((am_gfR h x3 5 0).bind fun f2 => ((am_rd h f2 0 x5).bind fun v3 => ((am_gfR h x3 5 1).bind fun f4 => ((am_rd h f4 0 x5).bind fun v5 => am_run am_ms 222 81 [am_R x0, am_I x1, am_I x2, am_R x3, am_R x4, am_I x5] [am_I v5, am_I v3, am_R x4, am_R x0] h)))))) :=
  (am_xs_run am_ms 222 [(.iload 5, 2, []), (.aload_n 3, 1, []), (.getfield 274, 3, [5, 3, 1069, 0]), (.if_icmp .ge 39, 3, []), (.aload_n 0, 1, []), (.aload 4, 2, []), (.aload_n 3, 1, []), (.getfield 275, 3, [5, 0, 1062, 3]), (.iload 5, 2, []), (.iaload, 1, []), (.aload_n 3, 1, []), (.getfield 278, 3, [5, 1, 1064, 3]), (.iload 5, 2, []), (.iaload, 1, [])] 55 _ _ h (by decide +kernel)).trans rfl
set_option maxHeartbeats 4000000 in
theorem bk_222_81 (x0 : Nat) (x1 : Int) (x2 : Int) (x3 : Nat) (x4 : Nat) (x5 : Int) (y0 : Int) (y1 : Int) (y2 : Nat) (y3 : Nat) (h : am_H) : am_run am_ms 222 81 [am_R x0, am_I x1, am_I x2, am_R x3, am_R x4, am_I x5] [am_I y0, am_I y1, am_R y2, am_R y3] h = ((am_gfR h x3 5 2).bind fun f1 => ((am_rd h f1 0 x5).bind fun v2 => ((am_isc h y3 8).bind fun _ => ((am_cI 220 [am_R y3, am_R y2, am_I y1, am_I y0, am_I v2] h).bind fun r3 => (bif decide (r3.1 < 0) then am_run am_ms 222 100 [am_R x0, am_I x1, am_I x2, am_R x3, am_R x4, am_I x5] [] r3.2 else am_run am_ms 222 55 [am_R x0, am_I x1, am_I x2, am_R x3, am_R x4, am_I (am_w (x5 + 1))] [] r3.2))))) :=
  (am_xs_run am_ms 222 [(.aload_n 3, 1, []), (.getfield 281, 3, [5, 2, 1066, 3]), (.iload 5, 2, []), (.iaload, 1, []), (.invokevirtual 282, 3, [0, 220, 5, 8, 1, 4152, 4154, 34]), (.ifCond .lt 9, 3, []), (.iinc 5 1, 3, []), (.goto (-42), 3, [])] 81 _ _ h (by decide +kernel)).trans rfl
set_option maxHeartbeats 4000000 in
theorem bk_222_100 (x0 : Nat) (x1 : Int) (x2 : Int) (x3 : Nat) (x4 : Nat) (x5 : Int) (h : am_H) : am_run am_ms 222 100 [am_R x0, am_I x1, am_I x2, am_R x3, am_R x4, am_I x5] [] h = (bif decide (¬ x2 = 1) then am_run am_ms 222 119 [am_R x0, am_I x1, am_I x2, am_R x3, am_R x4, am_I x5] [] h else ((am_isc h x4 1).bind fun _ => ((am_cI 221 [am_R x4] h).bind fun r1 => ((am_gfR r1.2 x0 8 4).bind fun f2 => ((am_isc r1.2 f2 1).bind fun _ => ((am_cI 221 [am_R f2] r1.2).bind fun r3 => some (some (am_I (am_w (r1.1 - r3.1))), r3.2))))))) :=
  (am_xs_run am_ms 222 [(.iload_n 2, 1, []), (.iconst 1, 1, []), (.if_icmp .ne 17, 3, []), (.aload 4, 2, []), (.invokevirtual 286, 3, [0, 221, 1, 1, 1, 4156, 4157, 4158]), (.aload_n 0, 1, []), (.getfield 34, 3, [8, 4, 2041, 3]), (.invokevirtual 286, 3, [0, 221, 1, 1, 1, 4156, 4157, 4158]), (.isub, 1, []), (.ireturn, 1, [0])] 100 _ _ h (by decide +kernel)).trans rfl
set_option maxHeartbeats 4000000 in
theorem bk_222_119 (x0 : Nat) (x1 : Int) (x2 : Int) (x3 : Nat) (x4 : Nat) (x5 : Int) (h : am_H) : am_run am_ms 222 119 [am_R x0, am_I x1, am_I x2, am_R x3, am_R x4, am_I x5] [] h = ((am_gfI h x3 5 3).bind fun f1 => (bif decide (¬ x5 = f1) then am_run am_ms 222 132 [am_R x0, am_I x1, am_I x2, am_R x3, am_R x4, am_I x5] [] h else am_run am_ms 222 134 [am_R x0, am_I x1, am_I x2, am_R x3, am_R x4, am_I x5] [am_I (-1)] h)) :=
  (am_xs_run am_ms 222 [(.iload 5, 2, []), (.aload_n 3, 1, []), (.getfield 274, 3, [5, 3, 1069, 0]), (.if_icmp .ne 7, 3, []), (.iconst (-1), 1, []), (.goto 5, 3, [])] 119 _ _ h (by decide +kernel)).trans rfl
set_option maxHeartbeats 4000000 in
theorem bk_222_132 (x0 : Nat) (x1 : Int) (x2 : Int) (x3 : Nat) (x4 : Nat) (x5 : Int) (h : am_H) : am_run am_ms 222 132 [am_R x0, am_I x1, am_I x2, am_R x3, am_R x4, am_I x5] [] h = am_run am_ms 222 134 [am_R x0, am_I x1, am_I x2, am_R x3, am_R x4, am_I x5] [am_I x5] h :=
  (am_xs_run am_ms 222 [(.iload 5, 2, [])] 132 _ _ h (by decide +kernel)).trans rfl
set_option maxHeartbeats 4000000 in
theorem bk_222_134 (x0 : Nat) (x1 : Int) (x2 : Int) (x3 : Nat) (x4 : Nat) (x5 : Int) (y0 : Int) (h : am_H) : am_run am_ms 222 134 [am_R x0, am_I x1, am_I x2, am_R x3, am_R x4, am_I x5] [am_I y0] h = some (some (am_I y0), h) :=
  (am_xs_run am_ms 222 [(.ireturn, 1, [0])] 134 _ _ h (by decide +kernel)).trans rfl
set_option maxHeartbeats 4000000 in
theorem bk_225_0 (x0 : Nat) (x1 : Int) (h : am_H) : am_run am_ms 225 0 [am_R x0, am_I x1, am_K 1, am_K 1] [] h = ((am_isc h x0 8).bind fun _ => ((am_cI 215 [am_R x0, am_I x1] h).bind fun r1 => (bif decide (r1.1 = 0) then am_run am_ms 225 15 [am_R x0, am_I x1, am_K 1, am_K 1] [] r1.2 else ((am_isc r1.2 x0 8).bind fun _ => ((am_cI 137 [am_R x0] r1.2).bind fun r2 => (bif decide (¬ r2.1 = 0) then am_run am_ms 225 17 [am_R x0, am_I x1, am_K 1, am_K 1] [] r2.2 else am_run am_ms 225 15 [am_R x0, am_I x1, am_K 1, am_K 1] [] r2.2)))))) :=
  (am_xs_run am_ms 225 [(.aload_n 0, 1, []), (.iload_n 1, 1, []), (.invokevirtual 263, 3, [0, 215, 2, 8, 1, 4138, 4140, 33]), (.ifCond .eq 10, 3, []), (.aload_n 0, 1, []), (.invokevirtual 136, 3, [0, 137, 1, 8, 1, 3202, 3204, 27]), (.ifCond .ne 5, 3, [])] 0 _ _ h (by decide +kernel)).trans rfl
theorem en_225 (x0 : Nat) (x1 : Int) (h : am_H) : am_call am_ms 225 [am_R x0, am_I x1] h = am_run am_ms 225 0 [am_R x0, am_I x1, am_K 1, am_K 1] [] h := rfl
set_option maxHeartbeats 4000000 in
theorem bk_225_15 (x0 : Nat) (x1 : Int) (h : am_H) : am_run am_ms 225 15 [am_R x0, am_I x1, am_K 1, am_K 1] [] h = some (some (am_I (-1)), h) :=
  (am_xs_run am_ms 225 [(.iconst (-1), 1, []), (.ireturn, 1, [0])] 15 _ _ h (by decide +kernel)).trans rfl
set_option maxHeartbeats 4000000 in
theorem bk_225_17 (x0 : Nat) (x1 : Int) (h : am_H) : am_run am_ms 225 17 [am_R x0, am_I x1, am_K 1, am_K 1] [] h = ((am_gfR h x0 8 2).bind fun f1 => ((am_rr h f1 x1).bind fun r2 => match r2 with
      | none => none
      | some b3 => am_run am_ms 225 26 [am_R x0, am_I x1, am_R b3, am_I 0] [] h)) :=
  (am_xs_run am_ms 225 [(.aload_n 0, 1, []), (.getfield 27, 3, [8, 2, 2039, 3]), (.iload_n 1, 1, []), (.aaload, 1, []), (.astore_n 2, 1, []), (.iconst 0, 1, []), (.istore_n 3, 1, [])] 17 _ _ h (by decide +kernel)).trans rfl
set_option maxHeartbeats 4000000 in
theorem bk_225_26 (x0 : Nat) (x1 : Int) (x2 : Nat) (x3 : Int) (h : am_H) : am_run am_ms 225 26 [am_R x0, am_I x1, am_R x2, am_I x3] [] h = ((am_gfI h x2 5 3).bind fun f1 => (bif decide (f1 ≤ x3) then am_run am_ms 225 89 [am_R x0, am_I x1, am_R x2, am_I x3] [] h else ((am_gfR h x0 8 9).bind fun f2 => ((am_gfR h x0 8 4).bind fun f3 => ((am_isc h f2 2).bind fun _ => ((am_cV 161 [am_R f2, am_R f3] h).bind fun h4 => ((am_gfR h4 x0 8 4).bind fun f5 => ((am_gfR h4 x2 5 0).bind fun f6 => am_run am_ms 225 54 [am_R x0, am_I x1, am_R x2, am_I x3] [am_R f6, am_R f5, am_R x0] h4)))))))) :=
  (am_xs_run am_ms 225 [(.iload_n 3, 1, []), (.aload_n 2, 1, []), (.getfield 274, 3, [5, 3, 1069, 0]), (.if_icmp .ge 58, 3, []), (.aload_n 0, 1, []), (.getfield 56, 3, [8, 9, 2046, 3]), (.aload_n 0, 1, []), (.getfield 34, 3, [8, 4, 2041, 3]), (.invokevirtual 211, 3, [0, 161, 2, 2, 0, 4017, 4018, 4019]), (.aload_n 0, 1, []), (.aload_n 0, 1, []), (.getfield 34, 3, [8, 4, 2041, 3]), (.aload_n 2, 1, []), (.getfield 275, 3, [5, 0, 1062, 3])] 26 _ _ h (by decide +kernel)).trans rfl
set_option maxHeartbeats 4000000 in
theorem bk_225_54 (x0 : Nat) (x1 : Int) (x2 : Nat) (x3 : Int) (y0 : Nat) (y1 : Nat) (y2 : Nat) (h : am_H) : am_run am_ms 225 54 [am_R x0, am_I x1, am_R x2, am_I x3] [am_R y0, am_R y1, am_R y2] h = ((am_rd h y0 0 x3).bind fun v1 => ((am_gfR h x2 5 1).bind fun f2 => ((am_rd h f2 0 x3).bind fun v3 => ((am_gfR h x2 5 2).bind fun f4 => ((am_rd h f4 0 x3).bind fun v5 => ((am_isc h y2 8).bind fun _ => ((am_cI 220 [am_R y2, am_R y1, am_I v1, am_I v3, am_I v5] h).bind fun r6 => (bif decide (0 ≤ r6.1) then am_run am_ms 225 76 [am_R x0, am_I x1, am_R x2, am_I x3] [] r6.2 else some (some (am_I x3), r6.2))))))))) :=
  (am_xs_run am_ms 225 [(.iload_n 3, 1, []), (.iaload, 1, []), (.aload_n 2, 1, []), (.getfield 278, 3, [5, 1, 1064, 3]), (.iload_n 3, 1, []), (.iaload, 1, []), (.aload_n 2, 1, []), (.getfield 281, 3, [5, 2, 1066, 3]), (.iload_n 3, 1, []), (.iaload, 1, []), (.invokevirtual 282, 3, [0, 220, 5, 8, 1, 4152, 4154, 34]), (.ifCond .ge 5, 3, []), (.iload_n 3, 1, []), (.ireturn, 1, [0])] 54 _ _ h (by decide +kernel)).trans rfl
set_option maxHeartbeats 4000000 in
theorem bk_225_76 (x0 : Nat) (x1 : Int) (x2 : Nat) (x3 : Int) (h : am_H) : am_run am_ms 225 76 [am_R x0, am_I x1, am_R x2, am_I x3] [] h = ((am_gfR h x0 8 9).bind fun f1 => ((am_isc h f1 2).bind fun _ => ((am_cV 159 [am_R f1] h).bind fun h2 => am_run am_ms 225 26 [am_R x0, am_I x1, am_R x2, am_I (am_w (x3 + 1))] [] h2))) :=
  (am_xs_run am_ms 225 [(.aload_n 0, 1, []), (.getfield 56, 3, [8, 9, 2046, 3]), (.invokevirtual 205, 3, [0, 159, 1, 2, 0, 4009, 4010, 4011]), (.iinc 3 1, 3, []), (.goto (-60), 3, [])] 76 _ _ h (by decide +kernel)).trans rfl
set_option maxHeartbeats 4000000 in
theorem bk_225_89 (x0 : Nat) (x1 : Int) (x2 : Nat) (x3 : Int) (h : am_H) : am_run am_ms 225 89 [am_R x0, am_I x1, am_R x2, am_I x3] [] h = ((am_gfI h x2 5 3).bind fun f1 => some (some (am_I f1), h)) :=
  (am_xs_run am_ms 225 [(.aload_n 2, 1, []), (.getfield 274, 3, [5, 3, 1069, 0]), (.ireturn, 1, [0])] 89 _ _ h (by decide +kernel)).trans rfl
set_option maxHeartbeats 4000000 in
theorem bk_227_0 (x0 : Nat) (x1 : Nat) (h : am_H) : am_run am_ms 227 0 [am_R x0, am_R x1, am_K 1, am_K 1] [] h = am_run am_ms 227 4 [am_R x0, am_R x1, am_I 0, am_I 0] [] h :=
  (am_xs_run am_ms 227 [(.iconst 0, 1, []), (.istore_n 2, 1, []), (.iconst 0, 1, []), (.istore_n 3, 1, [])] 0 _ _ h (by decide +kernel)).trans rfl
theorem en_227 (x0 : Nat) (x1 : Nat) (h : am_H) : am_call am_ms 227 [am_R x0, am_R x1] h = am_run am_ms 227 0 [am_R x0, am_R x1, am_K 1, am_K 1] [] h := rfl
set_option maxHeartbeats 4000000 in
theorem bk_227_4 (x0 : Nat) (x1 : Nat) (x2 : Int) (x3 : Int) (h : am_H) : am_run am_ms 227 4 [am_R x0, am_R x1, am_I x2, am_I x3] [] h = (bif decide (32 ≤ x3) then am_run am_ms 227 32 [am_R x0, am_R x1, am_I x2, am_I x3] [] h else ((am_isc h x0 1).bind fun _ => ((am_cI 70 [am_R x0, am_I x3] h).bind fun r1 => ((am_isc r1.2 x1 1).bind fun _ => ((am_cI 70 [am_R x1, am_I x3] r1.2).bind fun r2 => (bif decide (r1.1 = r2.1) then am_run am_ms 227 26 [am_R x0, am_R x1, am_I x2, am_I x3] [] r2.2 else am_run am_ms 227 26 [am_R x0, am_R x1, am_I (am_w (x2 + 1)), am_I x3] [] r2.2)))))) :=
  (am_xs_run am_ms 227 [(.iload_n 3, 1, []), (.bipush 32, 2, []), (.if_icmp .ge 25, 3, []), (.aload_n 0, 1, []), (.iload_n 3, 1, []), (.invokevirtual 9, 3, [0, 70, 2, 1, 1, 4175, 3059, 3060]), (.aload_n 1, 1, []), (.iload_n 3, 1, []), (.invokevirtual 9, 3, [0, 70, 2, 1, 1, 4175, 3059, 3060]), (.if_icmp .eq 6, 3, []), (.iinc 2 1, 3, [])] 4 _ _ h (by decide +kernel)).trans rfl
set_option maxHeartbeats 4000000 in
theorem bk_227_26 (x0 : Nat) (x1 : Nat) (x2 : Int) (x3 : Int) (h : am_H) : am_run am_ms 227 26 [am_R x0, am_R x1, am_I x2, am_I x3] [] h = am_run am_ms 227 4 [am_R x0, am_R x1, am_I x2, am_I (am_w (x3 + 1))] [] h :=
  (am_xs_run am_ms 227 [(.iinc 3 1, 3, []), (.goto (-25), 3, [])] 26 _ _ h (by decide +kernel)).trans rfl
set_option maxHeartbeats 4000000 in
theorem bk_227_32 (x0 : Nat) (x1 : Nat) (x2 : Int) (x3 : Int) (h : am_H) : am_run am_ms 227 32 [am_R x0, am_R x1, am_I x2, am_I x3] [] h = some (some (am_I x2), h) :=
  (am_xs_run am_ms 227 [(.iload_n 2, 1, []), (.ireturn, 1, [0])] 32 _ _ h (by decide +kernel)).trans rfl
set_option maxHeartbeats 4000000 in
theorem bk_228_0 (x0 : Nat) (x1 : Int) (h : am_H) : am_run am_ms 228 0 [am_R x0, am_I x1, am_K 1] [] h = am_run am_ms 228 2 [am_R x0, am_I x1, am_I 0] [] h :=
  (am_xs_run am_ms 228 [(.iconst 0, 1, []), (.istore_n 2, 1, [])] 0 _ _ h (by decide +kernel)).trans rfl
theorem en_228 (x0 : Nat) (x1 : Int) (h : am_H) : am_call am_ms 228 [am_R x0, am_I x1] h = am_run am_ms 228 0 [am_R x0, am_I x1, am_K 1] [] h := rfl
set_option maxHeartbeats 4000000 in
theorem bk_228_2 (x0 : Nat) (x1 : Int) (x2 : Int) (h : am_H) : am_run am_ms 228 2 [am_R x0, am_I x1, am_I x2] [] h = (bif decide (x1 ≤ x2) then am_run am_ms 228 53 [am_R x0, am_I x1, am_I x2] [] h else ((am_isc h x0 1).bind fun _ => ((am_cI 65 [am_R x0, am_I x2] h).bind fun r1 => (bif decide (r1.1 = 0) then am_run am_ms 228 47 [am_R x0, am_I x1, am_I x2] [] r1.2 else ((am_gfR r1.2 x0 1 7).bind fun f2 => ((am_rd r1.2 f2 0 x2).bind fun v3 => ((am_gfR r1.2 x0 1 7).bind fun f4 => am_run am_ms 228 26 [am_R x0, am_I x1, am_I x2] [am_I x1, am_R f4, am_I v3] r1.2))))))) :=
  (am_xs_run am_ms 228 [(.iload_n 2, 1, []), (.iload_n 1, 1, []), (.if_icmp .ge 49, 3, []), (.aload_n 0, 1, []), (.iload_n 2, 1, []), (.invokevirtual 15, 3, [0, 65, 2, 1, 1, 4179, 3039, 3040]), (.ifCond .eq 35, 3, []), (.aload_n 0, 1, []), (.getfield 25, 3, [1, 7, 1164, 3]), (.iload_n 2, 1, []), (.iaload, 1, []), (.aload_n 0, 1, []), (.getfield 25, 3, [1, 7, 1164, 3]), (.iload_n 1, 1, [])] 2 _ _ h (by decide +kernel)).trans rfl
set_option maxHeartbeats 4000000 in
theorem bk_228_26 (x0 : Nat) (x1 : Int) (x2 : Int) (y0 : Int) (y1 : Nat) (y2 : Int) (h : am_H) : am_run am_ms 228 26 [am_R x0, am_I x1, am_I x2] [am_I y0, am_R y1, am_I y2] h = ((am_rd h y1 0 y0).bind fun v1 => (bif decide (¬ y2 = v1) then am_run am_ms 228 47 [am_R x0, am_I x1, am_I x2] [] h else ((am_gfR h x0 1 9).bind fun f2 => ((am_rd h f2 0 x2).bind fun v3 => ((am_gfR h x0 1 9).bind fun f4 => ((am_rd h f4 0 x1).bind fun v5 => (bif decide (¬ v3 = v5) then am_run am_ms 228 47 [am_R x0, am_I x1, am_I x2] [] h else some (some (am_I 1), h)))))))) :=
  (am_xs_run am_ms 228 [(.iaload, 1, []), (.if_icmp .ne 20, 3, []), (.aload_n 0, 1, []), (.getfield 29, 3, [1, 9, 1169, 3]), (.iload_n 2, 1, []), (.iaload, 1, []), (.aload_n 0, 1, []), (.getfield 29, 3, [1, 9, 1169, 3]), (.iload_n 1, 1, []), (.iaload, 1, []), (.if_icmp .ne 5, 3, []), (.iconst 1, 1, []), (.ireturn, 1, [1])] 26 _ _ h (by decide +kernel)).trans rfl
set_option maxHeartbeats 4000000 in
theorem bk_228_47 (x0 : Nat) (x1 : Int) (x2 : Int) (h : am_H) : am_run am_ms 228 47 [am_R x0, am_I x1, am_I x2] [] h = am_run am_ms 228 2 [am_R x0, am_I x1, am_I (am_w (x2 + 1))] [] h :=
  (am_xs_run am_ms 228 [(.iinc 2 1, 3, []), (.goto (-48), 3, [])] 47 _ _ h (by decide +kernel)).trans rfl
set_option maxHeartbeats 4000000 in
theorem bk_228_53 (x0 : Nat) (x1 : Int) (x2 : Int) (h : am_H) : am_run am_ms 228 53 [am_R x0, am_I x1, am_I x2] [] h = some (some (am_I 0), h) :=
  (am_xs_run am_ms 228 [(.iconst 0, 1, []), (.ireturn, 1, [1])] 53 _ _ h (by decide +kernel)).trans rfl
set_option maxHeartbeats 4000000 in
theorem bk_229_0 (x0 : Nat) (h : am_H) : am_run am_ms 229 0 [am_R x0, am_K 1, am_K 1] [] h = am_run am_ms 229 4 [am_R x0, am_I 0, am_I 0] [] h :=
  (am_xs_run am_ms 229 [(.iconst 0, 1, []), (.istore_n 1, 1, []), (.iconst 0, 1, []), (.istore_n 2, 1, [])] 0 _ _ h (by decide +kernel)).trans rfl
theorem en_229 (x0 : Nat) (h : am_H) : am_call am_ms 229 [am_R x0] h = am_run am_ms 229 0 [am_R x0, am_K 1, am_K 1] [] h := rfl
set_option maxHeartbeats 4000000 in
theorem bk_229_4 (x0 : Nat) (x1 : Int) (x2 : Int) (h : am_H) : am_run am_ms 229 4 [am_R x0, am_I x1, am_I x2] [] h = (bif decide (128 ≤ x2) then am_run am_ms 229 36 [am_R x0, am_I x1, am_I x2] [] h else ((am_isc h x0 1).bind fun _ => ((am_cI 65 [am_R x0, am_I x2] h).bind fun r1 => (bif decide (r1.1 = 0) then am_run am_ms 229 30 [am_R x0, am_I x1, am_I x2] [] r1.2 else ((am_cI 228 [am_R x0, am_I x2] r1.2).bind fun r2 => (bif decide (r2.1 = 0) then am_run am_ms 229 30 [am_R x0, am_I x1, am_I x2] [] r2.2 else am_run am_ms 229 30 [am_R x0, am_I (am_w (x1 + 1)), am_I x2] [] r2.2)))))) :=
  (am_xs_run am_ms 229 [(.iload_n 2, 1, []), (.sipush 128, 3, []), (.if_icmp .ge 28, 3, []), (.aload_n 0, 1, []), (.iload_n 2, 1, []), (.invokevirtual 15, 3, [0, 65, 2, 1, 1, 4179, 3039, 3040]), (.ifCond .eq 14, 3, []), (.aload_n 0, 1, []), (.iload_n 2, 1, []), (.invokestatic 19, 3, [1, 228, 2, 0, 1, 4180, 4181]), (.ifCond .eq 6, 3, []), (.iinc 1 1, 3, [])] 4 _ _ h (by decide +kernel)).trans rfl
set_option maxHeartbeats 4000000 in
theorem bk_229_30 (x0 : Nat) (x1 : Int) (x2 : Int) (h : am_H) : am_run am_ms 229 30 [am_R x0, am_I x1, am_I x2] [] h = am_run am_ms 229 4 [am_R x0, am_I x1, am_I (am_w (x2 + 1))] [] h :=
  (am_xs_run am_ms 229 [(.iinc 2 1, 3, []), (.goto (-29), 3, [])] 30 _ _ h (by decide +kernel)).trans rfl
set_option maxHeartbeats 4000000 in
theorem bk_229_36 (x0 : Nat) (x1 : Int) (x2 : Int) (h : am_H) : am_run am_ms 229 36 [am_R x0, am_I x1, am_I x2] [] h = some (some (am_I x1), h) :=
  (am_xs_run am_ms 229 [(.iload_n 1, 1, []), (.ireturn, 1, [0])] 36 _ _ h (by decide +kernel)).trans rfl
set_option maxHeartbeats 4000000 in
theorem bk_230_0 (x0 : Nat) (x1 : Int) (x2 : Int) (h : am_H) : am_run am_ms 230 0 [am_R x0, am_I x1, am_I x2, am_K 1, am_K 1] [] h = ((am_isc h x0 8).bind fun _ => ((am_cI 137 [am_R x0] h).bind fun r1 => (bif decide (r1.1 = 0) then am_run am_ms 230 20 [am_R x0, am_I x1, am_I x2, am_K 1, am_K 1] [] r1.2 else (bif decide (x1 < 0) then am_run am_ms 230 20 [am_R x0, am_I x1, am_I x2, am_K 1, am_K 1] [] r1.2 else (bif decide (x2 < 0) then am_run am_ms 230 20 [am_R x0, am_I x1, am_I x2, am_K 1, am_K 1] [] r1.2 else (bif decide (x2 ≤ 2) then am_run am_ms 230 22 [am_R x0, am_I x1, am_I x2, am_K 1, am_K 1] [] r1.2 else am_run am_ms 230 20 [am_R x0, am_I x1, am_I x2, am_K 1, am_K 1] [] r1.2)))))) :=
  (am_xs_run am_ms 230 [(.aload_n 0, 1, []), (.invokevirtual 136, 3, [0, 137, 1, 8, 1, 3202, 3204, 27]), (.ifCond .eq 16, 3, []), (.iload_n 1, 1, []), (.ifCond .lt 12, 3, []), (.iload_n 2, 1, []), (.ifCond .lt 8, 3, []), (.iload_n 2, 1, []), (.iconst 2, 1, []), (.if_icmp .le 5, 3, [])] 0 _ _ h (by decide +kernel)).trans rfl
theorem en_230 (x0 : Nat) (x1 : Int) (x2 : Int) (h : am_H) : am_call am_ms 230 [am_R x0, am_I x1, am_I x2] h = am_run am_ms 230 0 [am_R x0, am_I x1, am_I x2, am_K 1, am_K 1] [] h := rfl
set_option maxHeartbeats 4000000 in
theorem bk_230_20 (x0 : Nat) (x1 : Int) (x2 : Int) (h : am_H) : am_run am_ms 230 20 [am_R x0, am_I x1, am_I x2, am_K 1, am_K 1] [] h = some (some (am_I (-1)), h) :=
  (am_xs_run am_ms 230 [(.iconst (-1), 1, []), (.ireturn, 1, [0])] 20 _ _ h (by decide +kernel)).trans rfl
set_option maxHeartbeats 4000000 in
theorem bk_230_22 (x0 : Nat) (x1 : Int) (x2 : Int) (h : am_H) : am_run am_ms 230 22 [am_R x0, am_I x1, am_I x2, am_K 1, am_K 1] [] h = ((am_gfR h x0 8 4).bind fun f1 => ((am_isc h f1 1).bind fun _ => ((am_cI 84 [am_R f1] h).bind fun r2 => (bif decide (r2.1 = (-1)) then am_run am_ms 230 58 [am_R x0, am_I x1, am_I x2, am_I r2.1, am_K 1] [] r2.2 else ((am_gfR r2.2 x0 8 4).bind fun f3 => ((am_isc r2.2 f3 1).bind fun _ => ((am_cI 85 [am_R f3, am_I r2.1] r2.2).bind fun r4 => (bif decide (r4.1 = 0) then am_run am_ms 230 58 [am_R x0, am_I x1, am_I x2, am_I r2.1, am_K 1] [] r4.2 else am_run am_ms 230 48 [am_R x0, am_I x1, am_I x2, am_I r2.1, am_K 1] [am_R x0, am_I x1] r4.2)))))))) :=
  (am_xs_run am_ms 230 [(.aload_n 0, 1, []), (.getfield 34, 3, [8, 4, 2041, 3]), (.invokevirtual 289, 3, [0, 84, 1, 1, 1, 4168, 3092, 3093]), (.istore_n 3, 1, []), (.iload_n 3, 1, []), (.iconst (-1), 1, []), (.if_icmp .eq 26, 3, []), (.aload_n 0, 1, []), (.getfield 34, 3, [8, 4, 2041, 3]), (.iload_n 3, 1, []), (.invokevirtual 292, 3, [0, 85, 2, 1, 1, 4169, 3122, 3123]), (.ifCond .eq 15, 3, []), (.iload_n 1, 1, []), (.aload_n 0, 1, [])] 22 _ _ h (by decide +kernel)).trans rfl
set_option maxHeartbeats 4000000 in
theorem bk_230_48 (x0 : Nat) (x1 : Int) (x2 : Int) (x3 : Int) (y0 : Nat) (y1 : Int) (h : am_H) : am_run am_ms 230 48 [am_R x0, am_I x1, am_I x2, am_I x3, am_K 1] [am_R y0, am_I y1] h = ((am_gfR h y0 8 4).bind fun f1 => ((am_isc h f1 1).bind fun _ => ((am_cI 79 [am_R f1, am_I x3] h).bind fun r2 => (bif decide (y1 ≤ r2.1) then am_run am_ms 230 60 [am_R x0, am_I x1, am_I x2, am_I x3, am_K 1] [] r2.2 else am_run am_ms 230 58 [am_R x0, am_I x1, am_I x2, am_I x3, am_K 1] [] r2.2)))) :=
  (am_xs_run am_ms 230 [(.getfield 34, 3, [8, 4, 2041, 3]), (.iload_n 3, 1, []), (.invokevirtual 153, 3, [0, 79, 2, 1, 1, 4170, 3104, 3105]), (.if_icmp .le 5, 3, [])] 48 _ _ h (by decide +kernel)).trans rfl
set_option maxHeartbeats 4000000 in
theorem bk_230_58 (x0 : Nat) (x1 : Int) (x2 : Int) (x3 : Int) (h : am_H) : am_run am_ms 230 58 [am_R x0, am_I x1, am_I x2, am_I x3, am_K 1] [] h = some (some (am_I (-1)), h) :=
  (am_xs_run am_ms 230 [(.iconst (-1), 1, []), (.ireturn, 1, [0])] 58 _ _ h (by decide +kernel)).trans rfl
set_option maxHeartbeats 4000000 in
theorem bk_230_60 (x0 : Nat) (x1 : Int) (x2 : Int) (x3 : Int) (h : am_H) : am_run am_ms 230 60 [am_R x0, am_I x1, am_I x2, am_I x3, am_K 1] [] h = ((am_gfR h x0 8 8).bind fun f1 => ((am_gfR h f1 7 0).bind fun f2 => ((am_gfR h x0 8 4).bind fun f3 => ((am_isc h f2 1).bind fun _ => ((am_cV 77 [am_R f2, am_R f3] h).bind fun h4 => ((am_isc h4 f2 1).bind fun _ => ((am_cI 99 [am_R f2, am_I x3, am_I x1] h4).bind fun r5 => am_run am_ms 230 88 [am_R x0, am_I x1, am_I x2, am_I x3, am_R f2] [am_R f2] r5.2))))))) :=
  (am_xs_run am_ms 230 [(.aload_n 0, 1, []), (.getfield 49, 3, [8, 8, 2045, 3]), (.getfield 269, 3, [7, 0, 1230, 3]), (.astore 4, 2, []), (.aload 4, 2, []), (.aload_n 0, 1, []), (.getfield 34, 3, [8, 4, 2041, 3]), (.invokevirtual 272, 3, [0, 77, 2, 1, 0, 4151, 3083, 3084]), (.aload 4, 2, []), (.iload_n 3, 1, []), (.iload_n 1, 1, []), (.invokevirtual 295, 3, [0, 99, 3, 1, 1, 4171, 3126, 3127]), (.pop, 1, []), (.aload 4, 2, [])] 60 _ _ h (by decide +kernel)).trans rfl
set_option maxHeartbeats 4000000 in
theorem bk_230_88 (x0 : Nat) (x1 : Int) (x2 : Int) (x3 : Int) (x4 : Nat) (y0 : Nat) (h : am_H) : am_run am_ms 230 88 [am_R x0, am_I x1, am_I x2, am_I x3, am_R x4] [am_R y0] h = ((am_isc h y0 1).bind fun _ => ((am_cI 182 [am_R y0] h).bind fun r1 => (bif decide (¬ x2 = 0) then am_run am_ms 230 106 [am_R x0, am_I x1, am_I x2, am_I x3, am_R x4] [] r1.2 else ((am_gfR r1.2 x0 8 4).bind fun f2 => ((am_cI 227 [am_R f2, am_R x4] r1.2).bind fun r3 => some (some (am_I r3.1), r3.2)))))) :=
  (am_xs_run am_ms 230 [(.invokevirtual 217, 3, [0, 182, 1, 1, 1, 4039, 4040, 4041]), (.pop, 1, []), (.iload_n 2, 1, []), (.ifCond .ne 13, 3, []), (.aload_n 0, 1, []), (.getfield 34, 3, [8, 4, 2041, 3]), (.aload 4, 2, []), (.invokestatic 298, 3, [1, 227, 2, 0, 1, 4172, 4173]), (.ireturn, 1, [0])] 88 _ _ h (by decide +kernel)).trans rfl
set_option maxHeartbeats 4000000 in
theorem bk_230_106 (x0 : Nat) (x1 : Int) (x2 : Int) (x3 : Int) (x4 : Nat) (h : am_H) : am_run am_ms 230 106 [am_R x0, am_I x1, am_I x2, am_I x3, am_R x4] [] h = (bif decide (¬ x2 = 1) then am_run am_ms 230 119 [am_R x0, am_I x1, am_I x2, am_I x3, am_R x4] [] h else ((am_cI 229 [am_R x4] h).bind fun r1 => am_run am_ms 230 125 [am_R x0, am_I x1, am_I x2, am_I x3, am_R x4] [am_I r1.1] r1.2)) :=
  (am_xs_run am_ms 230 [(.iload_n 2, 1, []), (.iconst 1, 1, []), (.if_icmp .ne 11, 3, []), (.aload 4, 2, []), (.invokestatic 304, 3, [1, 229, 1, 0, 1, 4176, 4177]), (.goto 9, 3, [])] 106 _ _ h (by decide +kernel)).trans rfl
set_option maxHeartbeats 4000000 in
theorem bk_230_119 (x0 : Nat) (x1 : Int) (x2 : Int) (x3 : Int) (x4 : Nat) (h : am_H) : am_run am_ms 230 119 [am_R x0, am_I x1, am_I x2, am_I x3, am_R x4] [] h = ((am_isc h x4 1).bind fun _ => ((am_cI 74 [am_R x4, am_I 0] h).bind fun r1 => am_run am_ms 230 125 [am_R x0, am_I x1, am_I x2, am_I x3, am_R x4] [am_I r1.1] r1.2)) :=
  (am_xs_run am_ms 230 [(.aload 4, 2, []), (.iconst 0, 1, []), (.invokevirtual 308, 3, [0, 74, 2, 1, 1, 4183, 3079, 3080])] 119 _ _ h (by decide +kernel)).trans rfl
set_option maxHeartbeats 4000000 in
theorem bk_230_125 (x0 : Nat) (x1 : Int) (x2 : Int) (x3 : Int) (x4 : Nat) (y0 : Int) (h : am_H) : am_run am_ms 230 125 [am_R x0, am_I x1, am_I x2, am_I x3, am_R x4] [am_I y0] h = some (some (am_I y0), h) :=
  (am_xs_run am_ms 230 [(.ireturn, 1, [0])] 125 _ _ h (by decide +kernel)).trans rfl
