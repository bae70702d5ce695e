/-! ===== BLOCK LAWS: printed by a program of ours ===== -/
set_option maxHeartbeats 4000000 in
theorem bk_234_0 (x0 : Nat) (x1 : Int) (x2 : Int) (h : am_H) : am_run am_ms 234 0 [am_R x0, am_I x1, am_I x2, am_K 1, am_K 1, am_K 1, am_K 1] [] h = ((am_isc h x0 1).bind fun _ => ((am_cI 83 [am_R x0, am_I x2, am_I x1] h).bind fun r1 => am_run am_ms 234 13 [am_R x0, am_I x1, am_I x2, am_I r1.1, am_I 0, am_I 0, am_K 1] [] r1.2)) :=
  (am_xs_run am_ms 234 [(.aload_n 0, 1, []), (.iload_n 2, 1, []), (.iload_n 1, 1, []), (.invokevirtual 42, 3, [0, 83, 3, 1, 1, 4196, 3112, 3113]), (.istore_n 3, 1, []), (.iconst 0, 1, []), (.istore 4, 2, []), (.iconst 0, 1, []), (.istore 5, 2, [])] 0 _ _ h (by decide +kernel)).trans rfl
theorem en_234 (x0 : Nat) (x1 : Int) (x2 : Int) (h : am_H) : am_call am_ms 234 [am_R x0, am_I x1, am_I x2] h = am_run am_ms 234 0 [am_R x0, am_I x1, am_I x2, am_K 1, am_K 1, am_K 1, am_K 1] [] h := rfl
set_option maxHeartbeats 4000000 in
theorem bk_234_13 (x0 : Nat) (x1 : Int) (x2 : Int) (x3 : Int) (x4 : Int) (x5 : Int) (x6 : am_V) (h : am_H) : am_run am_ms 234 13 [am_R x0, am_I x1, am_I x2, am_I x3, am_I x4, am_I x5, x6] [] h = ((am_gfR h x0 1 0).bind fun f1 => ((am_rd h f1 0 0).bind fun v2 => (bif decide (v2 ≤ x5) then am_run am_ms 234 75 [am_R x0, am_I x1, am_I x2, am_I x3, am_I x4, am_I x5, x6] [] h else (bif decide (x5 = x2) then am_run am_ms 234 69 [am_R x0, am_I x1, am_I x2, am_I x3, am_I x4, am_I x5, x6] [] h else ((am_isc h x0 1).bind fun _ => ((am_cI 81 [am_R x0, am_I x5] h).bind fun r3 => (bif decide (r3.1 = 0) then am_run am_ms 234 69 [am_R x0, am_I x1, am_I x2, am_I x3, am_I x4, am_I x5, x6] [] r3.2 else am_run am_ms 234 40 [am_R x0, am_I x1, am_I x2, am_I x3, am_I x4, am_I x5, x6] [am_R x0] r3.2))))))) :=
  (am_xs_run am_ms 234 [(.iload 5, 2, []), (.aload_n 0, 1, []), (.getfield 32, 3, [1, 0, 1148, 3]), (.iconst 0, 1, []), (.iaload, 1, []), (.if_icmp .ge 54, 3, []), (.iload 5, 2, []), (.iload_n 2, 1, []), (.if_icmp .eq 42, 3, []), (.aload_n 0, 1, []), (.iload 5, 2, []), (.invokevirtual 35, 3, [0, 81, 2, 1, 1, 4192, 3096, 3097]), (.ifCond .eq 33, 3, []), (.aload_n 0, 1, [])] 13 _ _ h (by decide +kernel)).trans rfl
set_option maxHeartbeats 4000000 in
theorem bk_234_40 (x0 : Nat) (x1 : Int) (x2 : Int) (x3 : Int) (x4 : Int) (x5 : Int) (x6 : am_V) (y0 : Nat) (h : am_H) : am_run am_ms 234 40 [am_R x0, am_I x1, am_I x2, am_I x3, am_I x4, am_I x5, x6] [am_R y0] h = ((am_isc h y0 1).bind fun _ => ((am_cI 83 [am_R y0, am_I x5, am_I x1] h).bind fun r1 => (bif decide (x3 < r1.1) then am_run am_ms 234 66 [am_R x0, am_I x1, am_I x2, am_I x3, am_I x4, am_I x5, am_I r1.1] [] r1.2 else (bif decide (¬ r1.1 = x3) then am_run am_ms 234 69 [am_R x0, am_I x1, am_I x2, am_I x3, am_I x4, am_I x5, am_I r1.1] [] r1.2 else (bif decide (x2 ≤ x5) then am_run am_ms 234 69 [am_R x0, am_I x1, am_I x2, am_I x3, am_I x4, am_I x5, am_I r1.1] [] r1.2 else am_run am_ms 234 66 [am_R x0, am_I x1, am_I x2, am_I x3, am_I x4, am_I x5, am_I r1.1] [] r1.2))))) :=
  (am_xs_run am_ms 234 [(.iload 5, 2, []), (.iload_n 1, 1, []), (.invokevirtual 42, 3, [0, 83, 3, 1, 1, 4196, 3112, 3113]), (.istore 6, 2, []), (.iload 6, 2, []), (.iload_n 3, 1, []), (.if_icmp .gt 15, 3, []), (.iload 6, 2, []), (.iload_n 3, 1, []), (.if_icmp .ne 12, 3, []), (.iload 5, 2, []), (.iload_n 2, 1, []), (.if_icmp .ge 6, 3, [])] 40 _ _ h (by decide +kernel)).trans rfl
set_option maxHeartbeats 4000000 in
theorem bk_234_66 (x0 : Nat) (x1 : Int) (x2 : Int) (x3 : Int) (x4 : Int) (x5 : Int) (x6 : Int) (h : am_H) : am_run am_ms 234 66 [am_R x0, am_I x1, am_I x2, am_I x3, am_I x4, am_I x5, am_I x6] [] h = am_run am_ms 234 69 [am_R x0, am_I x1, am_I x2, am_I x3, am_I (am_w (x4 + 1)), am_I x5, am_I x6] [] h :=
  (am_xs_run am_ms 234 [(.iinc 4 1, 3, [])] 66 _ _ h (by decide +kernel)).trans rfl
set_option maxHeartbeats 4000000 in
theorem bk_234_69 (x0 : Nat) (x1 : Int) (x2 : Int) (x3 : Int) (x4 : Int) (x5 : Int) (x6 : am_V) (h : am_H) : am_run am_ms 234 69 [am_R x0, am_I x1, am_I x2, am_I x3, am_I x4, am_I x5, x6] [] h = am_run am_ms 234 13 [am_R x0, am_I x1, am_I x2, am_I x3, am_I x4, am_I (am_w (x5 + 1)), x6] [] h :=
  (am_xs_run am_ms 234 [(.iinc 5 1, 3, []), (.goto (-59), 3, [])] 69 _ _ h (by decide +kernel)).trans rfl
set_option maxHeartbeats 4000000 in
theorem bk_234_75 (x0 : Nat) (x1 : Int) (x2 : Int) (x3 : Int) (x4 : Int) (x5 : Int) (x6 : am_V) (h : am_H) : am_run am_ms 234 75 [am_R x0, am_I x1, am_I x2, am_I x3, am_I x4, am_I x5, x6] [] h = some (some (am_I x4), h) :=
  (am_xs_run am_ms 234 [(.iload 4, 2, []), (.ireturn, 1, [0])] 75 _ _ h (by decide +kernel)).trans rfl
set_option maxHeartbeats 4000000 in
theorem bk_235_0 (x0 : Nat) (x1 : Int) (x2 : Int) (h : am_H) : am_run am_ms 235 0 [am_R x0, am_I x1, am_I x2, am_K 1] [] h = am_run am_ms 235 2 [am_R x0, am_I x1, am_I x2, am_I 0] [] h :=
  (am_xs_run am_ms 235 [(.iconst 0, 1, []), (.istore_n 3, 1, [])] 0 _ _ h (by decide +kernel)).trans rfl
theorem en_235 (x0 : Nat) (x1 : Int) (x2 : Int) (h : am_H) : am_call am_ms 235 [am_R x0, am_I x1, am_I x2] h = am_run am_ms 235 0 [am_R x0, am_I x1, am_I x2, am_K 1] [] h := rfl
set_option maxHeartbeats 4000000 in
theorem bk_235_2 (x0 : Nat) (x1 : Int) (x2 : Int) (x3 : Int) (h : am_H) : am_run am_ms 235 2 [am_R x0, am_I x1, am_I x2, am_I x3] [] h = ((am_gfR h x0 1 0).bind fun f1 => ((am_rd h f1 0 0).bind fun v2 => (bif decide (v2 ≤ x3) then am_run am_ms 235 38 [am_R x0, am_I x1, am_I x2, am_I x3] [] h else ((am_isc h x0 1).bind fun _ => ((am_cI 81 [am_R x0, am_I x3] h).bind fun r3 => (bif decide (r3.1 = 0) then am_run am_ms 235 32 [am_R x0, am_I x1, am_I x2, am_I x3] [] r3.2 else ((am_cI 234 [am_R x0, am_I x1, am_I x3] r3.2).bind fun r4 => am_run am_ms 235 26 [am_R x0, am_I x1, am_I x2, am_I x3] [am_I r4.1] r4.2))))))) :=
  (am_xs_run am_ms 235 [(.iload_n 3, 1, []), (.aload_n 0, 1, []), (.getfield 32, 3, [1, 0, 1148, 3]), (.iconst 0, 1, []), (.iaload, 1, []), (.if_icmp .ge 29, 3, []), (.aload_n 0, 1, []), (.iload_n 3, 1, []), (.invokevirtual 35, 3, [0, 81, 2, 1, 1, 4192, 3096, 3097]), (.ifCond .eq 15, 3, []), (.aload_n 0, 1, []), (.iload_n 1, 1, []), (.iload_n 3, 1, []), (.invokestatic 38, 3, [1, 234, 3, 0, 1, 4193, 4194])] 2 _ _ h (by decide +kernel)).trans rfl
set_option maxHeartbeats 4000000 in
theorem bk_235_26 (x0 : Nat) (x1 : Int) (x2 : Int) (x3 : Int) (y0 : Int) (h : am_H) : am_run am_ms 235 26 [am_R x0, am_I x1, am_I x2, am_I x3] [am_I y0] h = (bif decide (¬ y0 = x2) then am_run am_ms 235 32 [am_R x0, am_I x1, am_I x2, am_I x3] [] h else some (some (am_I x3), h)) :=
  (am_xs_run am_ms 235 [(.iload_n 2, 1, []), (.if_icmp .ne 5, 3, []), (.iload_n 3, 1, []), (.ireturn, 1, [0])] 26 _ _ h (by decide +kernel)).trans rfl
set_option maxHeartbeats 4000000 in
theorem bk_235_32 (x0 : Nat) (x1 : Int) (x2 : Int) (x3 : Int) (h : am_H) : am_run am_ms 235 32 [am_R x0, am_I x1, am_I x2, am_I x3] [] h = am_run am_ms 235 2 [am_R x0, am_I x1, am_I x2, am_I (am_w (x3 + 1))] [] h :=
  (am_xs_run am_ms 235 [(.iinc 3 1, 3, []), (.goto (-33), 3, [])] 32 _ _ h (by decide +kernel)).trans rfl
set_option maxHeartbeats 4000000 in
theorem bk_235_38 (x0 : Nat) (x1 : Int) (x2 : Int) (x3 : Int) (h : am_H) : am_run am_ms 235 38 [am_R x0, am_I x1, am_I x2, am_I x3] [] h = some (some (am_I (-1)), h) :=
  (am_xs_run am_ms 235 [(.iconst (-1), 1, []), (.ireturn, 1, [0])] 38 _ _ h (by decide +kernel)).trans rfl
set_option maxHeartbeats 4000000 in
theorem bk_236_0 (x0 : Nat) (x1 : Int) (x2 : Int) (h : am_H) : am_run am_ms 236 0 [am_R x0, am_I x1, am_I x2] [] h = ((am_isc h x0 8).bind fun _ => ((am_cI 137 [am_R x0] h).bind fun r1 => (bif decide (r1.1 = 0) then am_run am_ms 236 26 [am_R x0, am_I x1, am_I x2] [] r1.2 else ((am_cI 197 [am_I x1] r1.2).bind fun r2 => (bif decide (r2.1 = 0) then am_run am_ms 236 26 [am_R x0, am_I x1, am_I x2] [] r2.2 else ((am_gfR r2.2 x0 8 4).bind fun f3 => ((am_cI 235 [am_R f3, am_I x1, am_I x2] r2.2).bind fun r4 => am_run am_ms 236 27 [am_R x0, am_I x1, am_I x2] [am_I r4.1] r4.2))))))) :=
  (am_xs_run am_ms 236 [(.aload_n 0, 1, []), (.invokevirtual 136, 3, [0, 137, 1, 8, 1, 3202, 3204, 27]), (.ifCond .eq 22, 3, []), (.iload_n 1, 1, []), (.invokestatic 311, 3, [1, 197, 1, 0, 1, 4188, 4097]), (.ifCond .eq 15, 3, []), (.aload_n 0, 1, []), (.getfield 34, 3, [8, 4, 2041, 3]), (.iload_n 1, 1, []), (.iload_n 2, 1, []), (.invokestatic 314, 3, [1, 235, 3, 0, 1, 4189, 4190]), (.goto 4, 3, [])] 0 _ _ h (by decide +kernel)).trans rfl
theorem en_236 (x0 : Nat) (x1 : Int) (x2 : Int) (h : am_H) : am_call am_ms 236 [am_R x0, am_I x1, am_I x2] h = am_run am_ms 236 0 [am_R x0, am_I x1, am_I x2] [] h := rfl
set_option maxHeartbeats 4000000 in
theorem bk_236_26 (x0 : Nat) (x1 : Int) (x2 : Int) (h : am_H) : am_run am_ms 236 26 [am_R x0, am_I x1, am_I x2] [] h = am_run am_ms 236 27 [am_R x0, am_I x1, am_I x2] [am_I (-1)] h :=
  (am_xs_run am_ms 236 [(.iconst (-1), 1, [])] 26 _ _ h (by decide +kernel)).trans rfl
set_option maxHeartbeats 4000000 in
theorem bk_236_27 (x0 : Nat) (x1 : Int) (x2 : Int) (y0 : Int) (h : am_H) : am_run am_ms 236 27 [am_R x0, am_I x1, am_I x2] [am_I y0] h = some (some (am_I y0), h) :=
  (am_xs_run am_ms 236 [(.ireturn, 1, [0])] 27 _ _ h (by decide +kernel)).trans rfl
set_option maxHeartbeats 4000000 in
theorem bk_238_0 (x0 : Nat) (x1 : Int) (x2 : Int) (h : am_H) : am_run am_ms 238 0 [am_R x0, am_I x1, am_I x2] [] h = ((am_gfR h x0 8 4).bind fun f1 => ((am_isc h f1 1).bind fun _ => ((am_cI 64 [am_R f1, am_I x1] h).bind fun r2 => (bif decide (r2.1 = 0) then am_run am_ms 238 30 [am_R x0, am_I x1, am_I x2] [] r2.2 else ((am_cI 197 [am_I x2] r2.2).bind fun r3 => (bif decide (r3.1 = 0) then am_run am_ms 238 30 [am_R x0, am_I x1, am_I x2] [] r3.2 else ((am_gfR r3.2 x0 8 4).bind fun f4 => ((am_isc r3.2 f4 1).bind fun _ => ((am_cI 83 [am_R f4, am_I x1, am_I x2] r3.2).bind fun r5 => am_run am_ms 238 31 [am_R x0, am_I x1, am_I x2] [am_I r5.1] r5.2))))))))) :=
  (am_xs_run am_ms 238 [(.aload_n 0, 1, []), (.getfield 34, 3, [8, 4, 2041, 3]), (.iload_n 1, 1, []), (.invokevirtual 140, 3, [0, 64, 2, 1, 1, 3210, 3043, 3044]), (.ifCond .eq 22, 3, []), (.iload_n 2, 1, []), (.invokestatic 311, 3, [1, 197, 1, 0, 1, 4188, 4097]), (.ifCond .eq 15, 3, []), (.aload_n 0, 1, []), (.getfield 34, 3, [8, 4, 2041, 3]), (.iload_n 1, 1, []), (.iload_n 2, 1, []), (.invokevirtual 168, 3, [0, 83, 3, 1, 1, 4201, 3112, 3113]), (.goto 4, 3, [])] 0 _ _ h (by decide +kernel)).trans rfl
theorem en_238 (x0 : Nat) (x1 : Int) (x2 : Int) (h : am_H) : am_call am_ms 238 [am_R x0, am_I x1, am_I x2] h = am_run am_ms 238 0 [am_R x0, am_I x1, am_I x2] [] h := rfl
set_option maxHeartbeats 4000000 in
theorem bk_238_30 (x0 : Nat) (x1 : Int) (x2 : Int) (h : am_H) : am_run am_ms 238 30 [am_R x0, am_I x1, am_I x2] [] h = am_run am_ms 238 31 [am_R x0, am_I x1, am_I x2] [am_I (-1)] h :=
  (am_xs_run am_ms 238 [(.iconst (-1), 1, [])] 30 _ _ h (by decide +kernel)).trans rfl
set_option maxHeartbeats 4000000 in
theorem bk_238_31 (x0 : Nat) (x1 : Int) (x2 : Int) (y0 : Int) (h : am_H) : am_run am_ms 238 31 [am_R x0, am_I x1, am_I x2] [am_I y0] h = some (some (am_I y0), h) :=
  (am_xs_run am_ms 238 [(.ireturn, 1, [0])] 31 _ _ h (by decide +kernel)).trans rfl
set_option maxHeartbeats 4000000 in
theorem bk_240_0 (x0 : Nat) (x1 : Int) (h : am_H) : am_run am_ms 240 0 [am_R x0, am_I x1, am_K 1] [] h = ((am_gfR h x0 8 8).bind fun f1 => ((am_gfR h f1 7 0).bind fun f2 => ((am_gfR h x0 8 4).bind fun f3 => ((am_isc h f2 1).bind fun _ => ((am_cV 77 [am_R f2, am_R f3] h).bind fun h4 => ((am_gfR h4 x0 8 5).bind fun f5 => ((am_isc h4 f2 1).bind fun _ => ((am_cI 102 [am_R f2, am_I x1, am_I 0, am_R f5] h4).bind fun r6 => am_run am_ms 240 26 [am_R x0, am_I x1, am_R f2] [am_I r6.1] r6.2)))))))) :=
  (am_xs_run am_ms 240 [(.aload_n 0, 1, []), (.getfield 49, 3, [8, 8, 2045, 3]), (.getfield 269, 3, [7, 0, 1230, 3]), (.astore_n 2, 1, []), (.aload_n 2, 1, []), (.aload_n 0, 1, []), (.getfield 34, 3, [8, 4, 2041, 3]), (.invokevirtual 272, 3, [0, 77, 2, 1, 0, 4151, 3083, 3084]), (.aload_n 2, 1, []), (.iload_n 1, 1, []), (.iconst 0, 1, []), (.aload_n 0, 1, []), (.getfield 38, 3, [8, 5, 2042, 3]), (.invokevirtual 120, 3, [0, 102, 4, 1, 1, 3050, 3051, 3052])] 0 _ _ h (by decide +kernel)).trans rfl
theorem en_240 (x0 : Nat) (x1 : Int) (h : am_H) : am_call am_ms 240 [am_R x0, am_I x1] h = am_run am_ms 240 0 [am_R x0, am_I x1, am_K 1] [] h := rfl
set_option maxHeartbeats 4000000 in
theorem bk_240_26 (x0 : Nat) (x1 : Int) (x2 : Nat) (y0 : Int) (h : am_H) : am_run am_ms 240 26 [am_R x0, am_I x1, am_R x2] [am_I y0] h = (bif decide (0 ≤ y0) then am_run am_ms 240 33 [am_R x0, am_I x1, am_R x2] [] h else am_run am_ms 240 45 [am_R x0, am_I x1, am_R x2] [am_I (-1)] h) :=
  (am_xs_run am_ms 240 [(.ifCond .ge 7, 3, []), (.iconst (-1), 1, []), (.goto 15, 3, [])] 26 _ _ h (by decide +kernel)).trans rfl
set_option maxHeartbeats 4000000 in
theorem bk_240_33 (x0 : Nat) (x1 : Int) (x2 : Nat) (h : am_H) : am_run am_ms 240 33 [am_R x0, am_I x1, am_R x2] [] h = ((am_isc h x2 1).bind fun _ => ((am_cI 221 [am_R x2] h).bind fun r1 => ((am_gfR r1.2 x0 8 4).bind fun f2 => ((am_isc r1.2 f2 1).bind fun _ => ((am_cI 221 [am_R f2] r1.2).bind fun r3 => am_run am_ms 240 45 [am_R x0, am_I x1, am_R x2] [am_I (am_w (r1.1 - r3.1))] r3.2))))) :=
  (am_xs_run am_ms 240 [(.aload_n 2, 1, []), (.invokevirtual 286, 3, [0, 221, 1, 1, 1, 4156, 4157, 4158]), (.aload_n 0, 1, []), (.getfield 34, 3, [8, 4, 2041, 3]), (.invokevirtual 286, 3, [0, 221, 1, 1, 1, 4156, 4157, 4158]), (.isub, 1, [])] 33 _ _ h (by decide +kernel)).trans rfl
set_option maxHeartbeats 4000000 in
theorem bk_240_45 (x0 : Nat) (x1 : Int) (x2 : Nat) (y0 : Int) (h : am_H) : am_run am_ms 240 45 [am_R x0, am_I x1, am_R x2] [am_I y0] h = some (some (am_I y0), h) :=
  (am_xs_run am_ms 240 [(.ireturn, 1, [0])] 45 _ _ h (by decide +kernel)).trans rfl
set_option maxHeartbeats 4000000 in
theorem bk_242_0 (x0 : Nat) (x1 : Int) (h : am_H) : am_run am_ms 242 0 [am_R x0, am_I x1] [] h = ((am_isc h x0 8).bind fun _ => ((am_cI 137 [am_R x0] h).bind fun r1 => (bif decide (r1.1 = 0) then am_run am_ms 242 23 [am_R x0, am_I x1] [] r1.2 else (bif decide (x1 < 1) then am_run am_ms 242 23 [am_R x0, am_I x1] [] r1.2 else (bif decide (200 < x1) then am_run am_ms 242 23 [am_R x0, am_I x1] [] r1.2 else am_run am_ms 242 24 [am_R x0, am_I x1] [am_I 1] r1.2))))) :=
  (am_xs_run am_ms 242 [(.aload_n 0, 1, []), (.invokevirtual 136, 3, [0, 137, 1, 8, 1, 3202, 3204, 27]), (.ifCond .eq 19, 3, []), (.iload_n 1, 1, []), (.iconst 1, 1, []), (.if_icmp .lt 14, 3, []), (.iload_n 1, 1, []), (.sipush 200, 3, []), (.if_icmp .gt 7, 3, []), (.iconst 1, 1, []), (.goto 4, 3, [])] 0 _ _ h (by decide +kernel)).trans rfl
theorem en_242 (x0 : Nat) (x1 : Int) (h : am_H) : am_call am_ms 242 [am_R x0, am_I x1] h = am_run am_ms 242 0 [am_R x0, am_I x1] [] h := rfl
set_option maxHeartbeats 4000000 in
theorem bk_242_23 (x0 : Nat) (x1 : Int) (h : am_H) : am_run am_ms 242 23 [am_R x0, am_I x1] [] h = am_run am_ms 242 24 [am_R x0, am_I x1] [am_I 0] h :=
  (am_xs_run am_ms 242 [(.iconst 0, 1, [])] 23 _ _ h (by decide +kernel)).trans rfl
set_option maxHeartbeats 4000000 in
theorem bk_242_24 (x0 : Nat) (x1 : Int) (y0 : Int) (h : am_H) : am_run am_ms 242 24 [am_R x0, am_I x1] [am_I y0] h = (bif am_rok 1 y0 then some (some (am_I y0), h) else none) :=
  (am_xs_run am_ms 242 [(.ireturn, 1, [1])] 24 _ _ h (by decide +kernel)).trans rfl
set_option maxHeartbeats 4000000 in
theorem bk_243_0 (x0 : Nat) (x1 : Nat) (x2 : Int) (h : am_H) : am_run am_ms 243 0 [am_R x0, am_R x1, am_I x2] [] h = ((am_gfR h x0 7 0).bind fun f1 => ((am_isc h f1 1).bind fun _ => ((am_cV 77 [am_R f1, am_R x1] h).bind fun h2 => ((am_gfR h2 x0 7 0).bind fun f3 => ((am_gfR h2 f3 1 0).bind fun f4 => ((am_wr h2 f4 0 6 x2).bind fun h5 => some (none, h5))))))) :=
  (am_xs_run am_ms 243 [(.aload_n 0, 1, []), (.getfield 12, 3, [7, 0, 1229, 3]), (.aload_n 1, 1, []), (.invokevirtual 28, 3, [0, 77, 2, 1, 0, 4218, 3083, 3084]), (.aload_n 0, 1, []), (.getfield 12, 3, [7, 0, 1229, 3]), (.getfield 32, 3, [1, 0, 1147, 3]), (.bipush 6, 2, []), (.iload_n 2, 1, []), (.iastore, 1, []), (.return_, 1, [])] 0 _ _ h (by decide +kernel)).trans rfl
theorem en_243 (x0 : Nat) (x1 : Nat) (x2 : Int) (h : am_H) : am_call am_ms 243 [am_R x0, am_R x1, am_I x2] h = am_run am_ms 243 0 [am_R x0, am_R x1, am_I x2] [] h := rfl
set_option maxHeartbeats 4000000 in
theorem bk_244_0 (x0 : Nat) (h : am_H) : am_run am_ms 244 0 [am_R x0, am_K 1, am_K 1, am_K 1] [] h = ((am_gfR h x0 1 4).bind fun f1 => ((am_rd h f1 0 0).bind fun v2 => ((am_gfR h x0 1 4).bind fun f3 => ((am_rd h f3 0 0).bind fun v4 => am_run am_ms 244 16 [am_R x0, am_I v2, am_I v4, am_I 1] [] h)))) :=
  (am_xs_run am_ms 244 [(.aload_n 0, 1, []), (.getfield 59, 3, [1, 4, 1158, 3]), (.iconst 0, 1, []), (.iaload, 1, []), (.istore_n 1, 1, []), (.aload_n 0, 1, []), (.getfield 59, 3, [1, 4, 1158, 3]), (.iconst 0, 1, []), (.iaload, 1, []), (.istore_n 2, 1, []), (.iconst 1, 1, []), (.istore_n 3, 1, [])] 0 _ _ h (by decide +kernel)).trans rfl
theorem en_244 (x0 : Nat) (h : am_H) : am_call am_ms 244 [am_R x0] h = am_run am_ms 244 0 [am_R x0, am_K 1, am_K 1, am_K 1] [] h := rfl
set_option maxHeartbeats 4000000 in
theorem bk_244_16 (x0 : Nat) (x1 : Int) (x2 : Int) (x3 : Int) (h : am_H) : am_run am_ms 244 16 [am_R x0, am_I x1, am_I x2, am_I x3] [] h = ((am_gfR h x0 1 0).bind fun f1 => ((am_rd h f1 0 0).bind fun v2 => (bif decide (v2 ≤ x3) then am_run am_ms 244 54 [am_R x0, am_I x1, am_I x2, am_I x3] [] h else ((am_gfR h x0 1 4).bind fun f3 => ((am_rd h f3 0 x3).bind fun v4 => am_run am_ms 244 38 [am_R x0, am_I (am_max x1 v4), am_I x2, am_I x3] [am_I x2] h))))) :=
  (am_xs_run am_ms 244 [(.iload_n 3, 1, []), (.aload_n 0, 1, []), (.getfield 32, 3, [1, 0, 1148, 3]), (.iconst 0, 1, []), (.iaload, 1, []), (.if_icmp .ge 31, 3, []), (.iload_n 1, 1, []), (.aload_n 0, 1, []), (.getfield 59, 3, [1, 4, 1158, 3]), (.iload_n 3, 1, []), (.iaload, 1, []), (.invokestatic 62, 3, [12, 0, 2, 0, 1, 4229, 2149, 1014, 2150]), (.istore_n 1, 1, []), (.iload_n 2, 1, [])] 16 _ _ h (by decide +kernel)).trans rfl
set_option maxHeartbeats 4000000 in
theorem bk_244_38 (x0 : Nat) (x1 : Int) (x2 : Int) (x3 : Int) (y0 : Int) (h : am_H) : am_run am_ms 244 38 [am_R x0, am_I x1, am_I x2, am_I x3] [am_I y0] h = ((am_gfR h x0 1 4).bind fun f1 => ((am_rd h f1 0 x3).bind fun v2 => am_run am_ms 244 16 [am_R x0, am_I x1, am_I (am_min y0 v2), am_I (am_w (x3 + 1))] [] h)) :=
  (am_xs_run am_ms 244 [(.aload_n 0, 1, []), (.getfield 59, 3, [1, 4, 1158, 3]), (.iload_n 3, 1, []), (.iaload, 1, []), (.invokestatic 67, 3, [13, 0, 2, 0, 1, 4230, 2152, 1014, 2153]), (.istore_n 2, 1, []), (.iinc 3 1, 3, []), (.goto (-35), 3, [])] 38 _ _ h (by decide +kernel)).trans rfl
set_option maxHeartbeats 4000000 in
theorem bk_244_54 (x0 : Nat) (x1 : Int) (x2 : Int) (x3 : Int) (h : am_H) : am_run am_ms 244 54 [am_R x0, am_I x1, am_I x2, am_I x3] [] h = some (some (am_I (am_w (x1 - x2))), h) :=
  (am_xs_run am_ms 244 [(.iload_n 1, 1, []), (.iload_n 2, 1, []), (.isub, 1, []), (.ireturn, 1, [0])] 54 _ _ h (by decide +kernel)).trans rfl
set_option maxHeartbeats 4000000 in
theorem bk_245_0 (x0 : Nat) (x1 : Int) (x2 : Int) (h : am_H) : am_run am_ms 245 0 [am_R x0, am_I x1, am_L x2, am_K 1, am_K 1, am_K 1, am_K 1] [] h = ((am_gfR h x0 7 2).bind fun f1 => ((am_pf h f1 0 0 (am_L x2)).bind fun h2 => ((am_pf h2 x0 7 3 (am_I 0)).bind fun h3 => ((am_gfR h3 x0 7 0).bind fun f4 => ((am_isc h3 f4 1).bind fun _ => ((am_cI 221 [am_R f4] h3).bind fun r5 => am_run am_ms 245 25 [am_R x0, am_I x1, am_L x2, am_K 1, am_I r5.1, am_I 1, am_K 1] [] r5.2)))))) :=
  (am_xs_run am_ms 245 [(.aload_n 0, 1, []), (.getfield 21, 3, [7, 2, 1232, 3]), (.lload_n 2, 1, []), (.putfield 40, 3, [0, 0, 1224, 2]), (.aload_n 0, 1, []), (.iconst 0, 1, []), (.putfield 44, 3, [7, 3, 1233, 0]), (.aload_n 0, 1, []), (.getfield 12, 3, [7, 0, 1229, 3]), (.invokevirtual 48, 3, [0, 221, 1, 1, 1, 4223, 4157, 4158]), (.istore 4, 2, []), (.iconst 1, 1, []), (.istore 5, 2, [])] 0 _ _ h (by decide +kernel)).trans rfl
theorem en_245 (x0 : Nat) (x1 : Int) (x2 : Int) (h : am_H) : am_call am_ms 245 [am_R x0, am_I x1, am_L x2] h = am_run am_ms 245 0 [am_R x0, am_I x1, am_L x2, am_K 1, am_K 1, am_K 1, am_K 1] [] h := rfl
set_option maxHeartbeats 4000000 in
theorem bk_245_25 (x0 : Nat) (x1 : Int) (x2 : Int) (x4 : Int) (x5 : Int) (x6 : am_V) (h : am_H) : am_run am_ms 245 25 [am_R x0, am_I x1, am_L x2, am_K 1, am_I x4, am_I x5, x6] [] h = ((am_gfI h x0 7 3).bind fun f1 => (bif decide (x1 ≤ f1) then am_run am_ms 245 113 [am_R x0, am_I x1, am_L x2, am_K 1, am_I x4, am_I x5, x6] [] h else (bif decide (x5 = 0) then am_run am_ms 245 113 [am_R x0, am_I x1, am_L x2, am_K 1, am_I x4, am_I x5, x6] [] h else ((am_gfR h x0 7 2).bind fun f2 => ((am_gfR h x0 7 2).bind fun f3 => ((am_isc h f3 0).bind fun _ => ((am_cI 201 [am_R f3, am_I 32] h).bind fun r4 => am_run am_ms 245 53 [am_R x0, am_I x1, am_L x2, am_K 1, am_I x4, am_I x5, x6] [am_I (am_w (r4.1 + 1)), am_R f2] r4.2))))))) :=
  (am_xs_run am_ms 245 [(.aload_n 0, 1, []), (.getfield 44, 3, [7, 3, 1233, 0]), (.iload_n 1, 1, []), (.if_icmp .ge 83, 3, []), (.iload 5, 2, []), (.ifCond .eq 78, 3, []), (.aload_n 0, 1, []), (.getfield 21, 3, [7, 2, 1232, 3]), (.aload_n 0, 1, []), (.getfield 21, 3, [7, 2, 1232, 3]), (.bipush 32, 2, []), (.invokevirtual 52, 3, [0, 201, 2, 0, 1, 4224, 4104, 4105]), (.iconst 1, 1, []), (.iadd, 1, [])] 25 _ _ h (by decide +kernel)).trans rfl
set_option maxHeartbeats 4000000 in
theorem bk_245_53 (x0 : Nat) (x1 : Int) (x2 : Int) (x4 : Int) (x5 : Int) (x6 : am_V) (y0 : Int) (y1 : Nat) (h : am_H) : am_run am_ms 245 53 [am_R x0, am_I x1, am_L x2, am_K 1, am_I x4, am_I x5, x6] [am_I y0, am_R y1] h = ((am_isc h y1 0).bind fun _ => ((am_cI 201 [am_R y1, am_I y0] h).bind fun r1 => ((am_gfR r1.2 x0 7 0).bind fun f2 => ((am_gfR r1.2 x0 7 2).bind fun f3 => ((am_isc r1.2 f3 0).bind fun _ => ((am_cI 201 [am_R f3, am_I 1000] r1.2).bind fun r4 => ((am_gfR r4.2 x0 7 1).bind fun f5 => ((am_isc r4.2 f2 1).bind fun _ => ((am_cI 102 [am_R f2, am_I r1.1, am_I r4.1, am_R f5] r4.2).bind fun r6 => (bif decide (r6.1 < 0) then am_run am_ms 245 88 [am_R x0, am_I x1, am_L x2, am_K 1, am_I x4, am_I x5, am_I r1.1] [] r6.2 else am_run am_ms 245 85 [am_R x0, am_I x1, am_L x2, am_K 1, am_I x4, am_I x5, am_I r1.1] [am_I 1] r6.2)))))))))) :=
  (am_xs_run am_ms 245 [(.invokevirtual 52, 3, [0, 201, 2, 0, 1, 4224, 4104, 4105]), (.istore 6, 2, []), (.aload_n 0, 1, []), (.getfield 12, 3, [7, 0, 1229, 3]), (.iload 6, 2, []), (.aload_n 0, 1, []), (.getfield 21, 3, [7, 2, 1232, 3]), (.sipush 1000, 3, []), (.invokevirtual 52, 3, [0, 201, 2, 0, 1, 4224, 4104, 4105]), (.aload_n 0, 1, []), (.getfield 25, 3, [7, 1, 1231, 3]), (.invokevirtual 56, 3, [0, 102, 4, 1, 1, 4225, 3051, 3052]), (.ifCond .lt 7, 3, []), (.iconst 1, 1, [])] 53 _ _ h (by decide +kernel)).trans rfl
set_option maxHeartbeats 4000000 in
theorem bk_245_85 (x0 : Nat) (x1 : Int) (x2 : Int) (x4 : Int) (x5 : Int) (x6 : Int) (y0 : Int) (h : am_H) : am_run am_ms 245 85 [am_R x0, am_I x1, am_L x2, am_K 1, am_I x4, am_I x5, am_I x6] [am_I y0] h = am_run am_ms 245 89 [am_R x0, am_I x1, am_L x2, am_K 1, am_I x4, am_I x5, am_I x6] [am_I y0] h :=
  (am_xs_run am_ms 245 [(.goto 4, 3, [])] 85 _ _ h (by decide +kernel)).trans rfl
set_option maxHeartbeats 4000000 in
theorem bk_245_88 (x0 : Nat) (x1 : Int) (x2 : Int) (x4 : Int) (x5 : Int) (x6 : Int) (h : am_H) : am_run am_ms 245 88 [am_R x0, am_I x1, am_L x2, am_K 1, am_I x4, am_I x5, am_I x6] [] h = am_run am_ms 245 89 [am_R x0, am_I x1, am_L x2, am_K 1, am_I x4, am_I x5, am_I x6] [am_I 0] h :=
  (am_xs_run am_ms 245 [(.iconst 0, 1, [])] 88 _ _ h (by decide +kernel)).trans rfl
set_option maxHeartbeats 4000000 in
theorem bk_245_89 (x0 : Nat) (x1 : Int) (x2 : Int) (x4 : Int) (x5 : Int) (x6 : Int) (y0 : Int) (h : am_H) : am_run am_ms 245 89 [am_R x0, am_I x1, am_L x2, am_K 1, am_I x4, am_I x5, am_I x6] [am_I y0] h = ((am_gfI h x0 7 3).bind fun f1 => (bif decide (y0 = 0) then am_run am_ms 245 105 [am_R x0, am_I x1, am_L x2, am_K 1, am_I x4, am_I y0, am_I x6] [am_I f1, am_R x0] h else am_run am_ms 245 106 [am_R x0, am_I x1, am_L x2, am_K 1, am_I x4, am_I y0, am_I x6] [am_I 1, am_I f1, am_R x0] h)) :=
  (am_xs_run am_ms 245 [(.istore 5, 2, []), (.aload_n 0, 1, []), (.dup, 1, []), (.getfield 44, 3, [7, 3, 1233, 0]), (.iload 5, 2, []), (.ifCond .eq 7, 3, []), (.iconst 1, 1, []), (.goto 4, 3, [])] 89 _ _ h (by decide +kernel)).trans rfl
set_option maxHeartbeats 4000000 in
theorem bk_245_105 (x0 : Nat) (x1 : Int) (x2 : Int) (x4 : Int) (x5 : Int) (x6 : Int) (y0 : Int) (y1 : Nat) (h : am_H) : am_run am_ms 245 105 [am_R x0, am_I x1, am_L x2, am_K 1, am_I x4, am_I x5, am_I x6] [am_I y0, am_R y1] h = am_run am_ms 245 106 [am_R x0, am_I x1, am_L x2, am_K 1, am_I x4, am_I x5, am_I x6] [am_I 0, am_I y0, am_R y1] h :=
  (am_xs_run am_ms 245 [(.iconst 0, 1, [])] 105 _ _ h (by decide +kernel)).trans rfl
set_option maxHeartbeats 4000000 in
theorem bk_245_106 (x0 : Nat) (x1 : Int) (x2 : Int) (x4 : Int) (x5 : Int) (x6 : Int) (y0 : Int) (y1 : Int) (y2 : Nat) (h : am_H) : am_run am_ms 245 106 [am_R x0, am_I x1, am_L x2, am_K 1, am_I x4, am_I x5, am_I x6] [am_I y0, am_I y1, am_R y2] h = ((am_pf h y2 7 3 (am_I (am_w (y1 + y0)))).bind fun h1 => am_run am_ms 245 25 [am_R x0, am_I x1, am_L x2, am_K 1, am_I x4, am_I x5, am_I x6] [] h1) :=
  (am_xs_run am_ms 245 [(.iadd, 1, []), (.putfield 44, 3, [7, 3, 1233, 0]), (.goto (-85), 3, [])] 106 _ _ h (by decide +kernel)).trans rfl
set_option maxHeartbeats 4000000 in
theorem bk_245_113 (x0 : Nat) (x1 : Int) (x2 : Int) (x4 : Int) (x5 : Int) (x6 : am_V) (h : am_H) : am_run am_ms 245 113 [am_R x0, am_I x1, am_L x2, am_K 1, am_I x4, am_I x5, x6] [] h = ((am_gfI h x0 7 3).bind fun f1 => (bif decide (¬ f1 = 0) then am_run am_ms 245 125 [am_R x0, am_I x1, am_L x2, am_K 1, am_I x4, am_I x5, x6] [am_R x0] h else am_run am_ms 245 144 [am_R x0, am_I x1, am_L x2, am_K 1, am_I x4, am_I x5, x6] [am_I 0, am_R x0] h)) :=
  (am_xs_run am_ms 245 [(.aload_n 0, 1, []), (.aload_n 0, 1, []), (.getfield 44, 3, [7, 3, 1233, 0]), (.ifCond .ne 7, 3, []), (.iconst 0, 1, []), (.goto 22, 3, [])] 113 _ _ h (by decide +kernel)).trans rfl
set_option maxHeartbeats 4000000 in
theorem bk_245_125 (x0 : Nat) (x1 : Int) (x2 : Int) (x4 : Int) (x5 : Int) (x6 : am_V) (y0 : Nat) (h : am_H) : am_run am_ms 245 125 [am_R x0, am_I x1, am_L x2, am_K 1, am_I x4, am_I x5, x6] [am_R y0] h = ((am_gfR h x0 7 0).bind fun f1 => ((am_isc h f1 1).bind fun _ => ((am_cI 221 [am_R f1] h).bind fun r2 => ((am_gfI r2.2 x0 7 3).bind fun f3 => (if f3 = 0 then none else am_run am_ms 245 144 [am_R x0, am_I x1, am_L x2, am_K 1, am_I x4, am_I x5, x6] [am_I (am_div (am_w (1000 * (am_w (r2.1 - x4)))) f3), am_R y0] r2.2))))) :=
  (am_xs_run am_ms 245 [(.sipush 1000, 3, []), (.aload_n 0, 1, []), (.getfield 12, 3, [7, 0, 1229, 3]), (.invokevirtual 48, 3, [0, 221, 1, 1, 1, 4223, 4157, 4158]), (.iload 4, 2, []), (.isub, 1, []), (.imul, 1, []), (.aload_n 0, 1, []), (.getfield 44, 3, [7, 3, 1233, 0]), (.idiv, 1, [])] 125 _ _ h (by decide +kernel)).trans rfl
set_option maxHeartbeats 4000000 in
theorem bk_245_144 (x0 : Nat) (x1 : Int) (x2 : Int) (x4 : Int) (x5 : Int) (x6 : am_V) (y0 : Int) (y1 : Nat) (h : am_H) : am_run am_ms 245 144 [am_R x0, am_I x1, am_L x2, am_K 1, am_I x4, am_I x5, x6] [am_I y0, am_R y1] h = ((am_pf h y1 7 4 (am_I y0)).bind fun h1 => ((am_gfR h1 x0 7 0).bind fun f2 => ((am_cI 244 [am_R f2] h1).bind fun r3 => ((am_pf r3.2 x0 7 5 (am_I r3.1)).bind fun h4 => some (none, h4))))) :=
  (am_xs_run am_ms 245 [(.putfield 60, 3, [7, 4, 1234, 0]), (.aload_n 0, 1, []), (.aload_n 0, 1, []), (.getfield 12, 3, [7, 0, 1229, 3]), (.invokestatic 63, 3, [1, 244, 1, 0, 1, 4226, 4227]), (.putfield 69, 3, [7, 5, 1235, 0]), (.return_, 1, [])] 144 _ _ h (by decide +kernel)).trans rfl
set_option maxHeartbeats 4000000 in
theorem bk_246_0 (x0 : Nat) (x1 : Int) (h : am_H) : am_run am_ms 246 0 [am_R x0, am_I x1] [] h = (bif decide (¬ x1 = 0) then am_run am_ms 246 9 [am_R x0, am_I x1] [] h else ((am_gfI h x0 7 3).bind fun f1 => some (some (am_I f1), h))) :=
  (am_xs_run am_ms 246 [(.iload_n 1, 1, []), (.ifCond .ne 8, 3, []), (.aload_n 0, 1, []), (.getfield 44, 3, [7, 3, 1233, 0]), (.ireturn, 1, [0])] 0 _ _ h (by decide +kernel)).trans rfl
theorem en_246 (x0 : Nat) (x1 : Int) (h : am_H) : am_call am_ms 246 [am_R x0, am_I x1] h = am_run am_ms 246 0 [am_R x0, am_I x1] [] h := rfl
set_option maxHeartbeats 4000000 in
theorem bk_246_9 (x0 : Nat) (x1 : Int) (h : am_H) : am_run am_ms 246 9 [am_R x0, am_I x1] [] h = (bif decide (¬ x1 = 1) then am_run am_ms 246 21 [am_R x0, am_I x1] [] h else ((am_gfI h x0 7 4).bind fun f1 => am_run am_ms 246 25 [am_R x0, am_I x1] [am_I f1] h)) :=
  (am_xs_run am_ms 246 [(.iload_n 1, 1, []), (.iconst 1, 1, []), (.if_icmp .ne 10, 3, []), (.aload_n 0, 1, []), (.getfield 60, 3, [7, 4, 1234, 0]), (.goto 7, 3, [])] 9 _ _ h (by decide +kernel)).trans rfl
set_option maxHeartbeats 4000000 in
theorem bk_246_21 (x0 : Nat) (x1 : Int) (h : am_H) : am_run am_ms 246 21 [am_R x0, am_I x1] [] h = ((am_gfI h x0 7 5).bind fun f1 => am_run am_ms 246 25 [am_R x0, am_I x1] [am_I f1] h) :=
  (am_xs_run am_ms 246 [(.aload_n 0, 1, []), (.getfield 69, 3, [7, 5, 1235, 0])] 21 _ _ h (by decide +kernel)).trans rfl
set_option maxHeartbeats 4000000 in
theorem bk_246_25 (x0 : Nat) (x1 : Int) (y0 : Int) (h : am_H) : am_run am_ms 246 25 [am_R x0, am_I x1] [am_I y0] h = some (some (am_I y0), h) :=
  (am_xs_run am_ms 246 [(.ireturn, 1, [0])] 25 _ _ h (by decide +kernel)).trans rfl
set_option maxHeartbeats 4000000 in
theorem bk_247_0 (x0 : Nat) (x1 : Int) (x2 : Int) (x3 : Int) (x5 : Int) (h : am_H) : am_run am_ms 247 0 [am_R x0, am_I x1, am_I x2, am_L x3, am_K 1, am_I x5] [] h = ((am_isc h x0 8).bind fun _ => ((am_cI 242 [am_R x0, am_I x2] h).bind fun r1 => (bif decide (r1.1 = 0) then am_run am_ms 247 26 [am_R x0, am_I x1, am_I x2, am_L x3, am_K 1, am_I x5] [] r1.2 else ((am_cI 197 [am_I x1] r1.2).bind fun r2 => (bif decide (r2.1 = 0) then am_run am_ms 247 26 [am_R x0, am_I x1, am_I x2, am_L x3, am_K 1, am_I x5] [] r2.2 else (bif decide (x5 < 0) then am_run am_ms 247 26 [am_R x0, am_I x1, am_I x2, am_L x3, am_K 1, am_I x5] [] r2.2 else (bif decide (x5 ≤ 2) then am_run am_ms 247 28 [am_R x0, am_I x1, am_I x2, am_L x3, am_K 1, am_I x5] [] r2.2 else am_run am_ms 247 26 [am_R x0, am_I x1, am_I x2, am_L x3, am_K 1, am_I x5] [] r2.2))))))) :=
  (am_xs_run am_ms 247 [(.aload_n 0, 1, []), (.iload_n 2, 1, []), (.invokevirtual 318, 3, [0, 242, 2, 8, 1, 4210, 4212, 35]), (.ifCond .eq 21, 3, []), (.iload_n 1, 1, []), (.invokestatic 311, 3, [1, 197, 1, 0, 1, 4188, 4097]), (.ifCond .eq 14, 3, []), (.iload 5, 2, []), (.ifCond .lt 9, 3, []), (.iload 5, 2, []), (.iconst 2, 1, []), (.if_icmp .le 5, 3, [])] 0 _ _ h (by decide +kernel)).trans rfl
theorem en_247 (x0 : Nat) (x1 : Int) (x2 : Int) (x3 : Int) (x5 : Int) (h : am_H) : am_call am_ms 247 [am_R x0, am_I x1, am_I x2, am_L x3, am_I x5] h = am_run am_ms 247 0 [am_R x0, am_I x1, am_I x2, am_L x3, am_K 1, am_I x5] [] h := rfl
set_option maxHeartbeats 4000000 in
theorem bk_247_26 (x0 : Nat) (x1 : Int) (x2 : Int) (x3 : Int) (x5 : Int) (h : am_H) : am_run am_ms 247 26 [am_R x0, am_I x1, am_I x2, am_L x3, am_K 1, am_I x5] [] h = some (some (am_I (-1)), h) :=
  (am_xs_run am_ms 247 [(.iconst (-1), 1, []), (.ireturn, 1, [0])] 26 _ _ h (by decide +kernel)).trans rfl
set_option maxHeartbeats 4000000 in
theorem bk_247_28 (x0 : Nat) (x1 : Int) (x2 : Int) (x3 : Int) (x5 : Int) (h : am_H) : am_run am_ms 247 28 [am_R x0, am_I x1, am_I x2, am_L x3, am_K 1, am_I x5] [] h = ((am_gfR h x0 8 8).bind fun f1 => ((am_gfR h x0 8 4).bind fun f2 => ((am_isc h f1 7).bind fun _ => ((am_cV 243 [am_R f1, am_R f2, am_I x1] h).bind fun h3 => ((am_gfR h3 x0 8 8).bind fun f4 => ((am_isc h3 f4 7).bind fun _ => ((am_cV 245 [am_R f4, am_I x2, am_L x3] h3).bind fun h5 => ((am_gfR h5 x0 8 8).bind fun f6 => am_run am_ms 247 55 [am_R x0, am_I x1, am_I x2, am_L x3, am_K 1, am_I x5] [am_I x5, am_R f6] h5)))))))) :=
  (am_xs_run am_ms 247 [(.aload_n 0, 1, []), (.getfield 49, 3, [8, 8, 2045, 3]), (.aload_n 0, 1, []), (.getfield 34, 3, [8, 4, 2041, 3]), (.iload_n 1, 1, []), (.invokevirtual 321, 3, [0, 243, 3, 7, 0, 4214, 4215, 4216]), (.aload_n 0, 1, []), (.getfield 49, 3, [8, 8, 2045, 3]), (.iload_n 2, 1, []), (.lload_n 3, 1, []), (.invokevirtual 325, 3, [0, 245, 3, 7, 0, 4219, 4220, 4221]), (.aload_n 0, 1, []), (.getfield 49, 3, [8, 8, 2045, 3]), (.iload 5, 2, [])] 28 _ _ h (by decide +kernel)).trans rfl
set_option maxHeartbeats 4000000 in
theorem bk_247_55 (x0 : Nat) (x1 : Int) (x2 : Int) (x3 : Int) (x5 : Int) (y0 : Int) (y1 : Nat) (h : am_H) : am_run am_ms 247 55 [am_R x0, am_I x1, am_I x2, am_L x3, am_K 1, am_I x5] [am_I y0, am_R y1] h = ((am_isc h y1 7).bind fun _ => ((am_cI 246 [am_R y1, am_I y0] h).bind fun r1 => some (some (am_I r1.1), r1.2))) :=
  (am_xs_run am_ms 247 [(.invokevirtual 329, 3, [0, 246, 2, 7, 1, 4231, 4232, 4233]), (.ireturn, 1, [0])] 55 _ _ h (by decide +kernel)).trans rfl
set_option maxHeartbeats 4000000 in
theorem bk_253_0 (x0 : Nat) (h : am_H) : am_run am_ms 253 0 [am_R x0] [] h = ((am_pf h x0 7 6 (am_I (-1))).bind fun h1 => ((am_pf h1 x0 7 7 (am_I 0)).bind fun h2 => some (none, h2))) :=
  (am_xs_run am_ms 253 [(.aload_n 0, 1, []), (.iconst (-1), 1, []), (.putfield 72, 3, [7, 6, 1236, 0]), (.aload_n 0, 1, []), (.iconst 0, 1, []), (.putfield 75, 3, [7, 7, 1237, 0]), (.return_, 1, [])] 0 _ _ h (by decide +kernel)).trans rfl
theorem en_253 (x0 : Nat) (h : am_H) : am_call am_ms 253 [am_R x0] h = am_run am_ms 253 0 [am_R x0] [] h := rfl
set_option maxHeartbeats 4000000 in
theorem bk_254_0 (x0 : Nat) (h : am_H) : am_run am_ms 254 0 [am_R x0] [] h = ((am_gfI h x0 7 3).bind fun f1 => ((am_gfI h x0 7 6).bind fun f2 => (bif decide (f1 < f2) then am_run am_ms 254 33 [am_R x0] [] h else ((am_gfI h x0 7 3).bind fun f3 => ((am_gfI h x0 7 6).bind fun f4 => (bif decide (¬ f3 = f4) then am_run am_ms 254 35 [am_R x0] [] h else ((am_gfI h x0 7 4).bind fun f5 => ((am_gfI h x0 7 7).bind fun f6 => am_run am_ms 254 30 [am_R x0] [am_I f6, am_I f5] h)))))))) :=
  (am_xs_run am_ms 254 [(.aload_n 0, 1, []), (.getfield 44, 3, [7, 3, 1233, 0]), (.aload_n 0, 1, []), (.getfield 72, 3, [7, 6, 1236, 0]), (.if_icmp .lt 25, 3, []), (.aload_n 0, 1, []), (.getfield 44, 3, [7, 3, 1233, 0]), (.aload_n 0, 1, []), (.getfield 72, 3, [7, 6, 1236, 0]), (.if_icmp .ne 16, 3, []), (.aload_n 0, 1, []), (.getfield 60, 3, [7, 4, 1234, 0]), (.aload_n 0, 1, []), (.getfield 75, 3, [7, 7, 1237, 0])] 0 _ _ h (by decide +kernel)).trans rfl
theorem en_254 (x0 : Nat) (h : am_H) : am_call am_ms 254 [am_R x0] h = am_run am_ms 254 0 [am_R x0] [] h := rfl
set_option maxHeartbeats 4000000 in
theorem bk_254_30 (x0 : Nat) (y0 : Int) (y1 : Int) (h : am_H) : am_run am_ms 254 30 [am_R x0] [am_I y0, am_I y1] h = (bif decide (y1 < y0) then am_run am_ms 254 35 [am_R x0] [] h else am_run am_ms 254 33 [am_R x0] [] h) :=
  (am_xs_run am_ms 254 [(.if_icmp .lt 5, 3, [])] 30 _ _ h (by decide +kernel)).trans rfl
set_option maxHeartbeats 4000000 in
theorem bk_254_33 (x0 : Nat) (h : am_H) : am_run am_ms 254 33 [am_R x0] [] h = some (some (am_I 0), h) :=
  (am_xs_run am_ms 254 [(.iconst 0, 1, []), (.ireturn, 1, [1])] 33 _ _ h (by decide +kernel)).trans rfl
set_option maxHeartbeats 4000000 in
theorem bk_254_35 (x0 : Nat) (h : am_H) : am_run am_ms 254 35 [am_R x0] [] h = ((am_gfI h x0 7 3).bind fun f1 => ((am_pf h x0 7 6 (am_I f1)).bind fun h2 => ((am_gfI h2 x0 7 4).bind fun f3 => ((am_pf h2 x0 7 7 (am_I f3)).bind fun h4 => some (some (am_I 1), h4))))) :=
  (am_xs_run am_ms 254 [(.aload_n 0, 1, []), (.aload_n 0, 1, []), (.getfield 44, 3, [7, 3, 1233, 0]), (.putfield 72, 3, [7, 6, 1236, 0]), (.aload_n 0, 1, []), (.aload_n 0, 1, []), (.getfield 60, 3, [7, 4, 1234, 0]), (.putfield 75, 3, [7, 7, 1237, 0]), (.iconst 1, 1, []), (.ireturn, 1, [1])] 35 _ _ h (by decide +kernel)).trans rfl
set_option maxHeartbeats 4000000 in
theorem bk_255_0 (x0 : Nat) (x1 : Int) (x2 : Int) (h : am_H) : am_run am_ms 255 0 [am_R x0, am_I x1, am_L x2, am_K 1, am_K 1, am_K 1] [] h = ((am_isc h x0 8).bind fun _ => ((am_cI 242 [am_R x0, am_I x1] h).bind fun r1 => (bif decide (¬ r1.1 = 0) then am_run am_ms 255 10 [am_R x0, am_I x1, am_L x2, am_K 1, am_K 1, am_K 1] [] r1.2 else some (some (am_I (-1)), r1.2)))) :=
  (am_xs_run am_ms 255 [(.aload_n 0, 1, []), (.iload_n 1, 1, []), (.invokevirtual 318, 3, [0, 242, 2, 8, 1, 4210, 4212, 35]), (.ifCond .ne 5, 3, []), (.iconst (-1), 1, []), (.ireturn, 1, [0])] 0 _ _ h (by decide +kernel)).trans rfl
theorem en_255 (x0 : Nat) (x1 : Int) (x2 : Int) (h : am_H) : am_call am_ms 255 [am_R x0, am_I x1, am_L x2] h = am_run am_ms 255 0 [am_R x0, am_I x1, am_L x2, am_K 1, am_K 1, am_K 1] [] h := rfl
set_option maxHeartbeats 4000000 in
theorem bk_255_10 (x0 : Nat) (x1 : Int) (x2 : Int) (h : am_H) : am_run am_ms 255 10 [am_R x0, am_I x1, am_L x2, am_K 1, am_K 1, am_K 1] [] h = ((am_gfR h x0 8 8).bind fun f1 => ((am_isc h f1 7).bind fun _ => ((am_cV 253 [am_R f1] h).bind fun h2 => am_run am_ms 255 23 [am_R x0, am_I x1, am_L x2, am_K 1, am_I 0, am_I 0] [] h2))) :=
  (am_xs_run am_ms 255 [(.aload_n 0, 1, []), (.getfield 49, 3, [8, 8, 2045, 3]), (.invokevirtual 332, 3, [0, 253, 1, 7, 0, 4239, 5000, 5001]), (.iconst 0, 1, []), (.istore 4, 2, []), (.iconst 0, 1, []), (.istore 5, 2, [])] 10 _ _ h (by decide +kernel)).trans rfl
set_option maxHeartbeats 4000000 in
theorem bk_255_23 (x0 : Nat) (x1 : Int) (x2 : Int) (x4 : Int) (x5 : Int) (h : am_H) : am_run am_ms 255 23 [am_R x0, am_I x1, am_L x2, am_K 1, am_I x4, am_I x5] [] h = (bif decide (4 ≤ x5) then am_run am_ms 255 71 [am_R x0, am_I x1, am_L x2, am_K 1, am_I x4, am_I x5] [] h else ((am_gfR h x0 8 8).bind fun f1 => ((am_gfR h x0 8 4).bind fun f2 => ((am_isc h f1 7).bind fun _ => ((am_cV 243 [am_R f1, am_R f2, am_I x5] h).bind fun h3 => ((am_gfR h3 x0 8 8).bind fun f4 => ((am_isc h3 f4 7).bind fun _ => ((am_cV 245 [am_R f4, am_I x1, am_L x2] h3).bind fun h5 => am_run am_ms 255 51 [am_R x0, am_I x1, am_L x2, am_K 1, am_I x4, am_I x5] [] h5)))))))) :=
  (am_xs_run am_ms 255 [(.iload 5, 2, []), (.iconst 4, 1, []), (.if_icmp .ge 45, 3, []), (.aload_n 0, 1, []), (.getfield 49, 3, [8, 8, 2045, 3]), (.aload_n 0, 1, []), (.getfield 34, 3, [8, 4, 2041, 3]), (.iload 5, 2, []), (.invokevirtual 321, 3, [0, 243, 3, 7, 0, 4214, 4215, 4216]), (.aload_n 0, 1, []), (.getfield 49, 3, [8, 8, 2045, 3]), (.iload_n 1, 1, []), (.lload_n 2, 1, []), (.invokevirtual 325, 3, [0, 245, 3, 7, 0, 4219, 4220, 4221])] 23 _ _ h (by decide +kernel)).trans rfl
set_option maxHeartbeats 4000000 in
theorem bk_255_51 (x0 : Nat) (x1 : Int) (x2 : Int) (x4 : Int) (x5 : Int) (h : am_H) : am_run am_ms 255 51 [am_R x0, am_I x1, am_L x2, am_K 1, am_I x4, am_I x5] [] h = ((am_gfR h x0 8 8).bind fun f1 => ((am_isc h f1 7).bind fun _ => ((am_cI 254 [am_R f1] h).bind fun r2 => (bif decide (r2.1 = 0) then am_run am_ms 255 65 [am_R x0, am_I x1, am_L x2, am_K 1, am_I x4, am_I x5] [] r2.2 else am_run am_ms 255 65 [am_R x0, am_I x1, am_L x2, am_K 1, am_I x5, am_I x5] [] r2.2)))) :=
  (am_xs_run am_ms 255 [(.aload_n 0, 1, []), (.getfield 49, 3, [8, 8, 2045, 3]), (.invokevirtual 335, 3, [0, 254, 1, 7, 1, 5003, 5004, 5005]), (.ifCond .eq 7, 3, []), (.iload 5, 2, []), (.istore 4, 2, [])] 51 _ _ h (by decide +kernel)).trans rfl
set_option maxHeartbeats 4000000 in
theorem bk_255_65 (x0 : Nat) (x1 : Int) (x2 : Int) (x4 : Int) (x5 : Int) (h : am_H) : am_run am_ms 255 65 [am_R x0, am_I x1, am_L x2, am_K 1, am_I x4, am_I x5] [] h = am_run am_ms 255 23 [am_R x0, am_I x1, am_L x2, am_K 1, am_I x4, am_I (am_w (x5 + 1))] [] h :=
  (am_xs_run am_ms 255 [(.iinc 5 1, 3, []), (.goto (-45), 3, [])] 65 _ _ h (by decide +kernel)).trans rfl
set_option maxHeartbeats 4000000 in
theorem bk_255_71 (x0 : Nat) (x1 : Int) (x2 : Int) (x4 : Int) (x5 : Int) (h : am_H) : am_run am_ms 255 71 [am_R x0, am_I x1, am_L x2, am_K 1, am_I x4, am_I x5] [] h = some (some (am_I x4), h) :=
  (am_xs_run am_ms 255 [(.iload 4, 2, []), (.ireturn, 1, [0])] 71 _ _ h (by decide +kernel)).trans rfl
set_option maxHeartbeats 4000000 in
theorem bk_257_0 (x0 : Nat) (x1 : Int) (x2 : Int) (x3 : Int) (x4 : Int) (x6 : Int) (h : am_H) : am_run am_ms 257 0 [am_R x0, am_I x1, am_I x2, am_I x3, am_L x4, am_K 1, am_I x6, am_K 1] [] h = ((am_isc h x0 8).bind fun _ => ((am_cI 242 [am_R x0, am_I x3] h).bind fun r1 => (bif decide (r1.1 = 0) then am_run am_ms 257 41 [am_R x0, am_I x1, am_I x2, am_I x3, am_L x4, am_K 1, am_I x6, am_K 1] [] r1.2 else (bif decide (x6 < 0) then am_run am_ms 257 41 [am_R x0, am_I x1, am_I x2, am_I x3, am_L x4, am_K 1, am_I x6, am_K 1] [] r1.2 else (bif decide (1 < x6) then am_run am_ms 257 41 [am_R x0, am_I x1, am_I x2, am_I x3, am_L x4, am_K 1, am_I x6, am_K 1] [] r1.2 else (bif decide (x1 < 1) then am_run am_ms 257 41 [am_R x0, am_I x1, am_I x2, am_I x3, am_L x4, am_K 1, am_I x6, am_K 1] [] r1.2 else am_run am_ms 257 27 [am_R x0, am_I x1, am_I x2, am_I x3, am_L x4, am_K 1, am_I x6, am_K 1] [am_I 8, am_I x1] r1.2)))))) :=
  (am_xs_run am_ms 257 [(.aload_n 0, 1, []), (.iload_n 3, 1, []), (.invokevirtual 318, 3, [0, 242, 2, 8, 1, 4210, 4212, 35]), (.ifCond .eq 36, 3, []), (.iload 6, 2, []), (.ifCond .lt 31, 3, []), (.iload 6, 2, []), (.iconst 1, 1, []), (.if_icmp .gt 25, 3, []), (.iload_n 1, 1, []), (.iconst 1, 1, []), (.if_icmp .lt 20, 3, []), (.iload_n 1, 1, []), (.bipush 8, 2, [])] 0 _ _ h (by decide +kernel)).trans rfl
theorem en_257 (x0 : Nat) (x1 : Int) (x2 : Int) (x3 : Int) (x4 : Int) (x6 : Int) (h : am_H) : am_call am_ms 257 [am_R x0, am_I x1, am_I x2, am_I x3, am_L x4, am_I x6] h = am_run am_ms 257 0 [am_R x0, am_I x1, am_I x2, am_I x3, am_L x4, am_K 1, am_I x6, am_K 1] [] h := rfl
set_option maxHeartbeats 4000000 in
theorem bk_257_27 (x0 : Nat) (x1 : Int) (x2 : Int) (x3 : Int) (x4 : Int) (x6 : Int) (y0 : Int) (y1 : Int) (h : am_H) : am_run am_ms 257 27 [am_R x0, am_I x1, am_I x2, am_I x3, am_L x4, am_K 1, am_I x6, am_K 1] [am_I y0, am_I y1] h = (bif decide (y0 < y1) then am_run am_ms 257 41 [am_R x0, am_I x1, am_I x2, am_I x3, am_L x4, am_K 1, am_I x6, am_K 1] [] h else (bif decide (x2 < x1) then am_run am_ms 257 41 [am_R x0, am_I x1, am_I x2, am_I x3, am_L x4, am_K 1, am_I x6, am_K 1] [] h else (bif decide (x2 ≤ 8) then am_run am_ms 257 43 [am_R x0, am_I x1, am_I x2, am_I x3, am_L x4, am_K 1, am_I x6, am_K 1] [] h else am_run am_ms 257 41 [am_R x0, am_I x1, am_I x2, am_I x3, am_L x4, am_K 1, am_I x6, am_K 1] [] h))) :=
  (am_xs_run am_ms 257 [(.if_icmp .gt 14, 3, []), (.iload_n 2, 1, []), (.iload_n 1, 1, []), (.if_icmp .lt 9, 3, []), (.iload_n 2, 1, []), (.bipush 8, 2, []), (.if_icmp .le 5, 3, [])] 27 _ _ h (by decide +kernel)).trans rfl
set_option maxHeartbeats 4000000 in
theorem bk_257_41 (x0 : Nat) (x1 : Int) (x2 : Int) (x3 : Int) (x4 : Int) (x6 : Int) (h : am_H) : am_run am_ms 257 41 [am_R x0, am_I x1, am_I x2, am_I x3, am_L x4, am_K 1, am_I x6, am_K 1] [] h = some (some (am_I (-1)), h) :=
  (am_xs_run am_ms 257 [(.iconst (-1), 1, []), (.ireturn, 1, [0])] 41 _ _ h (by decide +kernel)).trans rfl
set_option maxHeartbeats 4000000 in
theorem bk_257_43 (x0 : Nat) (x1 : Int) (x2 : Int) (x3 : Int) (x4 : Int) (x6 : Int) (h : am_H) : am_run am_ms 257 43 [am_R x0, am_I x1, am_I x2, am_I x3, am_L x4, am_K 1, am_I x6, am_K 1] [] h = ((am_gfR h x0 8 4).bind fun f1 => ((am_isc h f1 1).bind fun _ => ((am_cI 74 [am_R f1, am_I 1] h).bind fun r2 => (bif decide (x1 < r2.1) then am_run am_ms 257 66 [am_R x0, am_I x1, am_I x2, am_I x3, am_L x4, am_K 1, am_I x6, am_K 1] [] r2.2 else ((am_gfR r2.2 x0 8 4).bind fun f3 => ((am_isc r2.2 f3 1).bind fun _ => ((am_cI 86 [am_R f3] r2.2).bind fun r4 => (bif decide (r4.1 ≤ x2) then am_run am_ms 257 68 [am_R x0, am_I x1, am_I x2, am_I x3, am_L x4, am_K 1, am_I x6, am_K 1] [] r4.2 else am_run am_ms 257 66 [am_R x0, am_I x1, am_I x2, am_I x3, am_L x4, am_K 1, am_I x6, am_K 1] [] r4.2)))))))) :=
  (am_xs_run am_ms 257 [(.iload_n 1, 1, []), (.aload_n 0, 1, []), (.getfield 34, 3, [8, 4, 2041, 3]), (.iconst 1, 1, []), (.invokevirtual 308, 3, [0, 74, 2, 1, 1, 4183, 3079, 3080]), (.if_icmp .lt 14, 3, []), (.iload_n 2, 1, []), (.aload_n 0, 1, []), (.getfield 34, 3, [8, 4, 2041, 3]), (.invokevirtual 338, 3, [0, 86, 1, 1, 1, 5011, 3138, 3139]), (.if_icmp .ge 5, 3, [])] 43 _ _ h (by decide +kernel)).trans rfl
set_option maxHeartbeats 4000000 in
theorem bk_257_66 (x0 : Nat) (x1 : Int) (x2 : Int) (x3 : Int) (x4 : Int) (x6 : Int) (h : am_H) : am_run am_ms 257 66 [am_R x0, am_I x1, am_I x2, am_I x3, am_L x4, am_K 1, am_I x6, am_K 1] [] h = some (some (am_I (-1)), h) :=
  (am_xs_run am_ms 257 [(.iconst (-1), 1, []), (.ireturn, 1, [0])] 66 _ _ h (by decide +kernel)).trans rfl
set_option maxHeartbeats 4000000 in
theorem bk_257_68 (x0 : Nat) (x1 : Int) (x2 : Int) (x3 : Int) (x4 : Int) (x6 : Int) (h : am_H) : am_run am_ms 257 68 [am_R x0, am_I x1, am_I x2, am_I x3, am_L x4, am_K 1, am_I x6, am_K 1] [] h = ((am_gfR h x0 8 8).bind fun f1 => ((am_gfR h f1 7 0).bind fun f2 => ((am_gfR h x0 8 4).bind fun f3 => ((am_isc h f2 1).bind fun _ => ((am_cV 77 [am_R f2, am_R f3] h).bind fun h4 => ((am_gfR h4 x0 8 8).bind fun f5 => ((am_gfR h4 f5 7 0).bind fun f6 => ((am_gfR h4 f6 1 0).bind fun f7 => ((am_wr h4 f7 0 2 x1).bind fun h8 => am_run am_ms 257 96 [am_R x0, am_I x1, am_I x2, am_I x3, am_L x4, am_K 1, am_I x6, am_K 1] [am_R x0] h8))))))))) :=
  (am_xs_run am_ms 257 [(.aload_n 0, 1, []), (.getfield 49, 3, [8, 8, 2045, 3]), (.getfield 269, 3, [7, 0, 1230, 3]), (.aload_n 0, 1, []), (.getfield 34, 3, [8, 4, 2041, 3]), (.invokevirtual 272, 3, [0, 77, 2, 1, 0, 4151, 3083, 3084]), (.aload_n 0, 1, []), (.getfield 49, 3, [8, 8, 2045, 3]), (.getfield 269, 3, [7, 0, 1230, 3]), (.getfield 124, 3, [1, 0, 1149, 3]), (.iconst 2, 1, []), (.iload_n 1, 1, []), (.iastore, 1, []), (.aload_n 0, 1, [])] 68 _ _ h (by decide +kernel)).trans rfl
set_option maxHeartbeats 4000000 in
theorem bk_257_96 (x0 : Nat) (x1 : Int) (x2 : Int) (x3 : Int) (x4 : Int) (x6 : Int) (y0 : Nat) (h : am_H) : am_run am_ms 257 96 [am_R x0, am_I x1, am_I x2, am_I x3, am_L x4, am_K 1, am_I x6, am_K 1] [am_R y0] h = ((am_gfR h y0 8 8).bind fun f1 => ((am_gfR h f1 7 0).bind fun f2 => ((am_gfR h f2 1 0).bind fun f3 => ((am_wr h f3 0 3 x2).bind fun h4 => ((am_gfR h4 x0 8 8).bind fun f5 => ((am_isc h4 f5 7).bind fun _ => ((am_cV 245 [am_R f5, am_I x3, am_L x4] h4).bind fun h6 => (bif decide (¬ x6 = 0) then am_run am_ms 257 128 [am_R x0, am_I x1, am_I x2, am_I x3, am_L x4, am_K 1, am_I x6, am_K 1] [] h6 else am_run am_ms 257 125 [am_R x0, am_I x1, am_I x2, am_I x3, am_L x4, am_K 1, am_I x6, am_K 1] [am_I 6] h6)))))))) :=
  (am_xs_run am_ms 257 [(.getfield 49, 3, [8, 8, 2045, 3]), (.getfield 269, 3, [7, 0, 1230, 3]), (.getfield 124, 3, [1, 0, 1149, 3]), (.iconst 3, 1, []), (.iload_n 2, 1, []), (.iastore, 1, []), (.aload_n 0, 1, []), (.getfield 49, 3, [8, 8, 2045, 3]), (.iload_n 3, 1, []), (.lload 4, 2, []), (.invokevirtual 325, 3, [0, 245, 3, 7, 0, 4219, 4220, 4221]), (.iload 6, 2, []), (.ifCond .ne 8, 3, []), (.bipush 6, 2, [])] 96 _ _ h (by decide +kernel)).trans rfl
set_option maxHeartbeats 4000000 in
theorem bk_257_125 (x0 : Nat) (x1 : Int) (x2 : Int) (x3 : Int) (x4 : Int) (x6 : Int) (y0 : Int) (h : am_H) : am_run am_ms 257 125 [am_R x0, am_I x1, am_I x2, am_I x3, am_L x4, am_K 1, am_I x6, am_K 1] [am_I y0] h = am_run am_ms 257 130 [am_R x0, am_I x1, am_I x2, am_I x3, am_L x4, am_K 1, am_I x6, am_K 1] [am_I y0] h :=
  (am_xs_run am_ms 257 [(.goto 5, 3, [])] 125 _ _ h (by decide +kernel)).trans rfl
set_option maxHeartbeats 4000000 in
theorem bk_257_128 (x0 : Nat) (x1 : Int) (x2 : Int) (x3 : Int) (x4 : Int) (x6 : Int) (h : am_H) : am_run am_ms 257 128 [am_R x0, am_I x1, am_I x2, am_I x3, am_L x4, am_K 1, am_I x6, am_K 1] [] h = am_run am_ms 257 130 [am_R x0, am_I x1, am_I x2, am_I x3, am_L x4, am_K 1, am_I x6, am_K 1] [am_I 7] h :=
  (am_xs_run am_ms 257 [(.bipush 7, 2, [])] 128 _ _ h (by decide +kernel)).trans rfl
set_option maxHeartbeats 4000000 in
theorem bk_257_130 (x0 : Nat) (x1 : Int) (x2 : Int) (x3 : Int) (x4 : Int) (x6 : Int) (y0 : Int) (h : am_H) : am_run am_ms 257 130 [am_R x0, am_I x1, am_I x2, am_I x3, am_L x4, am_K 1, am_I x6, am_K 1] [am_I y0] h = ((am_gfR h x0 8 8).bind fun f1 => ((am_gfR h f1 7 0).bind fun f2 => ((am_gfR h f2 1 1).bind fun f3 => ((am_rd h f3 0 y0).bind fun v4 => ((am_gfR h x0 8 4).bind fun f5 => ((am_gfR h f5 1 1).bind fun f6 => ((am_rd h f6 0 y0).bind fun v7 => some (some (am_I (am_w (v4 - v7))), h)))))))) :=
  (am_xs_run am_ms 257 [(.istore 7, 2, []), (.aload_n 0, 1, []), (.getfield 49, 3, [8, 8, 2045, 3]), (.getfield 269, 3, [7, 0, 1230, 3]), (.getfield 245, 3, [1, 1, 1151, 3]), (.iload 7, 2, []), (.iaload, 1, []), (.aload_n 0, 1, []), (.getfield 34, 3, [8, 4, 2041, 3]), (.getfield 245, 3, [1, 1, 1151, 3]), (.iload 7, 2, []), (.iaload, 1, []), (.isub, 1, []), (.ireturn, 1, [0])] 130 _ _ h (by decide +kernel)).trans rfl
set_option maxHeartbeats 4000000 in
theorem bk_259_0 (x0 : Nat) (x1 : Nat) (x2 : Int) (h : am_H) : am_run am_ms 259 0 [am_R x0, am_R x1, am_I x2] [] h = ((am_gfR h x0 7 0).bind fun f1 => ((am_gfR h x1 1 0).bind fun f2 => ((am_isc h f1 1).bind fun _ => ((am_cV 68 [am_R f1, am_R f2] h).bind fun h3 => ((am_gfR h3 x0 7 0).bind fun f4 => ((am_gfR h3 f4 1 0).bind fun f5 => ((am_wr h3 f5 0 4 x2).bind fun h6 => some (none, h6)))))))) :=
  (am_xs_run am_ms 259 [(.aload_n 0, 1, []), (.getfield 12, 3, [7, 0, 1229, 3]), (.aload_n 1, 1, []), (.getfield 32, 3, [1, 0, 1147, 3]), (.invokevirtual 36, 3, [0, 68, 2, 1, 0, 5020, 3022, 3023]), (.aload_n 0, 1, []), (.getfield 12, 3, [7, 0, 1229, 3]), (.getfield 32, 3, [1, 0, 1147, 3]), (.iconst 4, 1, []), (.iload_n 2, 1, []), (.iastore, 1, []), (.return_, 1, [])] 0 _ _ h (by decide +kernel)).trans rfl
theorem en_259 (x0 : Nat) (x1 : Nat) (x2 : Int) (h : am_H) : am_call am_ms 259 [am_R x0, am_R x1, am_I x2] h = am_run am_ms 259 0 [am_R x0, am_R x1, am_I x2] [] h := rfl
set_option maxHeartbeats 4000000 in
theorem bk_260_0 (x0 : Nat) (x1 : Int) (x2 : Int) (x3 : Int) (x5 : Int) (h : am_H) : am_run am_ms 260 0 [am_R x0, am_I x1, am_I x2, am_L x3, am_K 1, am_I x5] [] h = ((am_isc h x0 8).bind fun _ => ((am_cI 242 [am_R x0, am_I x2] h).bind fun r1 => (bif decide (r1.1 = 0) then am_run am_ms 260 29 [am_R x0, am_I x1, am_I x2, am_L x3, am_K 1, am_I x5] [] r1.2 else (bif decide (x1 < 1) then am_run am_ms 260 29 [am_R x0, am_I x1, am_I x2, am_L x3, am_K 1, am_I x5] [] r1.2 else (bif decide (3 < x1) then am_run am_ms 260 29 [am_R x0, am_I x1, am_I x2, am_L x3, am_K 1, am_I x5] [] r1.2 else (bif decide (x5 < 0) then am_run am_ms 260 29 [am_R x0, am_I x1, am_I x2, am_L x3, am_K 1, am_I x5] [] r1.2 else am_run am_ms 260 26 [am_R x0, am_I x1, am_I x2, am_L x3, am_K 1, am_I x5] [am_I 2, am_I x5] r1.2)))))) :=
  (am_xs_run am_ms 260 [(.aload_n 0, 1, []), (.iload_n 2, 1, []), (.invokevirtual 318, 3, [0, 242, 2, 8, 1, 4210, 4212, 35]), (.ifCond .eq 24, 3, []), (.iload_n 1, 1, []), (.iconst 1, 1, []), (.if_icmp .lt 19, 3, []), (.iload_n 1, 1, []), (.iconst 3, 1, []), (.if_icmp .gt 14, 3, []), (.iload 5, 2, []), (.ifCond .lt 9, 3, []), (.iload 5, 2, []), (.iconst 2, 1, [])] 0 _ _ h (by decide +kernel)).trans rfl
theorem en_260 (x0 : Nat) (x1 : Int) (x2 : Int) (x3 : Int) (x5 : Int) (h : am_H) : am_call am_ms 260 [am_R x0, am_I x1, am_I x2, am_L x3, am_I x5] h = am_run am_ms 260 0 [am_R x0, am_I x1, am_I x2, am_L x3, am_K 1, am_I x5] [] h := rfl
set_option maxHeartbeats 4000000 in
theorem bk_260_26 (x0 : Nat) (x1 : Int) (x2 : Int) (x3 : Int) (x5 : Int) (y0 : Int) (y1 : Int) (h : am_H) : am_run am_ms 260 26 [am_R x0, am_I x1, am_I x2, am_L x3, am_K 1, am_I x5] [am_I y0, am_I y1] h = (bif decide (y1 ≤ y0) then am_run am_ms 260 31 [am_R x0, am_I x1, am_I x2, am_L x3, am_K 1, am_I x5] [] h else am_run am_ms 260 29 [am_R x0, am_I x1, am_I x2, am_L x3, am_K 1, am_I x5] [] h) :=
  (am_xs_run am_ms 260 [(.if_icmp .le 5, 3, [])] 26 _ _ h (by decide +kernel)).trans rfl
set_option maxHeartbeats 4000000 in
theorem bk_260_29 (x0 : Nat) (x1 : Int) (x2 : Int) (x3 : Int) (x5 : Int) (h : am_H) : am_run am_ms 260 29 [am_R x0, am_I x1, am_I x2, am_L x3, am_K 1, am_I x5] [] h = some (some (am_I (-1)), h) :=
  (am_xs_run am_ms 260 [(.iconst (-1), 1, []), (.ireturn, 1, [0])] 29 _ _ h (by decide +kernel)).trans rfl
set_option maxHeartbeats 4000000 in
theorem bk_260_31 (x0 : Nat) (x1 : Int) (x2 : Int) (x3 : Int) (x5 : Int) (h : am_H) : am_run am_ms 260 31 [am_R x0, am_I x1, am_I x2, am_L x3, am_K 1, am_I x5] [] h = ((am_gfR h x0 8 8).bind fun f1 => ((am_gfR h x0 8 4).bind fun f2 => ((am_isc h f1 7).bind fun _ => ((am_cV 259 [am_R f1, am_R f2, am_I x1] h).bind fun h3 => ((am_gfR h3 x0 8 8).bind fun f4 => ((am_isc h3 f4 7).bind fun _ => ((am_cV 245 [am_R f4, am_I x2, am_L x3] h3).bind fun h5 => ((am_gfR h5 x0 8 8).bind fun f6 => am_run am_ms 260 58 [am_R x0, am_I x1, am_I x2, am_L x3, am_K 1, am_I x5] [am_I x5, am_R f6] h5)))))))) :=
  (am_xs_run am_ms 260 [(.aload_n 0, 1, []), (.getfield 49, 3, [8, 8, 2045, 3]), (.aload_n 0, 1, []), (.getfield 34, 3, [8, 4, 2041, 3]), (.iload_n 1, 1, []), (.invokevirtual 341, 3, [0, 259, 3, 7, 0, 5016, 5017, 5018]), (.aload_n 0, 1, []), (.getfield 49, 3, [8, 8, 2045, 3]), (.iload_n 2, 1, []), (.lload_n 3, 1, []), (.invokevirtual 325, 3, [0, 245, 3, 7, 0, 4219, 4220, 4221]), (.aload_n 0, 1, []), (.getfield 49, 3, [8, 8, 2045, 3]), (.iload 5, 2, [])] 31 _ _ h (by decide +kernel)).trans rfl
set_option maxHeartbeats 4000000 in
theorem bk_260_58 (x0 : Nat) (x1 : Int) (x2 : Int) (x3 : Int) (x5 : Int) (y0 : Int) (y1 : Nat) (h : am_H) : am_run am_ms 260 58 [am_R x0, am_I x1, am_I x2, am_L x3, am_K 1, am_I x5] [am_I y0, am_R y1] h = ((am_isc h y1 7).bind fun _ => ((am_cI 246 [am_R y1, am_I y0] h).bind fun r1 => some (some (am_I r1.1), r1.2))) :=
  (am_xs_run am_ms 260 [(.invokevirtual 329, 3, [0, 246, 2, 7, 1, 4231, 4232, 4233]), (.ireturn, 1, [0])] 58 _ _ h (by decide +kernel)).trans rfl
set_option maxHeartbeats 4000000 in
theorem bk_263_0 (x0 : Nat) (x1 : Int) (x2 : Int) (h : am_H) : am_run am_ms 263 0 [am_R x0, am_I x1, am_L x2, am_K 1, am_K 1, am_K 1] [] h = ((am_isc h x0 8).bind fun _ => ((am_cI 242 [am_R x0, am_I x1] h).bind fun r1 => (bif decide (¬ r1.1 = 0) then am_run am_ms 263 10 [am_R x0, am_I x1, am_L x2, am_K 1, am_K 1, am_K 1] [] r1.2 else some (some (am_I (-1)), r1.2)))) :=
  (am_xs_run am_ms 263 [(.aload_n 0, 1, []), (.iload_n 1, 1, []), (.invokevirtual 318, 3, [0, 242, 2, 8, 1, 4210, 4212, 35]), (.ifCond .ne 5, 3, []), (.iconst (-1), 1, []), (.ireturn, 1, [0])] 0 _ _ h (by decide +kernel)).trans rfl
theorem en_263 (x0 : Nat) (x1 : Int) (x2 : Int) (h : am_H) : am_call am_ms 263 [am_R x0, am_I x1, am_L x2] h = am_run am_ms 263 0 [am_R x0, am_I x1, am_L x2, am_K 1, am_K 1, am_K 1] [] h := rfl
set_option maxHeartbeats 4000000 in
theorem bk_263_10 (x0 : Nat) (x1 : Int) (x2 : Int) (h : am_H) : am_run am_ms 263 10 [am_R x0, am_I x1, am_L x2, am_K 1, am_K 1, am_K 1] [] h = ((am_gfR h x0 8 8).bind fun f1 => ((am_isc h f1 7).bind fun _ => ((am_cV 253 [am_R f1] h).bind fun h2 => am_run am_ms 263 23 [am_R x0, am_I x1, am_L x2, am_K 1, am_I 1, am_I 1] [] h2))) :=
  (am_xs_run am_ms 263 [(.aload_n 0, 1, []), (.getfield 49, 3, [8, 8, 2045, 3]), (.invokevirtual 332, 3, [0, 253, 1, 7, 0, 4239, 5000, 5001]), (.iconst 1, 1, []), (.istore 4, 2, []), (.iconst 1, 1, []), (.istore 5, 2, [])] 10 _ _ h (by decide +kernel)).trans rfl
set_option maxHeartbeats 4000000 in
theorem bk_263_23 (x0 : Nat) (x1 : Int) (x2 : Int) (x4 : Int) (x5 : Int) (h : am_H) : am_run am_ms 263 23 [am_R x0, am_I x1, am_L x2, am_K 1, am_I x4, am_I x5] [] h = (bif decide (3 < x5) then am_run am_ms 263 71 [am_R x0, am_I x1, am_L x2, am_K 1, am_I x4, am_I x5] [] h else ((am_gfR h x0 8 8).bind fun f1 => ((am_gfR h x0 8 4).bind fun f2 => ((am_isc h f1 7).bind fun _ => ((am_cV 259 [am_R f1, am_R f2, am_I x5] h).bind fun h3 => ((am_gfR h3 x0 8 8).bind fun f4 => ((am_isc h3 f4 7).bind fun _ => ((am_cV 245 [am_R f4, am_I x1, am_L x2] h3).bind fun h5 => am_run am_ms 263 51 [am_R x0, am_I x1, am_L x2, am_K 1, am_I x4, am_I x5] [] h5)))))))) :=
  (am_xs_run am_ms 263 [(.iload 5, 2, []), (.iconst 3, 1, []), (.if_icmp .gt 45, 3, []), (.aload_n 0, 1, []), (.getfield 49, 3, [8, 8, 2045, 3]), (.aload_n 0, 1, []), (.getfield 34, 3, [8, 4, 2041, 3]), (.iload 5, 2, []), (.invokevirtual 341, 3, [0, 259, 3, 7, 0, 5016, 5017, 5018]), (.aload_n 0, 1, []), (.getfield 49, 3, [8, 8, 2045, 3]), (.iload_n 1, 1, []), (.lload_n 2, 1, []), (.invokevirtual 325, 3, [0, 245, 3, 7, 0, 4219, 4220, 4221])] 23 _ _ h (by decide +kernel)).trans rfl
set_option maxHeartbeats 4000000 in
theorem bk_263_51 (x0 : Nat) (x1 : Int) (x2 : Int) (x4 : Int) (x5 : Int) (h : am_H) : am_run am_ms 263 51 [am_R x0, am_I x1, am_L x2, am_K 1, am_I x4, am_I x5] [] h = ((am_gfR h x0 8 8).bind fun f1 => ((am_isc h f1 7).bind fun _ => ((am_cI 254 [am_R f1] h).bind fun r2 => (bif decide (r2.1 = 0) then am_run am_ms 263 65 [am_R x0, am_I x1, am_L x2, am_K 1, am_I x4, am_I x5] [] r2.2 else am_run am_ms 263 65 [am_R x0, am_I x1, am_L x2, am_K 1, am_I x5, am_I x5] [] r2.2)))) :=
  (am_xs_run am_ms 263 [(.aload_n 0, 1, []), (.getfield 49, 3, [8, 8, 2045, 3]), (.invokevirtual 335, 3, [0, 254, 1, 7, 1, 5003, 5004, 5005]), (.ifCond .eq 7, 3, []), (.iload 5, 2, []), (.istore 4, 2, [])] 51 _ _ h (by decide +kernel)).trans rfl
set_option maxHeartbeats 4000000 in
theorem bk_263_65 (x0 : Nat) (x1 : Int) (x2 : Int) (x4 : Int) (x5 : Int) (h : am_H) : am_run am_ms 263 65 [am_R x0, am_I x1, am_L x2, am_K 1, am_I x4, am_I x5] [] h = am_run am_ms 263 23 [am_R x0, am_I x1, am_L x2, am_K 1, am_I x4, am_I (am_w (x5 + 1))] [] h :=
  (am_xs_run am_ms 263 [(.iinc 5 1, 3, []), (.goto (-45), 3, [])] 65 _ _ h (by decide +kernel)).trans rfl
set_option maxHeartbeats 4000000 in
theorem bk_263_71 (x0 : Nat) (x1 : Int) (x2 : Int) (x4 : Int) (x5 : Int) (h : am_H) : am_run am_ms 263 71 [am_R x0, am_I x1, am_L x2, am_K 1, am_I x4, am_I x5] [] h = some (some (am_I x4), h) :=
  (am_xs_run am_ms 263 [(.iload 4, 2, []), (.ireturn, 1, [0])] 71 _ _ h (by decide +kernel)).trans rfl
set_option maxHeartbeats 4000000 in
theorem bk_265_0 (x0 : Nat) (x1 : Int) (h : am_H) : am_run am_ms 265 0 [am_R x0, am_I x1, am_K 1, am_K 1, am_K 1, am_K 1] [] h = ((am_gfR h x0 1 9).bind fun f1 => ((am_rd h f1 0 x1).bind fun v2 => am_run am_ms 265 12 [am_R x0, am_I x1, am_I v2, am_I 0, am_I 0, am_K 1] [] h)) :=
  (am_xs_run am_ms 265 [(.aload_n 0, 1, []), (.getfield 29, 3, [1, 9, 1169, 3]), (.iload_n 1, 1, []), (.iaload, 1, []), (.istore_n 2, 1, []), (.iconst 0, 1, []), (.istore_n 3, 1, []), (.iconst 0, 1, []), (.istore 4, 2, [])] 0 _ _ h (by decide +kernel)).trans rfl
theorem en_265 (x0 : Nat) (x1 : Int) (h : am_H) : am_call am_ms 265 [am_R x0, am_I x1] h = am_run am_ms 265 0 [am_R x0, am_I x1, am_K 1, am_K 1, am_K 1, am_K 1] [] h := rfl
set_option maxHeartbeats 4000000 in
theorem bk_265_12 (x0 : Nat) (x1 : Int) (x2 : Int) (x3 : Int) (x4 : Int) (x5 : am_V) (h : am_H) : am_run am_ms 265 12 [am_R x0, am_I x1, am_I x2, am_I x3, am_I x4, x5] [] h = (bif decide (128 ≤ x4) then am_run am_ms 265 81 [am_R x0, am_I x1, am_I x2, am_I x3, am_I x4, x5] [] h else ((am_isc h x0 1).bind fun _ => ((am_cI 65 [am_R x0, am_I x4] h).bind fun r1 => (bif decide (r1.1 = 0) then am_run am_ms 265 75 [am_R x0, am_I x1, am_I x2, am_I x3, am_I x4, x5] [] r1.2 else ((am_gfR r1.2 x0 1 7).bind fun f2 => ((am_rd r1.2 f2 0 x4).bind fun v3 => ((am_gfR r1.2 x0 1 7).bind fun f4 => am_run am_ms 265 41 [am_R x0, am_I x1, am_I x2, am_I x3, am_I x4, x5] [am_I x1, am_R f4, am_I v3] r1.2))))))) :=
  (am_xs_run am_ms 265 [(.iload 4, 2, []), (.sipush 128, 3, []), (.if_icmp .ge 64, 3, []), (.aload_n 0, 1, []), (.iload 4, 2, []), (.invokevirtual 15, 3, [0, 65, 2, 1, 1, 4179, 3039, 3040]), (.ifCond .eq 49, 3, []), (.aload_n 0, 1, []), (.getfield 25, 3, [1, 7, 1164, 3]), (.iload 4, 2, []), (.iaload, 1, []), (.aload_n 0, 1, []), (.getfield 25, 3, [1, 7, 1164, 3]), (.iload_n 1, 1, [])] 12 _ _ h (by decide +kernel)).trans rfl
set_option maxHeartbeats 4000000 in
theorem bk_265_41 (x0 : Nat) (x1 : Int) (x2 : Int) (x3 : Int) (x4 : Int) (x5 : am_V) (y0 : Int) (y1 : Nat) (y2 : Int) (h : am_H) : am_run am_ms 265 41 [am_R x0, am_I x1, am_I x2, am_I x3, am_I x4, x5] [am_I y0, am_R y1, am_I y2] h = ((am_rd h y1 0 y0).bind fun v1 => (bif decide (¬ y2 = v1) then am_run am_ms 265 75 [am_R x0, am_I x1, am_I x2, am_I x3, am_I x4, x5] [] h else ((am_gfR h x0 1 9).bind fun f2 => ((am_rd h f2 0 x4).bind fun v3 => (bif decide (x2 < v3) then am_run am_ms 265 72 [am_R x0, am_I x1, am_I x2, am_I x3, am_I x4, am_I v3] [] h else (bif decide (¬ v3 = x2) then am_run am_ms 265 75 [am_R x0, am_I x1, am_I x2, am_I x3, am_I x4, am_I v3] [] h else am_run am_ms 265 68 [am_R x0, am_I x1, am_I x2, am_I x3, am_I x4, am_I v3] [am_I x4] h)))))) :=
  (am_xs_run am_ms 265 [(.iaload, 1, []), (.if_icmp .ne 33, 3, []), (.aload_n 0, 1, []), (.getfield 29, 3, [1, 9, 1169, 3]), (.iload 4, 2, []), (.iaload, 1, []), (.istore 5, 2, []), (.iload 5, 2, []), (.iload_n 2, 1, []), (.if_icmp .gt 15, 3, []), (.iload 5, 2, []), (.iload_n 2, 1, []), (.if_icmp .ne 12, 3, []), (.iload 4, 2, [])] 41 _ _ h (by decide +kernel)).trans rfl
set_option maxHeartbeats 4000000 in
theorem bk_265_68 (x0 : Nat) (x1 : Int) (x2 : Int) (x3 : Int) (x4 : Int) (x5 : Int) (y0 : Int) (h : am_H) : am_run am_ms 265 68 [am_R x0, am_I x1, am_I x2, am_I x3, am_I x4, am_I x5] [am_I y0] h = (bif decide (x1 ≤ y0) then am_run am_ms 265 75 [am_R x0, am_I x1, am_I x2, am_I x3, am_I x4, am_I x5] [] h else am_run am_ms 265 72 [am_R x0, am_I x1, am_I x2, am_I x3, am_I x4, am_I x5] [] h) :=
  (am_xs_run am_ms 265 [(.iload_n 1, 1, []), (.if_icmp .ge 6, 3, [])] 68 _ _ h (by decide +kernel)).trans rfl
set_option maxHeartbeats 4000000 in
theorem bk_265_72 (x0 : Nat) (x1 : Int) (x2 : Int) (x3 : Int) (x4 : Int) (x5 : Int) (h : am_H) : am_run am_ms 265 72 [am_R x0, am_I x1, am_I x2, am_I x3, am_I x4, am_I x5] [] h = am_run am_ms 265 75 [am_R x0, am_I x1, am_I x2, am_I (am_w (x3 + 1)), am_I x4, am_I x5] [] h :=
  (am_xs_run am_ms 265 [(.iinc 3 1, 3, [])] 72 _ _ h (by decide +kernel)).trans rfl
set_option maxHeartbeats 4000000 in
theorem bk_265_75 (x0 : Nat) (x1 : Int) (x2 : Int) (x3 : Int) (x4 : Int) (x5 : am_V) (h : am_H) : am_run am_ms 265 75 [am_R x0, am_I x1, am_I x2, am_I x3, am_I x4, x5] [] h = am_run am_ms 265 12 [am_R x0, am_I x1, am_I x2, am_I x3, am_I (am_w (x4 + 1)), x5] [] h :=
  (am_xs_run am_ms 265 [(.iinc 4 1, 3, []), (.goto (-66), 3, [])] 75 _ _ h (by decide +kernel)).trans rfl
set_option maxHeartbeats 4000000 in
theorem bk_265_81 (x0 : Nat) (x1 : Int) (x2 : Int) (x3 : Int) (x4 : Int) (x5 : am_V) (h : am_H) : am_run am_ms 265 81 [am_R x0, am_I x1, am_I x2, am_I x3, am_I x4, x5] [] h = some (some (am_I x3), h) :=
  (am_xs_run am_ms 265 [(.iload_n 3, 1, []), (.ireturn, 1, [0])] 81 _ _ h (by decide +kernel)).trans rfl
set_option maxHeartbeats 4000000 in
theorem bk_266_0 (x0 : Nat) (x1 : Int) (x2 : Int) (h : am_H) : am_run am_ms 266 0 [am_R x0, am_I x1, am_I x2, am_K 1] [] h = am_run am_ms 266 2 [am_R x0, am_I x1, am_I x2, am_I 0] [] h :=
  (am_xs_run am_ms 266 [(.iconst 0, 1, []), (.istore_n 3, 1, [])] 0 _ _ h (by decide +kernel)).trans rfl
theorem en_266 (x0 : Nat) (x1 : Int) (x2 : Int) (h : am_H) : am_call am_ms 266 [am_R x0, am_I x1, am_I x2] h = am_run am_ms 266 0 [am_R x0, am_I x1, am_I x2, am_K 1] [] h := rfl
set_option maxHeartbeats 4000000 in
theorem bk_266_2 (x0 : Nat) (x1 : Int) (x2 : Int) (x3 : Int) (h : am_H) : am_run am_ms 266 2 [am_R x0, am_I x1, am_I x2, am_I x3] [] h = (bif decide (128 ≤ x3) then am_run am_ms 266 44 [am_R x0, am_I x1, am_I x2, am_I x3] [] h else ((am_isc h x0 1).bind fun _ => ((am_cI 65 [am_R x0, am_I x3] h).bind fun r1 => (bif decide (r1.1 = 0) then am_run am_ms 266 38 [am_R x0, am_I x1, am_I x2, am_I x3] [] r1.2 else ((am_gfR r1.2 x0 1 7).bind fun f2 => ((am_rd r1.2 f2 0 x3).bind fun v3 => (bif decide (¬ v3 = x1) then am_run am_ms 266 38 [am_R x0, am_I x1, am_I x2, am_I x3] [] r1.2 else am_run am_ms 266 28 [am_R x0, am_I x1, am_I x2, am_I x3] [am_R x0] r1.2))))))) :=
  (am_xs_run am_ms 266 [(.iload_n 3, 1, []), (.sipush 128, 3, []), (.if_icmp .ge 38, 3, []), (.aload_n 0, 1, []), (.iload_n 3, 1, []), (.invokevirtual 15, 3, [0, 65, 2, 1, 1, 4179, 3039, 3040]), (.ifCond .eq 24, 3, []), (.aload_n 0, 1, []), (.getfield 25, 3, [1, 7, 1164, 3]), (.iload_n 3, 1, []), (.iaload, 1, []), (.iload_n 1, 1, []), (.if_icmp .ne 14, 3, []), (.aload_n 0, 1, [])] 2 _ _ h (by decide +kernel)).trans rfl
set_option maxHeartbeats 4000000 in
theorem bk_266_28 (x0 : Nat) (x1 : Int) (x2 : Int) (x3 : Int) (y0 : Nat) (h : am_H) : am_run am_ms 266 28 [am_R x0, am_I x1, am_I x2, am_I x3] [am_R y0] h = ((am_cI 265 [am_R y0, am_I x3] h).bind fun r1 => (bif decide (¬ r1.1 = x2) then am_run am_ms 266 38 [am_R x0, am_I x1, am_I x2, am_I x3] [] r1.2 else some (some (am_I x3), r1.2))) :=
  (am_xs_run am_ms 266 [(.iload_n 3, 1, []), (.invokestatic 46, 3, [1, 265, 2, 0, 1, 5032, 5033]), (.iload_n 2, 1, []), (.if_icmp .ne 5, 3, []), (.iload_n 3, 1, []), (.ireturn, 1, [0])] 28 _ _ h (by decide +kernel)).trans rfl
set_option maxHeartbeats 4000000 in
theorem bk_266_38 (x0 : Nat) (x1 : Int) (x2 : Int) (x3 : Int) (h : am_H) : am_run am_ms 266 38 [am_R x0, am_I x1, am_I x2, am_I x3] [] h = am_run am_ms 266 2 [am_R x0, am_I x1, am_I x2, am_I (am_w (x3 + 1))] [] h :=
  (am_xs_run am_ms 266 [(.iinc 3 1, 3, []), (.goto (-39), 3, [])] 38 _ _ h (by decide +kernel)).trans rfl
set_option maxHeartbeats 4000000 in
theorem bk_266_44 (x0 : Nat) (x1 : Int) (x2 : Int) (x3 : Int) (h : am_H) : am_run am_ms 266 44 [am_R x0, am_I x1, am_I x2, am_I x3] [] h = some (some (am_I (-1)), h) :=
  (am_xs_run am_ms 266 [(.iconst (-1), 1, []), (.ireturn, 1, [0])] 44 _ _ h (by decide +kernel)).trans rfl
set_option maxHeartbeats 4000000 in
theorem bk_267_0 (x0 : Nat) (x1 : Int) (x2 : Int) (h : am_H) : am_run am_ms 267 0 [am_R x0, am_I x1, am_I x2] [] h = ((am_gfR h x0 8 4).bind fun f1 => ((am_isc h f1 1).bind fun _ => ((am_cI 69 [am_R f1, am_I x1] h).bind fun r2 => (bif decide (r2.1 = 0) then am_run am_ms 267 23 [am_R x0, am_I x1, am_I x2] [] r2.2 else ((am_gfR r2.2 x0 8 4).bind fun f3 => ((am_cI 266 [am_R f3, am_I x1, am_I x2] r2.2).bind fun r4 => am_run am_ms 267 24 [am_R x0, am_I x1, am_I x2] [am_I r4.1] r4.2)))))) :=
  (am_xs_run am_ms 267 [(.aload_n 0, 1, []), (.getfield 34, 3, [8, 4, 2041, 3]), (.iload_n 1, 1, []), (.invokevirtual 184, 3, [0, 69, 2, 1, 1, 3222, 3055, 3056]), (.ifCond .eq 15, 3, []), (.aload_n 0, 1, []), (.getfield 34, 3, [8, 4, 2041, 3]), (.iload_n 1, 1, []), (.iload_n 2, 1, []), (.invokestatic 344, 3, [1, 266, 3, 0, 1, 5029, 5030]), (.goto 4, 3, [])] 0 _ _ h (by decide +kernel)).trans rfl
theorem en_267 (x0 : Nat) (x1 : Int) (x2 : Int) (h : am_H) : am_call am_ms 267 [am_R x0, am_I x1, am_I x2] h = am_run am_ms 267 0 [am_R x0, am_I x1, am_I x2] [] h := rfl
set_option maxHeartbeats 4000000 in
theorem bk_267_23 (x0 : Nat) (x1 : Int) (x2 : Int) (h : am_H) : am_run am_ms 267 23 [am_R x0, am_I x1, am_I x2] [] h = am_run am_ms 267 24 [am_R x0, am_I x1, am_I x2] [am_I (-1)] h :=
  (am_xs_run am_ms 267 [(.iconst (-1), 1, [])] 23 _ _ h (by decide +kernel)).trans rfl
set_option maxHeartbeats 4000000 in
theorem bk_267_24 (x0 : Nat) (x1 : Int) (x2 : Int) (y0 : Int) (h : am_H) : am_run am_ms 267 24 [am_R x0, am_I x1, am_I x2] [am_I y0] h = some (some (am_I y0), h) :=
  (am_xs_run am_ms 267 [(.ireturn, 1, [0])] 24 _ _ h (by decide +kernel)).trans rfl
set_option maxHeartbeats 4000000 in
theorem bk_269_0 (x0 : Nat) (x1 : Int) (h : am_H) : am_run am_ms 269 0 [am_R x0, am_I x1, am_K 1, am_K 1, am_K 1] [] h = am_run am_ms 269 4 [am_R x0, am_I x1, am_I 0, am_I 0, am_K 1] [] h :=
  (am_xs_run am_ms 269 [(.iconst 0, 1, []), (.istore_n 2, 1, []), (.iconst 0, 1, []), (.istore_n 3, 1, [])] 0 _ _ h (by decide +kernel)).trans rfl
theorem en_269 (x0 : Nat) (x1 : Int) (h : am_H) : am_call am_ms 269 [am_R x0, am_I x1] h = am_run am_ms 269 0 [am_R x0, am_I x1, am_K 1, am_K 1, am_K 1] [] h := rfl
set_option maxHeartbeats 4000000 in
theorem bk_269_4 (x0 : Nat) (x1 : Int) (x2 : Int) (x3 : Int) (x4 : am_V) (h : am_H) : am_run am_ms 269 4 [am_R x0, am_I x1, am_I x2, am_I x3, x4] [] h = (bif decide (32 ≤ x3) then am_run am_ms 269 58 [am_R x0, am_I x1, am_I x2, am_I x3, x4] [] h else ((am_gfR h x0 1 10).bind fun f1 => ((am_rd h f1 0 x3).bind fun v2 => (bif decide (v2 = (-1)) then am_run am_ms 269 52 [am_R x0, am_I x1, am_I x2, am_I x3, am_I v2] [] h else ((am_isc h x0 1).bind fun _ => ((am_cI 78 [am_R x0, am_I v2] h).bind fun r3 => am_run am_ms 269 30 [am_R x0, am_I x1, am_I x2, am_I x3, am_I v2] [am_I r3.1] r3.2)))))) :=
  (am_xs_run am_ms 269 [(.iload_n 3, 1, []), (.bipush 32, 2, []), (.if_icmp .ge 51, 3, []), (.aload_n 0, 1, []), (.getfield 56, 3, [1, 10, 1172, 3]), (.iload_n 3, 1, []), (.iaload, 1, []), (.istore 4, 2, []), (.iload 4, 2, []), (.iconst (-1), 1, []), (.if_icmp .eq 31, 3, []), (.aload_n 0, 1, []), (.iload 4, 2, []), (.invokevirtual 50, 3, [0, 78, 2, 1, 1, 5042, 3108, 3109])] 4 _ _ h (by decide +kernel)).trans rfl
set_option maxHeartbeats 4000000 in
theorem bk_269_30 (x0 : Nat) (x1 : Int) (x2 : Int) (x3 : Int) (x4 : Int) (y0 : Int) (h : am_H) : am_run am_ms 269 30 [am_R x0, am_I x1, am_I x2, am_I x3, am_I x4] [am_I y0] h = (bif decide (y0 = 0) then am_run am_ms 269 52 [am_R x0, am_I x1, am_I x2, am_I x3, am_I x4] [] h else ((am_gfR h x0 1 9).bind fun f1 => ((am_rd h f1 0 x4).bind fun v2 => ((am_gfR h x0 1 9).bind fun f3 => ((am_rd h f3 0 x1).bind fun v4 => (bif decide (v4 ≤ v2) then am_run am_ms 269 52 [am_R x0, am_I x1, am_I x2, am_I x3, am_I x4] [] h else am_run am_ms 269 52 [am_R x0, am_I x1, am_I (am_w (x2 + 1)), am_I x3, am_I x4] [] h)))))) :=
  (am_xs_run am_ms 269 [(.ifCond .eq 22, 3, []), (.aload_n 0, 1, []), (.getfield 29, 3, [1, 9, 1169, 3]), (.iload 4, 2, []), (.iaload, 1, []), (.aload_n 0, 1, []), (.getfield 29, 3, [1, 9, 1169, 3]), (.iload_n 1, 1, []), (.iaload, 1, []), (.if_icmp .ge 6, 3, []), (.iinc 2 1, 3, [])] 30 _ _ h (by decide +kernel)).trans rfl
set_option maxHeartbeats 4000000 in
theorem bk_269_52 (x0 : Nat) (x1 : Int) (x2 : Int) (x3 : Int) (x4 : Int) (h : am_H) : am_run am_ms 269 52 [am_R x0, am_I x1, am_I x2, am_I x3, am_I x4] [] h = am_run am_ms 269 4 [am_R x0, am_I x1, am_I x2, am_I (am_w (x3 + 1)), am_I x4] [] h :=
  (am_xs_run am_ms 269 [(.iinc 3 1, 3, []), (.goto (-51), 3, [])] 52 _ _ h (by decide +kernel)).trans rfl
set_option maxHeartbeats 4000000 in
theorem bk_269_58 (x0 : Nat) (x1 : Int) (x2 : Int) (x3 : Int) (x4 : am_V) (h : am_H) : am_run am_ms 269 58 [am_R x0, am_I x1, am_I x2, am_I x3, x4] [] h = some (some (am_I x2), h) :=
  (am_xs_run am_ms 269 [(.iload_n 2, 1, []), (.ireturn, 1, [0])] 58 _ _ h (by decide +kernel)).trans rfl
set_option maxHeartbeats 4000000 in
theorem bk_270_0 (x0 : Nat) (x1 : Int) (h : am_H) : am_run am_ms 270 0 [am_R x0, am_I x1, am_K 1] [] h = am_run am_ms 270 2 [am_R x0, am_I x1, am_I 0] [] h :=
  (am_xs_run am_ms 270 [(.iconst 0, 1, []), (.istore_n 2, 1, [])] 0 _ _ h (by decide +kernel)).trans rfl
theorem en_270 (x0 : Nat) (x1 : Int) (h : am_H) : am_call am_ms 270 [am_R x0, am_I x1] h = am_run am_ms 270 0 [am_R x0, am_I x1, am_K 1] [] h := rfl
set_option maxHeartbeats 4000000 in
theorem bk_270_2 (x0 : Nat) (x1 : Int) (x2 : Int) (h : am_H) : am_run am_ms 270 2 [am_R x0, am_I x1, am_I x2] [] h = (bif decide (128 ≤ x2) then am_run am_ms 270 42 [am_R x0, am_I x1, am_I x2] [] h else ((am_isc h x0 1).bind fun _ => ((am_cI 65 [am_R x0, am_I x2] h).bind fun r1 => (bif decide (r1.1 = 0) then am_run am_ms 270 36 [am_R x0, am_I x1, am_I x2] [] r1.2 else ((am_isc r1.2 x0 1).bind fun _ => ((am_cI 78 [am_R x0, am_I x2] r1.2).bind fun r2 => (bif decide (r2.1 = 0) then am_run am_ms 270 36 [am_R x0, am_I x1, am_I x2] [] r2.2 else ((am_cI 269 [am_R x0, am_I x2] r2.2).bind fun r3 => am_run am_ms 270 30 [am_R x0, am_I x1, am_I x2] [am_I r3.1] r3.2)))))))) :=
  (am_xs_run am_ms 270 [(.iload_n 2, 1, []), (.sipush 128, 3, []), (.if_icmp .ge 36, 3, []), (.aload_n 0, 1, []), (.iload_n 2, 1, []), (.invokevirtual 15, 3, [0, 65, 2, 1, 1, 4179, 3039, 3040]), (.ifCond .eq 22, 3, []), (.aload_n 0, 1, []), (.iload_n 2, 1, []), (.invokevirtual 50, 3, [0, 78, 2, 1, 1, 5042, 3108, 3109]), (.ifCond .eq 14, 3, []), (.aload_n 0, 1, []), (.iload_n 2, 1, []), (.invokestatic 53, 3, [1, 269, 2, 0, 1, 5043, 5044])] 2 _ _ h (by decide +kernel)).trans rfl
set_option maxHeartbeats 4000000 in
theorem bk_270_30 (x0 : Nat) (x1 : Int) (x2 : Int) (y0 : Int) (h : am_H) : am_run am_ms 270 30 [am_R x0, am_I x1, am_I x2] [am_I y0] h = (bif decide (¬ y0 = x1) then am_run am_ms 270 36 [am_R x0, am_I x1, am_I x2] [] h else some (some (am_I x2), h)) :=
  (am_xs_run am_ms 270 [(.iload_n 1, 1, []), (.if_icmp .ne 5, 3, []), (.iload_n 2, 1, []), (.ireturn, 1, [0])] 30 _ _ h (by decide +kernel)).trans rfl
set_option maxHeartbeats 4000000 in
theorem bk_270_36 (x0 : Nat) (x1 : Int) (x2 : Int) (h : am_H) : am_run am_ms 270 36 [am_R x0, am_I x1, am_I x2] [] h = am_run am_ms 270 2 [am_R x0, am_I x1, am_I (am_w (x2 + 1))] [] h :=
  (am_xs_run am_ms 270 [(.iinc 2 1, 3, []), (.goto (-37), 3, [])] 36 _ _ h (by decide +kernel)).trans rfl
set_option maxHeartbeats 4000000 in
theorem bk_270_42 (x0 : Nat) (x1 : Int) (x2 : Int) (h : am_H) : am_run am_ms 270 42 [am_R x0, am_I x1, am_I x2] [] h = some (some (am_I (-1)), h) :=
  (am_xs_run am_ms 270 [(.iconst (-1), 1, []), (.ireturn, 1, [0])] 42 _ _ h (by decide +kernel)).trans rfl
set_option maxHeartbeats 4000000 in
theorem bk_271_0 (x0 : Nat) (x1 : Int) (h : am_H) : am_run am_ms 271 0 [am_R x0, am_I x1] [] h = ((am_gfR h x0 8 4).bind fun f1 => ((am_cI 270 [am_R f1, am_I x1] h).bind fun r2 => some (some (am_I r2.1), r2.2))) :=
  (am_xs_run am_ms 271 [(.aload_n 0, 1, []), (.getfield 34, 3, [8, 4, 2041, 3]), (.iload_n 1, 1, []), (.invokestatic 347, 3, [1, 270, 2, 0, 1, 5039, 5040]), (.ireturn, 1, [0])] 0 _ _ h (by decide +kernel)).trans rfl
theorem en_271 (x0 : Nat) (x1 : Int) (h : am_H) : am_call am_ms 271 [am_R x0, am_I x1] h = am_run am_ms 271 0 [am_R x0, am_I x1] [] h := rfl
set_option maxHeartbeats 4000000 in
theorem bk_276_0 (x0 : Nat) (h : am_H) : am_run am_ms 276 0 [am_R x0] [] h = ((am_isc h x0 8).bind fun _ => ((am_cI 137 [am_R x0] h).bind fun r1 => (bif decide (r1.1 = 0) then am_run am_ms 276 27 [am_R x0] [] r1.2 else ((am_gfR r1.2 x0 8 4).bind fun f2 => ((am_gfR r1.2 f2 1 1).bind fun f3 => ((am_rd r1.2 f3 0 4).bind fun v4 => ((am_gfR r1.2 x0 8 4).bind fun f5 => ((am_isc r1.2 f5 1).bind fun _ => ((am_cI 275 [am_R f5] r1.2).bind fun r6 => am_run am_ms 276 28 [am_R x0] [am_I (am_w (v4 - r6.1))] r6.2))))))))) :=
  (am_xs_run am_ms 276 [(.aload_n 0, 1, []), (.invokevirtual 136, 3, [0, 137, 1, 8, 1, 3202, 3204, 27]), (.ifCond .eq 23, 3, []), (.aload_n 0, 1, []), (.getfield 34, 3, [8, 4, 2041, 3]), (.getfield 245, 3, [1, 1, 1151, 3]), (.iconst 4, 1, []), (.iaload, 1, []), (.aload_n 0, 1, []), (.getfield 34, 3, [8, 4, 2041, 3]), (.invokevirtual 351, 3, [0, 275, 1, 1, 1, 5050, 5051, 5052]), (.isub, 1, []), (.goto 4, 3, [])] 0 _ _ h (by decide +kernel)).trans rfl
theorem en_276 (x0 : Nat) (h : am_H) : am_call am_ms 276 [am_R x0] h = am_run am_ms 276 0 [am_R x0] [] h := rfl
set_option maxHeartbeats 4000000 in
theorem bk_276_27 (x0 : Nat) (h : am_H) : am_run am_ms 276 27 [am_R x0] [] h = am_run am_ms 276 28 [am_R x0] [am_I (-1)] h :=
  (am_xs_run am_ms 276 [(.iconst (-1), 1, [])] 27 _ _ h (by decide +kernel)).trans rfl
set_option maxHeartbeats 4000000 in
theorem bk_276_28 (x0 : Nat) (y0 : Int) (h : am_H) : am_run am_ms 276 28 [am_R x0] [am_I y0] h = some (some (am_I y0), h) :=
  (am_xs_run am_ms 276 [(.ireturn, 1, [0])] 28 _ _ h (by decide +kernel)).trans rfl
set_option maxHeartbeats 4000000 in
theorem bk_278_0 (x0 : Nat) (x1 : Int) (h : am_H) : am_run am_ms 278 0 [am_R x0, am_I x1, am_K 1, am_K 1] [] h = ((am_gfR h x0 8 4).bind fun f1 => ((am_isc h f1 1).bind fun _ => ((am_cI 69 [am_R f1, am_I x1] h).bind fun r2 => (bif decide (¬ r2.1 = 0) then am_run am_ms 278 13 [am_R x0, am_I x1, am_K 1, am_K 1] [] r2.2 else some (some (am_I (-1)), r2.2))))) :=
  (am_xs_run am_ms 278 [(.aload_n 0, 1, []), (.getfield 34, 3, [8, 4, 2041, 3]), (.iload_n 1, 1, []), (.invokevirtual 184, 3, [0, 69, 2, 1, 1, 3222, 3055, 3056]), (.ifCond .ne 5, 3, []), (.iconst (-1), 1, []), (.ireturn, 1, [0])] 0 _ _ h (by decide +kernel)).trans rfl
theorem en_278 (x0 : Nat) (x1 : Int) (h : am_H) : am_call am_ms 278 [am_R x0, am_I x1] h = am_run am_ms 278 0 [am_R x0, am_I x1, am_K 1, am_K 1] [] h := rfl
set_option maxHeartbeats 4000000 in
theorem bk_278_13 (x0 : Nat) (x1 : Int) (h : am_H) : am_run am_ms 278 13 [am_R x0, am_I x1, am_K 1, am_K 1] [] h = ((am_gfR h x0 8 8).bind fun f1 => ((am_gfR h f1 7 0).bind fun f2 => ((am_gfR h x0 8 4).bind fun f3 => ((am_isc h f2 1).bind fun _ => ((am_cV 77 [am_R f2, am_R f3] h).bind fun h4 => am_run am_ms 278 31 [am_R x0, am_I x1, am_R f2, am_I 0] [] h4))))) :=
  (am_xs_run am_ms 278 [(.aload_n 0, 1, []), (.getfield 49, 3, [8, 8, 2045, 3]), (.getfield 269, 3, [7, 0, 1230, 3]), (.astore_n 2, 1, []), (.aload_n 2, 1, []), (.aload_n 0, 1, []), (.getfield 34, 3, [8, 4, 2041, 3]), (.invokevirtual 272, 3, [0, 77, 2, 1, 0, 4151, 3083, 3084]), (.iconst 0, 1, []), (.istore_n 3, 1, [])] 13 _ _ h (by decide +kernel)).trans rfl
set_option maxHeartbeats 4000000 in
theorem bk_278_31 (x0 : Nat) (x1 : Int) (x2 : Nat) (x3 : Int) (h : am_H) : am_run am_ms 278 31 [am_R x0, am_I x1, am_R x2, am_I x3] [] h = (bif decide (200 ≤ x3) then am_run am_ms 278 57 [am_R x0, am_I x1, am_R x2, am_I x3] [] h else ((am_gfR h x0 8 5).bind fun f1 => ((am_isc h x2 1).bind fun _ => ((am_cI 102 [am_R x2, am_I x1, am_I 0, am_R f1] h).bind fun r2 => (bif decide (r2.1 < 0) then am_run am_ms 278 57 [am_R x0, am_I x1, am_R x2, am_I x3] [] r2.2 else am_run am_ms 278 31 [am_R x0, am_I x1, am_R x2, am_I (am_w (x3 + 1))] [] r2.2))))) :=
  (am_xs_run am_ms 278 [(.iload_n 3, 1, []), (.sipush 200, 3, []), (.if_icmp .ge 22, 3, []), (.aload_n 2, 1, []), (.iload_n 1, 1, []), (.iconst 0, 1, []), (.aload_n 0, 1, []), (.getfield 38, 3, [8, 5, 2042, 3]), (.invokevirtual 120, 3, [0, 102, 4, 1, 1, 3050, 3051, 3052]), (.ifCond .lt 9, 3, []), (.iinc 3 1, 3, []), (.goto (-23), 3, [])] 31 _ _ h (by decide +kernel)).trans rfl
set_option maxHeartbeats 4000000 in
theorem bk_278_57 (x0 : Nat) (x1 : Int) (x2 : Nat) (x3 : Int) (h : am_H) : am_run am_ms 278 57 [am_R x0, am_I x1, am_R x2, am_I x3] [] h = some (some (am_I x3), h) :=
  (am_xs_run am_ms 278 [(.iload_n 3, 1, []), (.ireturn, 1, [0])] 57 _ _ h (by decide +kernel)).trans rfl
set_option maxHeartbeats 4000000 in
theorem bk_280_0 (x0 : Nat) (x1 : Int) (x2 : Int) (h : am_H) : am_run am_ms 280 0 [am_R x0, am_I x1, am_I x2, am_K 1] [] h = ((am_gfR h x0 8 4).bind fun f1 => ((am_isc h f1 1).bind fun _ => ((am_cI 64 [am_R f1, am_I x1] h).bind fun r2 => (bif decide (r2.1 = 0) then am_run am_ms 280 22 [am_R x0, am_I x1, am_I x2, am_K 1] [] r2.2 else (bif decide (x2 < 0) then am_run am_ms 280 22 [am_R x0, am_I x1, am_I x2, am_K 1] [] r2.2 else (bif decide (x2 < 1000) then am_run am_ms 280 24 [am_R x0, am_I x1, am_I x2, am_K 1] [] r2.2 else am_run am_ms 280 22 [am_R x0, am_I x1, am_I x2, am_K 1] [] r2.2)))))) :=
  (am_xs_run am_ms 280 [(.aload_n 0, 1, []), (.getfield 34, 3, [8, 4, 2041, 3]), (.iload_n 1, 1, []), (.invokevirtual 140, 3, [0, 64, 2, 1, 1, 3210, 3043, 3044]), (.ifCond .eq 14, 3, []), (.iload_n 2, 1, []), (.ifCond .lt 10, 3, []), (.iload_n 2, 1, []), (.sipush 1000, 3, []), (.if_icmp .lt 5, 3, [])] 0 _ _ h (by decide +kernel)).trans rfl
theorem en_280 (x0 : Nat) (x1 : Int) (x2 : Int) (h : am_H) : am_call am_ms 280 [am_R x0, am_I x1, am_I x2] h = am_run am_ms 280 0 [am_R x0, am_I x1, am_I x2, am_K 1] [] h := rfl
set_option maxHeartbeats 4000000 in
theorem bk_280_22 (x0 : Nat) (x1 : Int) (x2 : Int) (h : am_H) : am_run am_ms 280 22 [am_R x0, am_I x1, am_I x2, am_K 1] [] h = some (some (am_I (-1)), h) :=
  (am_xs_run am_ms 280 [(.iconst (-1), 1, []), (.ireturn, 1, [0])] 22 _ _ h (by decide +kernel)).trans rfl
set_option maxHeartbeats 4000000 in
theorem bk_280_24 (x0 : Nat) (x1 : Int) (x2 : Int) (h : am_H) : am_run am_ms 280 24 [am_R x0, am_I x1, am_I x2, am_K 1] [] h = ((am_gfR h x0 8 4).bind fun f1 => ((am_isc h f1 1).bind fun _ => ((am_cI 275 [am_R f1] h).bind fun r2 => (bif decide (¬ r2.1 = 0) then am_run am_ms 280 40 [am_R x0, am_I x1, am_I x2, am_I r2.1] [] r2.2 else am_run am_ms 280 53 [am_R x0, am_I x1, am_I x2, am_I r2.1] [am_I 0] r2.2)))) :=
  (am_xs_run am_ms 280 [(.aload_n 0, 1, []), (.getfield 34, 3, [8, 4, 2041, 3]), (.invokevirtual 351, 3, [0, 275, 1, 1, 1, 5050, 5051, 5052]), (.istore_n 3, 1, []), (.iload_n 3, 1, []), (.ifCond .ne 7, 3, []), (.iconst 0, 1, []), (.goto 16, 3, [])] 24 _ _ h (by decide +kernel)).trans rfl
set_option maxHeartbeats 4000000 in
theorem bk_280_40 (x0 : Nat) (x1 : Int) (x2 : Int) (x3 : Int) (h : am_H) : am_run am_ms 280 40 [am_R x0, am_I x1, am_I x2, am_I x3] [] h = ((am_gfR h x0 8 4).bind fun f1 => ((am_gfR h f1 1 3).bind fun f2 => ((am_rd h f2 0 x1).bind fun v3 => (if x3 = 0 then none else am_run am_ms 280 53 [am_R x0, am_I x1, am_I x2, am_I x3] [am_I (am_div (am_w (x2 * v3)) x3)] h)))) :=
  (am_xs_run am_ms 280 [(.iload_n 2, 1, []), (.aload_n 0, 1, []), (.getfield 34, 3, [8, 4, 2041, 3]), (.getfield 150, 3, [1, 3, 1156, 3]), (.iload_n 1, 1, []), (.iaload, 1, []), (.imul, 1, []), (.iload_n 3, 1, []), (.idiv, 1, [])] 40 _ _ h (by decide +kernel)).trans rfl
set_option maxHeartbeats 4000000 in
theorem bk_280_53 (x0 : Nat) (x1 : Int) (x2 : Int) (x3 : Int) (y0 : Int) (h : am_H) : am_run am_ms 280 53 [am_R x0, am_I x1, am_I x2, am_I x3] [am_I y0] h = some (some (am_I y0), h) :=
  (am_xs_run am_ms 280 [(.ireturn, 1, [0])] 53 _ _ h (by decide +kernel)).trans rfl
set_option maxHeartbeats 4000000 in
theorem bk_283_0 (x0 : Nat) (h : am_H) : am_run am_ms 283 0 [am_R x0, am_K 1, am_K 1, am_K 1] [] h = am_run am_ms 283 6 [am_R x0, am_I (-1), am_I 0, am_I 0] [] h :=
  (am_xs_run am_ms 283 [(.iconst (-1), 1, []), (.istore_n 1, 1, []), (.iconst 0, 1, []), (.istore_n 2, 1, []), (.iconst 0, 1, []), (.istore_n 3, 1, [])] 0 _ _ h (by decide +kernel)).trans rfl
theorem en_283 (x0 : Nat) (h : am_H) : am_call am_ms 283 [am_R x0] h = am_run am_ms 283 0 [am_R x0, am_K 1, am_K 1, am_K 1] [] h := rfl
set_option maxHeartbeats 4000000 in
theorem bk_283_6 (x0 : Nat) (x1 : Int) (x2 : Int) (x3 : Int) (h : am_H) : am_run am_ms 283 6 [am_R x0, am_I x1, am_I x2, am_I x3] [] h = ((am_gfR h x0 1 0).bind fun f1 => ((am_rd h f1 0 0).bind fun v2 => (bif decide (v2 ≤ x3) then am_run am_ms 283 54 [am_R x0, am_I x1, am_I x2, am_I x3] [] h else ((am_gfR h x0 1 2).bind fun f3 => ((am_rd h f3 0 x3).bind fun v4 => (bif decide (¬ v4 = 3) then am_run am_ms 283 48 [am_R x0, am_I x1, am_I x2, am_I x3] [] h else am_run am_ms 283 28 [am_R x0, am_I x1, am_I x2, am_I x3] [am_I (-1), am_I x1] h)))))) :=
  (am_xs_run am_ms 283 [(.iload_n 3, 1, []), (.aload_n 0, 1, []), (.getfield 32, 3, [1, 0, 1148, 3]), (.iconst 0, 1, []), (.iaload, 1, []), (.if_icmp .ge 41, 3, []), (.aload_n 0, 1, []), (.getfield 70, 3, [1, 2, 1153, 3]), (.iload_n 3, 1, []), (.iaload, 1, []), (.iconst 3, 1, []), (.if_icmp .ne 25, 3, []), (.iload_n 1, 1, []), (.iconst (-1), 1, [])] 6 _ _ h (by decide +kernel)).trans rfl
set_option maxHeartbeats 4000000 in
theorem bk_283_28 (x0 : Nat) (x1 : Int) (x2 : Int) (x3 : Int) (y0 : Int) (y1 : Int) (h : am_H) : am_run am_ms 283 28 [am_R x0, am_I x1, am_I x2, am_I x3] [am_I y0, am_I y1] h = (bif decide (y1 = y0) then am_run am_ms 283 40 [am_R x0, am_I x1, am_I x2, am_I x3] [] h else ((am_isc h x0 1).bind fun _ => ((am_cI 80 [am_R x0, am_I x3] h).bind fun r1 => (bif decide (r1.1 ≤ x2) then am_run am_ms 283 48 [am_R x0, am_I x1, am_I x2, am_I x3] [] r1.2 else am_run am_ms 283 40 [am_R x0, am_I x1, am_I x2, am_I x3] [] r1.2)))) :=
  (am_xs_run am_ms 283 [(.if_icmp .eq 12, 3, []), (.aload_n 0, 1, []), (.iload_n 3, 1, []), (.invokevirtual 73, 3, [0, 80, 2, 1, 1, 5069, 3100, 3101]), (.iload_n 2, 1, []), (.if_icmp .le 11, 3, [])] 28 _ _ h (by decide +kernel)).trans rfl
set_option maxHeartbeats 4000000 in
theorem bk_283_40 (x0 : Nat) (x1 : Int) (x2 : Int) (x3 : Int) (h : am_H) : am_run am_ms 283 40 [am_R x0, am_I x1, am_I x2, am_I x3] [] h = ((am_isc h x0 1).bind fun _ => ((am_cI 80 [am_R x0, am_I x3] h).bind fun r1 => am_run am_ms 283 48 [am_R x0, am_I x3, am_I r1.1, am_I x3] [] r1.2)) :=
  (am_xs_run am_ms 283 [(.iload_n 3, 1, []), (.istore_n 1, 1, []), (.aload_n 0, 1, []), (.iload_n 3, 1, []), (.invokevirtual 73, 3, [0, 80, 2, 1, 1, 5069, 3100, 3101]), (.istore_n 2, 1, [])] 40 _ _ h (by decide +kernel)).trans rfl
set_option maxHeartbeats 4000000 in
theorem bk_283_48 (x0 : Nat) (x1 : Int) (x2 : Int) (x3 : Int) (h : am_H) : am_run am_ms 283 48 [am_R x0, am_I x1, am_I x2, am_I x3] [] h = am_run am_ms 283 6 [am_R x0, am_I x1, am_I x2, am_I (am_w (x3 + 1))] [] h :=
  (am_xs_run am_ms 283 [(.iinc 3 1, 3, []), (.goto (-45), 3, [])] 48 _ _ h (by decide +kernel)).trans rfl
set_option maxHeartbeats 4000000 in
theorem bk_283_54 (x0 : Nat) (x1 : Int) (x2 : Int) (x3 : Int) (h : am_H) : am_run am_ms 283 54 [am_R x0, am_I x1, am_I x2, am_I x3] [] h = some (some (am_I x1), h) :=
  (am_xs_run am_ms 283 [(.iload_n 1, 1, []), (.ireturn, 1, [0])] 54 _ _ h (by decide +kernel)).trans rfl
set_option maxHeartbeats 4000000 in
theorem bk_284_0 (x0 : Nat) (h : am_H) : am_run am_ms 284 0 [am_R x0, am_K 1, am_K 1] [] h = am_run am_ms 284 4 [am_R x0, am_I 0, am_I 1] [] h :=
  (am_xs_run am_ms 284 [(.iconst 0, 1, []), (.istore_n 1, 1, []), (.iconst 1, 1, []), (.istore_n 2, 1, [])] 0 _ _ h (by decide +kernel)).trans rfl
theorem en_284 (x0 : Nat) (h : am_H) : am_call am_ms 284 [am_R x0] h = am_run am_ms 284 0 [am_R x0, am_K 1, am_K 1] [] h := rfl
set_option maxHeartbeats 4000000 in
theorem bk_284_4 (x0 : Nat) (x1 : Int) (x2 : Int) (h : am_H) : am_run am_ms 284 4 [am_R x0, am_I x1, am_I x2] [] h = ((am_gfR h x0 1 0).bind fun f1 => ((am_rd h f1 0 0).bind fun v2 => (bif decide (v2 ≤ x2) then am_run am_ms 284 37 [am_R x0, am_I x1, am_I x2] [] h else ((am_gfR h x0 1 4).bind fun f3 => ((am_rd h f3 0 x2).bind fun v4 => ((am_gfR h x0 1 4).bind fun f5 => ((am_rd h f5 0 x1).bind fun v6 => am_run am_ms 284 26 [am_R x0, am_I x1, am_I x2] [am_I v6, am_I v4] h))))))) :=
  (am_xs_run am_ms 284 [(.iload_n 2, 1, []), (.aload_n 0, 1, []), (.getfield 32, 3, [1, 0, 1148, 3]), (.iconst 0, 1, []), (.iaload, 1, []), (.if_icmp .ge 26, 3, []), (.aload_n 0, 1, []), (.getfield 59, 3, [1, 4, 1158, 3]), (.iload_n 2, 1, []), (.iaload, 1, []), (.aload_n 0, 1, []), (.getfield 59, 3, [1, 4, 1158, 3]), (.iload_n 1, 1, []), (.iaload, 1, [])] 4 _ _ h (by decide +kernel)).trans rfl
set_option maxHeartbeats 4000000 in
theorem bk_284_26 (x0 : Nat) (x1 : Int) (x2 : Int) (y0 : Int) (y1 : Int) (h : am_H) : am_run am_ms 284 26 [am_R x0, am_I x1, am_I x2] [am_I y0, am_I y1] h = (bif decide (y1 ≤ y0) then am_run am_ms 284 31 [am_R x0, am_I x1, am_I x2] [] h else am_run am_ms 284 31 [am_R x0, am_I x2, am_I x2] [] h) :=
  (am_xs_run am_ms 284 [(.if_icmp .le 5, 3, []), (.iload_n 2, 1, []), (.istore_n 1, 1, [])] 26 _ _ h (by decide +kernel)).trans rfl
set_option maxHeartbeats 4000000 in
theorem bk_284_31 (x0 : Nat) (x1 : Int) (x2 : Int) (h : am_H) : am_run am_ms 284 31 [am_R x0, am_I x1, am_I x2] [] h = am_run am_ms 284 4 [am_R x0, am_I x1, am_I (am_w (x2 + 1))] [] h :=
  (am_xs_run am_ms 284 [(.iinc 2 1, 3, []), (.goto (-30), 3, [])] 31 _ _ h (by decide +kernel)).trans rfl
set_option maxHeartbeats 4000000 in
theorem bk_284_37 (x0 : Nat) (x1 : Int) (x2 : Int) (h : am_H) : am_run am_ms 284 37 [am_R x0, am_I x1, am_I x2] [] h = some (some (am_I x1), h) :=
  (am_xs_run am_ms 284 [(.iload_n 1, 1, []), (.ireturn, 1, [0])] 37 _ _ h (by decide +kernel)).trans rfl
set_option maxHeartbeats 4000000 in
theorem bk_285_0 (x0 : Nat) (h : am_H) : am_run am_ms 285 0 [am_R x0, am_K 1] [] h = ((am_cI 270 [am_R x0, am_I 0] h).bind fun r1 => (bif decide (¬ r1.1 = (-1)) then am_run am_ms 285 15 [am_R x0, am_I r1.1] [] r1.2 else am_run am_ms 285 19 [am_R x0, am_I r1.1] [am_I (-1)] r1.2)) :=
  (am_xs_run am_ms 285 [(.aload_n 0, 1, []), (.iconst 0, 1, []), (.invokestatic 76, 3, [1, 270, 2, 0, 1, 5076, 5040]), (.istore_n 1, 1, []), (.iload_n 1, 1, []), (.iconst (-1), 1, []), (.if_icmp .ne 7, 3, []), (.iconst (-1), 1, []), (.goto 7, 3, [])] 0 _ _ h (by decide +kernel)).trans rfl
theorem en_285 (x0 : Nat) (h : am_H) : am_call am_ms 285 [am_R x0] h = am_run am_ms 285 0 [am_R x0, am_K 1] [] h := rfl
set_option maxHeartbeats 4000000 in
theorem bk_285_15 (x0 : Nat) (x1 : Int) (h : am_H) : am_run am_ms 285 15 [am_R x0, am_I x1] [] h = (if 16 = 0 then none else am_run am_ms 285 19 [am_R x0, am_I x1] [am_I (am_div x1 16)] h) :=
  (am_xs_run am_ms 285 [(.iload_n 1, 1, []), (.bipush 16, 2, []), (.idiv, 1, [])] 15 _ _ h (by decide +kernel)).trans rfl
set_option maxHeartbeats 4000000 in
theorem bk_285_19 (x0 : Nat) (x1 : Int) (y0 : Int) (h : am_H) : am_run am_ms 285 19 [am_R x0, am_I x1] [am_I y0] h = some (some (am_I y0), h) :=
  (am_xs_run am_ms 285 [(.ireturn, 1, [0])] 19 _ _ h (by decide +kernel)).trans rfl
set_option maxHeartbeats 4000000 in
theorem bk_286_0 (x0 : Nat) (x1 : Int) (h : am_H) : am_run am_ms 286 0 [am_R x0, am_I x1, am_K 1, am_K 1] [] h = am_run am_ms 286 4 [am_R x0, am_I x1, am_I 0, am_I 0] [] h :=
  (am_xs_run am_ms 286 [(.iconst 0, 1, []), (.istore_n 2, 1, []), (.iconst 0, 1, []), (.istore_n 3, 1, [])] 0 _ _ h (by decide +kernel)).trans rfl
theorem en_286 (x0 : Nat) (x1 : Int) (h : am_H) : am_call am_ms 286 [am_R x0, am_I x1] h = am_run am_ms 286 0 [am_R x0, am_I x1, am_K 1, am_K 1] [] h := rfl
set_option maxHeartbeats 4000000 in
theorem bk_286_4 (x0 : Nat) (x1 : Int) (x2 : Int) (x3 : Int) (h : am_H) : am_run am_ms 286 4 [am_R x0, am_I x1, am_I x2, am_I x3] [] h = ((am_gfR h x0 1 0).bind fun f1 => ((am_rd h f1 0 0).bind fun v2 => (bif decide (v2 ≤ x3) then am_run am_ms 286 36 [am_R x0, am_I x1, am_I x2, am_I x3] [] h else ((am_gfR h x0 1 2).bind fun f3 => ((am_rd h f3 0 x3).bind fun v4 => (bif decide (¬ v4 = x1) then am_run am_ms 286 30 [am_R x0, am_I x1, am_I x2, am_I x3] [] h else am_run am_ms 286 26 [am_R x0, am_I x1, am_I x2, am_I x3] [am_I 1, am_I x2] h)))))) :=
  (am_xs_run am_ms 286 [(.iload_n 3, 1, []), (.aload_n 0, 1, []), (.getfield 32, 3, [1, 0, 1148, 3]), (.iconst 0, 1, []), (.iaload, 1, []), (.if_icmp .ge 25, 3, []), (.aload_n 0, 1, []), (.getfield 70, 3, [1, 2, 1153, 3]), (.iload_n 3, 1, []), (.iaload, 1, []), (.iload_n 1, 1, []), (.if_icmp .ne 9, 3, []), (.iload_n 2, 1, []), (.iconst 1, 1, [])] 4 _ _ h (by decide +kernel)).trans rfl
set_option maxHeartbeats 4000000 in
theorem bk_286_26 (x0 : Nat) (x1 : Int) (x2 : Int) (x3 : Int) (y0 : Int) (y1 : Int) (h : am_H) : am_run am_ms 286 26 [am_R x0, am_I x1, am_I x2, am_I x3] [am_I y0, am_I y1] h = am_run am_ms 286 30 [am_R x0, am_I x1, am_I (am_or y1 (am_shl y0 x3)), am_I x3] [] h :=
  (am_xs_run am_ms 286 [(.iload_n 3, 1, []), (.ishl, 1, []), (.ior, 1, []), (.istore_n 2, 1, [])] 26 _ _ h (by decide +kernel)).trans rfl
set_option maxHeartbeats 4000000 in
theorem bk_286_30 (x0 : Nat) (x1 : Int) (x2 : Int) (x3 : Int) (h : am_H) : am_run am_ms 286 30 [am_R x0, am_I x1, am_I x2, am_I x3] [] h = am_run am_ms 286 4 [am_R x0, am_I x1, am_I x2, am_I (am_w (x3 + 1))] [] h :=
  (am_xs_run am_ms 286 [(.iinc 3 1, 3, []), (.goto (-29), 3, [])] 30 _ _ h (by decide +kernel)).trans rfl
set_option maxHeartbeats 4000000 in
theorem bk_286_36 (x0 : Nat) (x1 : Int) (x2 : Int) (x3 : Int) (h : am_H) : am_run am_ms 286 36 [am_R x0, am_I x1, am_I x2, am_I x3] [] h = some (some (am_I x2), h) :=
  (am_xs_run am_ms 286 [(.iload_n 2, 1, []), (.ireturn, 1, [0])] 36 _ _ h (by decide +kernel)).trans rfl
set_option maxHeartbeats 4000000 in
theorem bk_287_0 (x0 : Nat) (h : am_H) : am_run am_ms 287 0 [am_R x0, am_K 1, am_K 1] [] h = am_run am_ms 287 4 [am_R x0, am_I 0, am_I 0] [] h :=
  (am_xs_run am_ms 287 [(.iconst 0, 1, []), (.istore_n 1, 1, []), (.iconst 0, 1, []), (.istore_n 2, 1, [])] 0 _ _ h (by decide +kernel)).trans rfl
theorem en_287 (x0 : Nat) (h : am_H) : am_call am_ms 287 [am_R x0] h = am_run am_ms 287 0 [am_R x0, am_K 1, am_K 1] [] h := rfl
set_option maxHeartbeats 4000000 in
theorem bk_287_4 (x0 : Nat) (x1 : Int) (x2 : Int) (h : am_H) : am_run am_ms 287 4 [am_R x0, am_I x1, am_I x2] [] h = ((am_gfR h x0 1 0).bind fun f1 => ((am_rd h f1 0 0).bind fun v2 => (bif decide (v2 ≤ x2) then am_run am_ms 287 28 [am_R x0, am_I x1, am_I x2] [] h else ((am_isc h x0 1).bind fun _ => ((am_cI 79 [am_R x0, am_I x2] h).bind fun r3 => am_run am_ms 287 4 [am_R x0, am_I (am_w (x1 + r3.1)), am_I (am_w (x2 + 1))] [] r3.2))))) :=
  (am_xs_run am_ms 287 [(.iload_n 2, 1, []), (.aload_n 0, 1, []), (.getfield 32, 3, [1, 0, 1148, 3]), (.iconst 0, 1, []), (.iaload, 1, []), (.if_icmp .ge 17, 3, []), (.iload_n 1, 1, []), (.aload_n 0, 1, []), (.iload_n 2, 1, []), (.invokevirtual 79, 3, [0, 79, 2, 1, 1, 5083, 3104, 3105]), (.iadd, 1, []), (.istore_n 1, 1, []), (.iinc 2 1, 3, []), (.goto (-21), 3, [])] 4 _ _ h (by decide +kernel)).trans rfl
set_option maxHeartbeats 4000000 in
theorem bk_287_28 (x0 : Nat) (x1 : Int) (x2 : Int) (h : am_H) : am_run am_ms 287 28 [am_R x0, am_I x1, am_I x2] [] h = some (some (am_I x1), h) :=
  (am_xs_run am_ms 287 [(.iload_n 1, 1, []), (.ireturn, 1, [0])] 28 _ _ h (by decide +kernel)).trans rfl
set_option maxHeartbeats 4000000 in
theorem bk_288_0 (x0 : Nat) (h : am_H) : am_run am_ms 288 0 [am_R x0] [] h = ((am_cI 287 [am_R x0] h).bind fun r1 => ((am_isc r1.2 x0 1).bind fun _ => ((am_cI 181 [am_R x0] r1.2).bind fun r2 => some (some (am_I (am_w (r1.1 - r2.1))), r2.2)))) :=
  (am_xs_run am_ms 288 [(.aload_n 0, 1, []), (.invokestatic 82, 3, [1, 287, 1, 0, 1, 5087, 5081]), (.aload_n 0, 1, []), (.invokevirtual 86, 3, [0, 181, 1, 1, 1, 5088, 4053, 4054]), (.isub, 1, []), (.ireturn, 1, [0])] 0 _ _ h (by decide +kernel)).trans rfl
theorem en_288 (x0 : Nat) (h : am_H) : am_call am_ms 288 [am_R x0] h = am_run am_ms 288 0 [am_R x0] [] h := rfl
set_option maxHeartbeats 4000000 in
theorem bk_289_0 (x0 : Nat) (h : am_H) : am_run am_ms 289 0 [am_R x0, am_K 1, am_K 1, am_K 1] [] h = am_run am_ms 289 6 [am_R x0, am_I (-1), am_I 0, am_I 0] [] h :=
  (am_xs_run am_ms 289 [(.iconst (-1), 1, []), (.istore_n 1, 1, []), (.iconst 0, 1, []), (.istore_n 2, 1, []), (.iconst 0, 1, []), (.istore_n 3, 1, [])] 0 _ _ h (by decide +kernel)).trans rfl
theorem en_289 (x0 : Nat) (h : am_H) : am_call am_ms 289 [am_R x0] h = am_run am_ms 289 0 [am_R x0, am_K 1, am_K 1, am_K 1] [] h := rfl
set_option maxHeartbeats 4000000 in
theorem bk_289_6 (x0 : Nat) (x1 : Int) (x2 : Int) (x3 : Int) (h : am_H) : am_run am_ms 289 6 [am_R x0, am_I x1, am_I x2, am_I x3] [] h = (bif decide (32 ≤ x3) then am_run am_ms 289 37 [am_R x0, am_I x1, am_I x2, am_I x3] [] h else ((am_gfR h x0 1 12).bind fun f1 => ((am_rd h f1 0 x3).bind fun v2 => (bif decide (v2 ≤ x2) then am_run am_ms 289 31 [am_R x0, am_I x1, am_I x2, am_I x3] [] h else ((am_gfR h x0 1 12).bind fun f3 => am_run am_ms 289 29 [am_R x0, am_I x3, am_I x2, am_I x3] [am_I x3, am_R f3] h))))) :=
  (am_xs_run am_ms 289 [(.iload_n 3, 1, []), (.bipush 32, 2, []), (.if_icmp .ge 28, 3, []), (.aload_n 0, 1, []), (.getfield 90, 3, [1, 12, 1177, 3]), (.iload_n 3, 1, []), (.iaload, 1, []), (.iload_n 2, 1, []), (.if_icmp .le 12, 3, []), (.iload_n 3, 1, []), (.istore_n 1, 1, []), (.aload_n 0, 1, []), (.getfield 90, 3, [1, 12, 1177, 3]), (.iload_n 3, 1, [])] 6 _ _ h (by decide +kernel)).trans rfl
set_option maxHeartbeats 4000000 in
theorem bk_289_29 (x0 : Nat) (x1 : Int) (x2 : Int) (x3 : Int) (y0 : Int) (y1 : Nat) (h : am_H) : am_run am_ms 289 29 [am_R x0, am_I x1, am_I x2, am_I x3] [am_I y0, am_R y1] h = ((am_rd h y1 0 y0).bind fun v1 => am_run am_ms 289 31 [am_R x0, am_I x1, am_I v1, am_I x3] [] h) :=
  (am_xs_run am_ms 289 [(.iaload, 1, []), (.istore_n 2, 1, [])] 29 _ _ h (by decide +kernel)).trans rfl
set_option maxHeartbeats 4000000 in
theorem bk_289_31 (x0 : Nat) (x1 : Int) (x2 : Int) (x3 : Int) (h : am_H) : am_run am_ms 289 31 [am_R x0, am_I x1, am_I x2, am_I x3] [] h = am_run am_ms 289 6 [am_R x0, am_I x1, am_I x2, am_I (am_w (x3 + 1))] [] h :=
  (am_xs_run am_ms 289 [(.iinc 3 1, 3, []), (.goto (-28), 3, [])] 31 _ _ h (by decide +kernel)).trans rfl
set_option maxHeartbeats 4000000 in
theorem bk_289_37 (x0 : Nat) (x1 : Int) (x2 : Int) (x3 : Int) (h : am_H) : am_run am_ms 289 37 [am_R x0, am_I x1, am_I x2, am_I x3] [] h = some (some (am_I x1), h) :=
  (am_xs_run am_ms 289 [(.iload_n 1, 1, []), (.ireturn, 1, [0])] 37 _ _ h (by decide +kernel)).trans rfl
set_option maxHeartbeats 4000000 in
theorem bk_290_0 (x0 : Nat) (x1 : Int) (h : am_H) : am_run am_ms 290 0 [am_R x0, am_I x1] [] h = ((am_isc h x0 8).bind fun _ => ((am_cI 137 [am_R x0] h).bind fun r1 => (bif decide (¬ r1.1 = 0) then am_run am_ms 290 10 [am_R x0, am_I x1] [] r1.2 else some (some (am_I (-1000000)), r1.2)))) :=
  (am_xs_run am_ms 290 [(.aload_n 0, 1, []), (.invokevirtual 136, 3, [0, 137, 1, 8, 1, 3202, 3204, 27]), (.ifCond .ne 6, 3, []), (.ldc 172, 2, [0, -1000000, 3211]), (.ireturn, 1, [0])] 0 _ _ h (by decide +kernel)).trans rfl
theorem en_290 (x0 : Nat) (x1 : Int) (h : am_H) : am_call am_ms 290 [am_R x0, am_I x1] h = am_run am_ms 290 0 [am_R x0, am_I x1] [] h := rfl
set_option maxHeartbeats 4000000 in
theorem bk_290_10 (x0 : Nat) (x1 : Int) (h : am_H) : am_run am_ms 290 10 [am_R x0, am_I x1] [] h = (bif decide (x1 < 11) then am_run am_ms 290 35 [am_R x0, am_I x1] [] h else (bif decide (15 < x1) then am_run am_ms 290 35 [am_R x0, am_I x1] [] h else ((am_gfR h x0 8 4).bind fun f1 => ((am_gfR h f1 1 1).bind fun f2 => ((am_rd h f2 0 (am_w (x1 - 11))).bind fun v3 => some (some (am_I v3), h)))))) :=
  (am_xs_run am_ms 290 [(.iload_n 1, 1, []), (.bipush 11, 2, []), (.if_icmp .lt 22, 3, []), (.iload_n 1, 1, []), (.bipush 15, 2, []), (.if_icmp .gt 16, 3, []), (.aload_n 0, 1, []), (.getfield 34, 3, [8, 4, 2041, 3]), (.getfield 245, 3, [1, 1, 1151, 3]), (.iload_n 1, 1, []), (.bipush 11, 2, []), (.isub, 1, []), (.iaload, 1, []), (.ireturn, 1, [0])] 10 _ _ h (by decide +kernel)).trans rfl
set_option maxHeartbeats 4000000 in
theorem bk_290_35 (x0 : Nat) (x1 : Int) (h : am_H) : am_run am_ms 290 35 [am_R x0, am_I x1] [] h = am_run am_ms 290 36 [am_R x0, am_I x1] [am_I x1] h :=
  (am_xs_run am_ms 290 [(.iload_n 1, 1, [])] 35 _ _ h (by decide +kernel)).trans rfl
theorem bk_290_36 (x0 : Nat) (x1 : Int) (y0 : Int) (h : am_H) : am_run am_ms 290 36 [am_R x0, am_I x1] [am_I y0] h = am_run am_ms 290 (am_tsw 36 193 0 16 #[84, 92, 100, 108, 117, 126, 144, 153, 161, 169, 177, 193, 193, 193, 193, 193, 185] y0) [am_R x0, am_I x1] [] h := by
  rw [am_run_eq, show am_code am_ms 290 36 = some (.tableswitch 193 0 16 #[84, 92, 100, 108, 117, 126, 144, 153, 161, 169, 177, 193, 193, 193, 193, 193, 185], 84, []) from by decide +kernel]
  rfl
set_option maxHeartbeats 4000000 in
theorem bk_290_120 (x0 : Nat) (x1 : Int) (h : am_H) : am_run am_ms 290 120 [am_R x0, am_I x1] [] h = ((am_gfR h x0 8 4).bind fun f1 => ((am_cI 283 [am_R f1] h).bind fun r2 => some (some (am_I r2.1), r2.2))) :=
  (am_xs_run am_ms 290 [(.aload_n 0, 1, []), (.getfield 34, 3, [8, 4, 2041, 3]), (.invokestatic 354, 3, [1, 283, 1, 0, 1, 5066, 5067]), (.ireturn, 1, [0])] 120 _ _ h (by decide +kernel)).trans rfl
set_option maxHeartbeats 4000000 in
theorem bk_290_128 (x0 : Nat) (x1 : Int) (h : am_H) : am_run am_ms 290 128 [am_R x0, am_I x1] [] h = ((am_gfR h x0 8 4).bind fun f1 => ((am_cI 284 [am_R f1] h).bind fun r2 => some (some (am_I r2.1), r2.2))) :=
  (am_xs_run am_ms 290 [(.aload_n 0, 1, []), (.getfield 34, 3, [8, 4, 2041, 3]), (.invokestatic 357, 3, [1, 284, 1, 0, 1, 5070, 5071]), (.ireturn, 1, [0])] 128 _ _ h (by decide +kernel)).trans rfl
set_option maxHeartbeats 4000000 in
theorem bk_290_136 (x0 : Nat) (x1 : Int) (h : am_H) : am_run am_ms 290 136 [am_R x0, am_I x1] [] h = ((am_gfR h x0 8 4).bind fun f1 => ((am_cI 285 [am_R f1] h).bind fun r2 => some (some (am_I r2.1), r2.2))) :=
  (am_xs_run am_ms 290 [(.aload_n 0, 1, []), (.getfield 34, 3, [8, 4, 2041, 3]), (.invokestatic 360, 3, [1, 285, 1, 0, 1, 5073, 5074]), (.ireturn, 1, [0])] 136 _ _ h (by decide +kernel)).trans rfl
set_option maxHeartbeats 4000000 in
theorem bk_290_144 (x0 : Nat) (x1 : Int) (h : am_H) : am_run am_ms 290 144 [am_R x0, am_I x1] [] h = ((am_gfR h x0 8 4).bind fun f1 => ((am_cI 286 [am_R f1, am_I 0] h).bind fun r2 => some (some (am_I r2.1), r2.2))) :=
  (am_xs_run am_ms 290 [(.aload_n 0, 1, []), (.getfield 34, 3, [8, 4, 2041, 3]), (.iconst 0, 1, []), (.invokestatic 363, 3, [1, 286, 2, 0, 1, 5077, 5078]), (.ireturn, 1, [0])] 144 _ _ h (by decide +kernel)).trans rfl
set_option maxHeartbeats 4000000 in
theorem bk_290_153 (x0 : Nat) (x1 : Int) (h : am_H) : am_run am_ms 290 153 [am_R x0, am_I x1] [] h = ((am_gfR h x0 8 4).bind fun f1 => ((am_cI 286 [am_R f1, am_I 1] h).bind fun r2 => some (some (am_I r2.1), r2.2))) :=
  (am_xs_run am_ms 290 [(.aload_n 0, 1, []), (.getfield 34, 3, [8, 4, 2041, 3]), (.iconst 1, 1, []), (.invokestatic 363, 3, [1, 286, 2, 0, 1, 5077, 5078]), (.ireturn, 1, [0])] 153 _ _ h (by decide +kernel)).trans rfl
set_option maxHeartbeats 4000000 in
theorem bk_290_162 (x0 : Nat) (x1 : Int) (h : am_H) : am_run am_ms 290 162 [am_R x0, am_I x1] [] h = ((am_gfR h x0 8 4).bind fun f1 => ((am_cI 286 [am_R f1, am_I 1] h).bind fun r2 => ((am_gfR r2.2 x0 8 4).bind fun f3 => ((am_cI 286 [am_R f3, am_I 2] r2.2).bind fun r4 => some (some (am_I (am_or r2.1 r4.1)), r4.2))))) :=
  (am_xs_run am_ms 290 [(.aload_n 0, 1, []), (.getfield 34, 3, [8, 4, 2041, 3]), (.iconst 1, 1, []), (.invokestatic 363, 3, [1, 286, 2, 0, 1, 5077, 5078]), (.aload_n 0, 1, []), (.getfield 34, 3, [8, 4, 2041, 3]), (.iconst 2, 1, []), (.invokestatic 363, 3, [1, 286, 2, 0, 1, 5077, 5078]), (.ior, 1, []), (.ireturn, 1, [0])] 162 _ _ h (by decide +kernel)).trans rfl
set_option maxHeartbeats 4000000 in
theorem bk_290_180 (x0 : Nat) (x1 : Int) (h : am_H) : am_run am_ms 290 180 [am_R x0, am_I x1] [] h = ((am_gfR h x0 8 4).bind fun f1 => ((am_cI 286 [am_R f1, am_I 3] h).bind fun r2 => some (some (am_I r2.1), r2.2))) :=
  (am_xs_run am_ms 290 [(.aload_n 0, 1, []), (.getfield 34, 3, [8, 4, 2041, 3]), (.iconst 3, 1, []), (.invokestatic 363, 3, [1, 286, 2, 0, 1, 5077, 5078]), (.ireturn, 1, [0])] 180 _ _ h (by decide +kernel)).trans rfl
set_option maxHeartbeats 4000000 in
theorem bk_290_189 (x0 : Nat) (x1 : Int) (h : am_H) : am_run am_ms 290 189 [am_R x0, am_I x1] [] h = ((am_gfR h x0 8 4).bind fun f1 => ((am_cI 287 [am_R f1] h).bind fun r2 => some (some (am_I r2.1), r2.2))) :=
  (am_xs_run am_ms 290 [(.aload_n 0, 1, []), (.getfield 34, 3, [8, 4, 2041, 3]), (.invokestatic 366, 3, [1, 287, 1, 0, 1, 5080, 5081]), (.ireturn, 1, [0])] 189 _ _ h (by decide +kernel)).trans rfl
set_option maxHeartbeats 4000000 in
theorem bk_290_197 (x0 : Nat) (x1 : Int) (h : am_H) : am_run am_ms 290 197 [am_R x0, am_I x1] [] h = ((am_gfR h x0 8 4).bind fun f1 => ((am_isc h f1 1).bind fun _ => ((am_cI 275 [am_R f1] h).bind fun r2 => some (some (am_I r2.1), r2.2)))) :=
  (am_xs_run am_ms 290 [(.aload_n 0, 1, []), (.getfield 34, 3, [8, 4, 2041, 3]), (.invokevirtual 351, 3, [0, 275, 1, 1, 1, 5050, 5051, 5052]), (.ireturn, 1, [0])] 197 _ _ h (by decide +kernel)).trans rfl
set_option maxHeartbeats 4000000 in
theorem bk_290_205 (x0 : Nat) (x1 : Int) (h : am_H) : am_run am_ms 290 205 [am_R x0, am_I x1] [] h = ((am_gfR h x0 8 4).bind fun f1 => ((am_cI 288 [am_R f1] h).bind fun r2 => some (some (am_I r2.1), r2.2))) :=
  (am_xs_run am_ms 290 [(.aload_n 0, 1, []), (.getfield 34, 3, [8, 4, 2041, 3]), (.invokestatic 369, 3, [1, 288, 1, 0, 1, 5084, 5085]), (.ireturn, 1, [0])] 205 _ _ h (by decide +kernel)).trans rfl
set_option maxHeartbeats 4000000 in
theorem bk_290_213 (x0 : Nat) (x1 : Int) (h : am_H) : am_run am_ms 290 213 [am_R x0, am_I x1] [] h = ((am_gfR h x0 8 4).bind fun f1 => ((am_isc h f1 1).bind fun _ => ((am_cI 181 [am_R f1] h).bind fun r2 => some (some (am_I r2.1), r2.2)))) :=
  (am_xs_run am_ms 290 [(.aload_n 0, 1, []), (.getfield 34, 3, [8, 4, 2041, 3]), (.invokevirtual 372, 3, [0, 181, 1, 1, 1, 5089, 4053, 4054]), (.ireturn, 1, [0])] 213 _ _ h (by decide +kernel)).trans rfl
set_option maxHeartbeats 4000000 in
theorem bk_290_221 (x0 : Nat) (x1 : Int) (h : am_H) : am_run am_ms 290 221 [am_R x0, am_I x1] [] h = ((am_gfR h x0 8 4).bind fun f1 => ((am_cI 289 [am_R f1] h).bind fun r2 => some (some (am_I r2.1), r2.2))) :=
  (am_xs_run am_ms 290 [(.aload_n 0, 1, []), (.getfield 34, 3, [8, 4, 2041, 3]), (.invokestatic 375, 3, [1, 289, 1, 0, 1, 5090, 5091]), (.ireturn, 1, [0])] 221 _ _ h (by decide +kernel)).trans rfl
set_option maxHeartbeats 4000000 in
theorem bk_290_229 (x0 : Nat) (x1 : Int) (h : am_H) : am_run am_ms 290 229 [am_R x0, am_I x1] [] h = some (some (am_I (-1000000)), h) :=
  (am_xs_run am_ms 290 [(.ldc 172, 2, [0, -1000000, 3211]), (.ireturn, 1, [0])] 229 _ _ h (by decide +kernel)).trans rfl
set_option maxHeartbeats 4000000 in
theorem bk_298_0 (x0 : Nat) (h : am_H) : am_run am_ms 298 0 [am_R x0] [] h = ((am_isc h x0 8).bind fun _ => ((am_cI 137 [am_R x0] h).bind fun r1 => (bif decide (¬ r1.1 = 0) then am_run am_ms 298 9 [am_R x0] [] r1.2 else some (some (am_I (-1)), r1.2)))) :=
  (am_xs_run am_ms 298 [(.aload_n 0, 1, []), (.invokevirtual 136, 3, [0, 137, 1, 8, 1, 3202, 3204, 27]), (.ifCond .ne 5, 3, []), (.iconst (-1), 1, []), (.ireturn, 1, [0])] 0 _ _ h (by decide +kernel)).trans rfl
theorem en_298 (x0 : Nat) (h : am_H) : am_call am_ms 298 [am_R x0] h = am_run am_ms 298 0 [am_R x0] [] h := rfl
set_option maxHeartbeats 4000000 in
theorem bk_298_9 (x0 : Nat) (h : am_H) : am_run am_ms 298 9 [am_R x0] [] h = ((am_gfR h x0 8 6).bind fun f1 => ((am_gfR h x0 8 4).bind fun f2 => ((am_isc h f1 1).bind fun _ => ((am_cV 77 [am_R f1, am_R f2] h).bind fun h3 => ((am_pf h3 x0 8 7 (am_I 1)).bind fun h4 => ((am_gfR h4 x0 8 4).bind fun f5 => ((am_gfR h4 f5 1 1).bind fun f6 => ((am_rd h4 f6 0 4).bind fun v7 => some (some (am_I v7), h4))))))))) :=
  (am_xs_run am_ms 298 [(.aload_n 0, 1, []), (.getfield 41, 3, [8, 6, 2043, 3]), (.aload_n 0, 1, []), (.getfield 34, 3, [8, 4, 2041, 3]), (.invokevirtual 272, 3, [0, 77, 2, 1, 0, 4151, 3083, 3084]), (.aload_n 0, 1, []), (.iconst 1, 1, []), (.putfield 100, 3, [8, 7, 2044, 1]), (.aload_n 0, 1, []), (.getfield 34, 3, [8, 4, 2041, 3]), (.getfield 245, 3, [1, 1, 1151, 3]), (.iconst 4, 1, []), (.iaload, 1, []), (.ireturn, 1, [0])] 9 _ _ h (by decide +kernel)).trans rfl
set_option maxHeartbeats 4000000 in
theorem bk_300_0 (x0 : Nat) (h : am_H) : am_run am_ms 300 0 [am_R x0] [] h = ((am_gfI h x0 8 7).bind fun f1 => (bif decide (¬ f1 = 0) then am_run am_ms 300 9 [am_R x0] [] h else some (some (am_I (-1)), h))) :=
  (am_xs_run am_ms 300 [(.aload_n 0, 1, []), (.getfield 100, 3, [8, 7, 2044, 1]), (.ifCond .ne 5, 3, []), (.iconst (-1), 1, []), (.ireturn, 1, [0])] 0 _ _ h (by decide +kernel)).trans rfl
theorem en_300 (x0 : Nat) (h : am_H) : am_call am_ms 300 [am_R x0] h = am_run am_ms 300 0 [am_R x0] [] h := rfl
set_option maxHeartbeats 4000000 in
theorem bk_300_9 (x0 : Nat) (h : am_H) : am_run am_ms 300 9 [am_R x0] [] h = ((am_gfR h x0 8 4).bind fun f1 => ((am_gfR h x0 8 6).bind fun f2 => ((am_isc h f1 1).bind fun _ => ((am_cV 77 [am_R f1, am_R f2] h).bind fun h3 => ((am_gfR h3 x0 8 9).bind fun f4 => ((am_isc h3 f4 2).bind fun _ => ((am_cV 61 [am_R f4] h3).bind fun h5 => ((am_gfR h5 x0 8 4).bind fun f6 => ((am_gfR h5 f6 1 1).bind fun f7 => ((am_rd h5 f7 0 4).bind fun v8 => some (some (am_I v8), h5))))))))))) :=
  (am_xs_run am_ms 300 [(.aload_n 0, 1, []), (.getfield 34, 3, [8, 4, 2041, 3]), (.aload_n 0, 1, []), (.getfield 41, 3, [8, 6, 2043, 3]), (.invokevirtual 272, 3, [0, 77, 2, 1, 0, 4151, 3083, 3084]), (.aload_n 0, 1, []), (.getfield 56, 3, [8, 9, 2046, 3]), (.invokevirtual 97, 3, [0, 61, 1, 2, 0, 3017, 3018, 3019]), (.aload_n 0, 1, []), (.getfield 34, 3, [8, 4, 2041, 3]), (.getfield 245, 3, [1, 1, 1151, 3]), (.iconst 4, 1, []), (.iaload, 1, []), (.ireturn, 1, [0])] 9 _ _ h (by decide +kernel)).trans rfl
set_option maxHeartbeats 4000000 in
theorem bk_302_0 (x0 : Nat) (x1 : Int) (h : am_H) : am_run am_ms 302 0 [am_R x0, am_I x1] [] h = am_run am_ms 302 1 [am_R x0, am_I x1] [am_I x1] h :=
  (am_xs_run am_ms 302 [(.iload_n 1, 1, [])] 0 _ _ h (by decide +kernel)).trans rfl
theorem en_302 (x0 : Nat) (x1 : Int) (h : am_H) : am_call am_ms 302 [am_R x0, am_I x1] h = am_run am_ms 302 0 [am_R x0, am_I x1] [] h := rfl
theorem bk_302_1 (x0 : Nat) (x1 : Int) (y0 : Int) (h : am_H) : am_run am_ms 302 1 [am_R x0, am_I x1] [am_I y0] h = am_run am_ms 302 (am_tsw 1 77 0 4 #[35, 45, 50, 58, 69] y0) [am_R x0, am_I x1] [] h := by
  rw [am_run_eq, show am_code am_ms 302 1 = some (.tableswitch 77 0 4 #[35, 45, 50, 58, 69], 35, []) from by decide +kernel]
  rfl
set_option maxHeartbeats 4000000 in
theorem bk_302_36 (x0 : Nat) (x1 : Int) (h : am_H) : am_run am_ms 302 36 [am_R x0, am_I x1] [] h = ((am_gfR h x0 8 4).bind fun f1 => ((am_gfR h f1 1 0).bind fun f2 => ((am_rd h f2 0 0).bind fun v3 => some (some (am_I v3), h)))) :=
  (am_xs_run am_ms 302 [(.aload_n 0, 1, []), (.getfield 34, 3, [8, 4, 2041, 3]), (.getfield 124, 3, [1, 0, 1149, 3]), (.iconst 0, 1, []), (.iaload, 1, []), (.ireturn, 1, [0])] 36 _ _ h (by decide +kernel)).trans rfl
set_option maxHeartbeats 4000000 in
theorem bk_302_46 (x0 : Nat) (x1 : Int) (h : am_H) : am_run am_ms 302 46 [am_R x0, am_I x1] [] h = ((am_gfI h x0 8 3).bind fun f1 => some (some (am_I f1), h)) :=
  (am_xs_run am_ms 302 [(.aload_n 0, 1, []), (.getfield 125, 3, [8, 3, 2040, 0]), (.ireturn, 1, [0])] 46 _ _ h (by decide +kernel)).trans rfl
set_option maxHeartbeats 4000000 in
theorem bk_302_51 (x0 : Nat) (x1 : Int) (h : am_H) : am_run am_ms 302 51 [am_R x0, am_I x1] [] h = ((am_gfR h x0 8 0).bind fun f1 => ((am_gfI h f1 6 1).bind fun f2 => some (some (am_I f2), h))) :=
  (am_xs_run am_ms 302 [(.aload_n 0, 1, []), (.getfield 10, 3, [8, 0, 2037, 3]), (.getfield 76, 3, [6, 1, 1040, 0]), (.ireturn, 1, [0])] 51 _ _ h (by decide +kernel)).trans rfl
set_option maxHeartbeats 4000000 in
theorem bk_302_59 (x0 : Nat) (x1 : Int) (h : am_H) : am_run am_ms 302 59 [am_R x0, am_I x1] [] h = ((am_gfR h x0 8 4).bind fun f1 => ((am_gfR h f1 1 13).bind fun f2 => ((am_gfI h f2 3 4).bind fun f3 => some (some (am_I f3), h)))) :=
  (am_xs_run am_ms 302 [(.aload_n 0, 1, []), (.getfield 34, 3, [8, 4, 2041, 3]), (.getfield 254, 3, [1, 13, 1179, 3]), (.getfield 378, 3, [3, 4, 1134, 0]), (.ireturn, 1, [0])] 59 _ _ h (by decide +kernel)).trans rfl
set_option maxHeartbeats 4000000 in
theorem bk_302_70 (x0 : Nat) (x1 : Int) (h : am_H) : am_run am_ms 302 70 [am_R x0, am_I x1] [] h = ((am_gfR h x0 8 9).bind fun f1 => ((am_gfI h f1 2 2).bind fun f2 => some (some (am_I f2), h))) :=
  (am_xs_run am_ms 302 [(.aload_n 0, 1, []), (.getfield 56, 3, [8, 9, 2046, 3]), (.getfield 248, 3, [2, 2, 2026, 0]), (.ireturn, 1, [0])] 70 _ _ h (by decide +kernel)).trans rfl
set_option maxHeartbeats 4000000 in
theorem bk_302_78 (x0 : Nat) (x1 : Int) (h : am_H) : am_run am_ms 302 78 [am_R x0, am_I x1] [] h = some (some (am_I (-1000000)), h) :=
  (am_xs_run am_ms 302 [(.ldc 172, 2, [0, -1000000, 3211]), (.ireturn, 1, [0])] 78 _ _ h (by decide +kernel)).trans rfl
set_option maxHeartbeats 4000000 in
theorem bk_305_0 (x0 : Nat) (x1 : Int) (x2 : Int) (h : am_H) : am_run am_ms 305 0 [am_R x0, am_I x1, am_I x2] [] h = ((am_gfR h x0 8 4).bind fun f1 => ((am_isc h f1 1).bind fun _ => ((am_cI 64 [am_R f1, am_I x1] h).bind fun r2 => (bif decide (r2.1 = 0) then am_run am_ms 305 21 [am_R x0, am_I x1, am_I x2] [] r2.2 else (bif decide (x2 < 0) then am_run am_ms 305 21 [am_R x0, am_I x1, am_I x2] [] r2.2 else (bif decide (x2 ≤ 7) then am_run am_ms 305 29 [am_R x0, am_I x1, am_I x2] [] r2.2 else am_run am_ms 305 21 [am_R x0, am_I x1, am_I x2] [] r2.2)))))) :=
  (am_xs_run am_ms 305 [(.aload_n 0, 1, []), (.getfield 34, 3, [8, 4, 2041, 3]), (.iload_n 1, 1, []), (.invokevirtual 140, 3, [0, 64, 2, 1, 1, 3210, 3043, 3044]), (.ifCond .eq 13, 3, []), (.iload_n 2, 1, []), (.ifCond .lt 9, 3, []), (.iload_n 2, 1, []), (.bipush 7, 2, []), (.if_icmp .le 11, 3, [])] 0 _ _ h (by decide +kernel)).trans rfl
theorem en_305 (x0 : Nat) (x1 : Int) (x2 : Int) (h : am_H) : am_call am_ms 305 [am_R x0, am_I x1, am_I x2] h = am_run am_ms 305 0 [am_R x0, am_I x1, am_I x2] [] h := rfl
set_option maxHeartbeats 4000000 in
theorem bk_305_29 (x0 : Nat) (x1 : Int) (x2 : Int) (h : am_H) : am_run am_ms 305 29 [am_R x0, am_I x1, am_I x2] [] h = am_run am_ms 305 30 [am_R x0, am_I x1, am_I x2] [am_I x2] h :=
  (am_xs_run am_ms 305 [(.iload_n 2, 1, [])] 29 _ _ h (by decide +kernel)).trans rfl
theorem bk_305_30 (x0 : Nat) (x1 : Int) (x2 : Int) (y0 : Int) (h : am_H) : am_run am_ms 305 30 [am_R x0, am_I x1, am_I x2] [am_I y0] h = am_run am_ms 305 (am_tsw 30 108 0 6 #[42, 52, 62, 71, 80, 90, 99] y0) [am_R x0, am_I x1, am_I x2] [] h := by
  rw [am_run_eq, show am_code am_ms 305 30 = some (.tableswitch 108 0 6 #[42, 52, 62, 71, 80, 90, 99], 42, []) from by decide +kernel]
  rfl
set_option maxHeartbeats 4000000 in
theorem bk_305_72 (x0 : Nat) (x1 : Int) (x2 : Int) (h : am_H) : am_run am_ms 305 72 [am_R x0, am_I x1, am_I x2] [] h = ((am_gfR h x0 8 4).bind fun f1 => ((am_gfR h f1 1 2).bind fun f2 => ((am_rd h f2 0 x1).bind fun v3 => some (some (am_I v3), h)))) :=
  (am_xs_run am_ms 305 [(.aload_n 0, 1, []), (.getfield 34, 3, [8, 4, 2041, 3]), (.getfield 147, 3, [1, 2, 1154, 3]), (.iload_n 1, 1, []), (.iaload, 1, []), (.ireturn, 1, [0])] 72 _ _ h (by decide +kernel)).trans rfl
set_option maxHeartbeats 4000000 in
theorem bk_305_82 (x0 : Nat) (x1 : Int) (x2 : Int) (h : am_H) : am_run am_ms 305 82 [am_R x0, am_I x1, am_I x2] [] h = ((am_gfR h x0 8 4).bind fun f1 => ((am_gfR h f1 1 3).bind fun f2 => ((am_rd h f2 0 x1).bind fun v3 => some (some (am_I v3), h)))) :=
  (am_xs_run am_ms 305 [(.aload_n 0, 1, []), (.getfield 34, 3, [8, 4, 2041, 3]), (.getfield 150, 3, [1, 3, 1156, 3]), (.iload_n 1, 1, []), (.iaload, 1, []), (.ireturn, 1, [0])] 82 _ _ h (by decide +kernel)).trans rfl
set_option maxHeartbeats 4000000 in
theorem bk_305_92 (x0 : Nat) (x1 : Int) (x2 : Int) (h : am_H) : am_run am_ms 305 92 [am_R x0, am_I x1, am_I x2] [] h = ((am_gfR h x0 8 4).bind fun f1 => ((am_isc h f1 1).bind fun _ => ((am_cI 79 [am_R f1, am_I x1] h).bind fun r2 => some (some (am_I r2.1), r2.2)))) :=
  (am_xs_run am_ms 305 [(.aload_n 0, 1, []), (.getfield 34, 3, [8, 4, 2041, 3]), (.iload_n 1, 1, []), (.invokevirtual 153, 3, [0, 79, 2, 1, 1, 4170, 3104, 3105]), (.ireturn, 1, [0])] 92 _ _ h (by decide +kernel)).trans rfl
set_option maxHeartbeats 4000000 in
theorem bk_305_101 (x0 : Nat) (x1 : Int) (x2 : Int) (h : am_H) : am_run am_ms 305 101 [am_R x0, am_I x1, am_I x2] [] h = ((am_gfR h x0 8 4).bind fun f1 => ((am_isc h f1 1).bind fun _ => ((am_cI 80 [am_R f1, am_I x1] h).bind fun r2 => some (some (am_I r2.1), r2.2)))) :=
  (am_xs_run am_ms 305 [(.aload_n 0, 1, []), (.getfield 34, 3, [8, 4, 2041, 3]), (.iload_n 1, 1, []), (.invokevirtual 156, 3, [0, 80, 2, 1, 1, 5174, 3100, 3101]), (.ireturn, 1, [0])] 101 _ _ h (by decide +kernel)).trans rfl
set_option maxHeartbeats 4000000 in
theorem bk_305_110 (x0 : Nat) (x1 : Int) (x2 : Int) (h : am_H) : am_run am_ms 305 110 [am_R x0, am_I x1, am_I x2] [] h = ((am_gfR h x0 8 4).bind fun f1 => ((am_gfR h f1 1 4).bind fun f2 => ((am_rd h f2 0 x1).bind fun v3 => some (some (am_I v3), h)))) :=
  (am_xs_run am_ms 305 [(.aload_n 0, 1, []), (.getfield 34, 3, [8, 4, 2041, 3]), (.getfield 159, 3, [1, 4, 1159, 3]), (.iload_n 1, 1, []), (.iaload, 1, []), (.ireturn, 1, [0])] 110 _ _ h (by decide +kernel)).trans rfl
set_option maxHeartbeats 4000000 in
theorem bk_305_120 (x0 : Nat) (x1 : Int) (x2 : Int) (h : am_H) : am_run am_ms 305 120 [am_R x0, am_I x1, am_I x2] [] h = ((am_gfR h x0 8 4).bind fun f1 => ((am_isc h f1 1).bind fun _ => ((am_cI 82 [am_R f1, am_I x1] h).bind fun r2 => some (some (am_I r2.1), r2.2)))) :=
  (am_xs_run am_ms 305 [(.aload_n 0, 1, []), (.getfield 34, 3, [8, 4, 2041, 3]), (.iload_n 1, 1, []), (.invokevirtual 162, 3, [0, 82, 2, 1, 1, 5175, 3117, 3118]), (.ireturn, 1, [0])] 120 _ _ h (by decide +kernel)).trans rfl
set_option maxHeartbeats 4000000 in
theorem bk_305_129 (x0 : Nat) (x1 : Int) (x2 : Int) (h : am_H) : am_run am_ms 305 129 [am_R x0, am_I x1, am_I x2] [] h = ((am_gfR h x0 8 4).bind fun f1 => ((am_isc h f1 1).bind fun _ => ((am_cI 88 [am_R f1, am_I x1] h).bind fun r2 => some (some (am_I r2.1), r2.2)))) :=
  (am_xs_run am_ms 305 [(.aload_n 0, 1, []), (.getfield 34, 3, [8, 4, 2041, 3]), (.iload_n 1, 1, []), (.invokevirtual 165, 3, [0, 88, 2, 1, 1, 5176, 3150, 3151]), (.ireturn, 1, [0])] 129 _ _ h (by decide +kernel)).trans rfl
set_option maxHeartbeats 4000000 in
theorem bk_305_138 (x0 : Nat) (x1 : Int) (x2 : Int) (h : am_H) : am_run am_ms 305 138 [am_R x0, am_I x1, am_I x2] [] h = ((am_gfR h x0 8 4).bind fun f1 => ((am_gfR h x0 8 4).bind fun f2 => ((am_gfR h f2 1 0).bind fun f3 => ((am_rd h f3 0 6).bind fun v4 => ((am_isc h f1 1).bind fun _ => ((am_cI 83 [am_R f1, am_I x1, am_I v4] h).bind fun r5 => some (some (am_I r5.1), r5.2))))))) :=
  (am_xs_run am_ms 305 [(.aload_n 0, 1, []), (.getfield 34, 3, [8, 4, 2041, 3]), (.iload_n 1, 1, []), (.aload_n 0, 1, []), (.getfield 34, 3, [8, 4, 2041, 3]), (.getfield 124, 3, [1, 0, 1149, 3]), (.bipush 6, 2, []), (.iaload, 1, []), (.invokevirtual 168, 3, [0, 83, 3, 1, 1, 4201, 3112, 3113]), (.ireturn, 1, [0])] 138 _ _ h (by decide +kernel)).trans rfl
