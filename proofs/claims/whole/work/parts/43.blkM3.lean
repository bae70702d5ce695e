/-! ===== BLOCK LAWS: printed by a program of ours ===== -/
set_option maxHeartbeats 4000000 in
theorem bk_241_0 (x0 : Nat) (x1 : Int) (h : am_H) : am_run am_ms 241 0 [am_R x0, am_I x1] [] h = ((am_pf h x0 9 0 (am_I 0)).bind fun h1 => ((am_isc h1 x0 9).bind fun _ => ((am_cI 146 [am_R x0, am_I x1] h1).bind fun r2 => (bif decide (¬ r2.1 = 0) then am_run am_ms 241 15 [am_R x0, am_I x1] [] r2.2 else some (some (am_I (-1)), r2.2))))) :=
  (am_xs_run am_ms 241 [(.aload_n 0, 1, []), (.iconst 0, 1, []), (.putfield 53, 3, [9, 0, 5183, 0]), (.aload_n 0, 1, []), (.iload_n 1, 1, []), (.invokevirtual 286, 3, [0, 146, 2, 9, 1, 7038, 7040, 78]), (.ifCond .ne 5, 3, []), (.iconst (-1), 1, []), (.ireturn, 1, [0])] 0 _ _ h (by decide +kernel)).trans rfl
theorem en_241 (x0 : Nat) (x1 : Int) (h : am_H) : am_call am_ms 241 [am_R x0, am_I x1] h = am_run am_ms 241 0 [am_R x0, am_I x1] [] h := rfl
set_option maxHeartbeats 4000000 in
theorem bk_241_15 (x0 : Nat) (x1 : Int) (h : am_H) : am_run am_ms 241 15 [am_R x0, am_I x1] [] h = ((am_gfR h x0 9 15).bind fun f1 => ((am_gfR h x0 9 16).bind fun f2 => ((am_cV 108 [am_R f1, am_I 0, am_R f2, am_I 0] h).bind fun h3 => ((am_gfR h3 x0 9 16).bind fun f4 => ((am_isc h3 x0 9).bind fun _ => ((am_cI 135 [am_R x0, am_R f4, am_I x1, am_I 0] h3).bind fun r5 => (bif decide (r5.1 = 0) then am_run am_ms 241 59 [am_R x0, am_I x1] [] r5.2 else am_run am_ms 241 41 [am_R x0, am_I x1] [] r5.2))))))) :=
  (am_xs_run am_ms 241 [(.aload_n 0, 1, []), (.getfield 32, 3, [9, 15, 5198, 3]), (.iconst 0, 1, []), (.aload_n 0, 1, []), (.getfield 35, 3, [9, 16, 5199, 3]), (.iconst 0, 1, []), (.invokestatic 259, 3, [1, 108, 4, 0, 0, 6155, 6156]), (.aload_n 0, 1, []), (.aload_n 0, 1, []), (.getfield 35, 3, [9, 16, 5199, 3]), (.iload_n 1, 1, []), (.iconst 0, 1, []), (.invokevirtual 161, 3, [0, 135, 4, 9, 1, 6151, 6153, 49]), (.ifCond .eq 21, 3, [])] 15 _ _ h (by decide +kernel)).trans rfl
set_option maxHeartbeats 4000000 in
theorem bk_241_41 (x0 : Nat) (x1 : Int) (h : am_H) : am_run am_ms 241 41 [am_R x0, am_I x1] [] h = ((am_gfR h x0 9 16).bind fun f1 => ((am_cI 223 [am_R f1] h).bind fun r2 => ((am_gfR r2.2 x0 9 15).bind fun f3 => ((am_cI 223 [am_R f3] r2.2).bind fun r4 => am_run am_ms 241 60 [am_R x0, am_I x1] [am_I (am_w (r2.1 - r4.1))] r4.2)))) :=
  (am_xs_run am_ms 241 [(.aload_n 0, 1, []), (.getfield 35, 3, [9, 16, 5199, 3]), (.invokestatic 361, 3, [1, 223, 1, 0, 1, 7197, 7198]), (.aload_n 0, 1, []), (.getfield 32, 3, [9, 15, 5198, 3]), (.invokestatic 361, 3, [1, 223, 1, 0, 1, 7197, 7198]), (.isub, 1, []), (.goto 4, 3, [])] 41 _ _ h (by decide +kernel)).trans rfl
set_option maxHeartbeats 4000000 in
theorem bk_241_59 (x0 : Nat) (x1 : Int) (h : am_H) : am_run am_ms 241 59 [am_R x0, am_I x1] [] h = am_run am_ms 241 60 [am_R x0, am_I x1] [am_I (-1)] h :=
  (am_xs_run am_ms 241 [(.iconst (-1), 1, [])] 59 _ _ h (by decide +kernel)).trans rfl
set_option maxHeartbeats 4000000 in
theorem bk_241_60 (x0 : Nat) (x1 : Int) (y0 : Int) (h : am_H) : am_run am_ms 241 60 [am_R x0, am_I x1] [am_I y0] h = some (some (am_I y0), h) :=
  (am_xs_run am_ms 241 [(.ireturn, 1, [0])] 60 _ _ h (by decide +kernel)).trans rfl
set_option maxHeartbeats 4000000 in
theorem bk_248_0 (x0 : Nat) (x1 : Int) (x2 : Int) (h : am_H) : am_run am_ms 248 0 [am_R x0, am_I x1, am_L x2, am_K 1, am_K 1, am_K 1, am_K 1, am_K 1] [] h = ((am_pf h x0 9 29 (am_L x2)).bind fun h1 => am_run am_ms 248 11 [am_R x0, am_I x1, am_L x2, am_K 1, am_I 0, am_I 1, am_K 1, am_K 1] [] h1) :=
  (am_xs_run am_ms 248 [(.aload_n 0, 1, []), (.lload_n 2, 1, []), (.putfield 332, 3, [9, 29, 5212, 2]), (.iconst 0, 1, []), (.istore 4, 2, []), (.iconst 1, 1, []), (.istore 5, 2, [])] 0 _ _ h (by decide +kernel)).trans rfl
theorem en_248 (x0 : Nat) (x1 : Int) (x2 : Int) (h : am_H) : am_call am_ms 248 [am_R x0, am_I x1, am_L x2] h = am_run am_ms 248 0 [am_R x0, am_I x1, am_L x2, am_K 1, am_K 1, am_K 1, am_K 1, am_K 1] [] h := rfl
set_option maxHeartbeats 4000000 in
theorem bk_248_11 (x0 : Nat) (x1 : Int) (x2 : Int) (x4 : Int) (x5 : Int) (x6 : am_V) (x7 : am_V) (h : am_H) : am_run am_ms 248 11 [am_R x0, am_I x1, am_L x2, am_K 1, am_I x4, am_I x5, x6, x7] [] h = (bif decide (x5 = 0) then am_run am_ms 248 70 [am_R x0, am_I x1, am_L x2, am_K 1, am_I x4, am_I x5, x6, x7] [] h else (bif decide (x1 ≤ x4) then am_run am_ms 248 70 [am_R x0, am_I x1, am_L x2, am_K 1, am_I x4, am_I x5, x6, x7] [] h else ((am_isc h x0 9).bind fun _ => ((am_cI 204 [am_R x0, am_I 32] h).bind fun r1 => ((am_isc r1.2 x0 9).bind fun _ => ((am_cI 204 [am_R x0, am_I (am_w (r1.1 + 1))] r1.2).bind fun r2 => am_run am_ms 248 38 [am_R x0, am_I x1, am_L x2, am_K 1, am_I x4, am_I x5, am_I r1.1, x7] [am_I r2.1] r2.2)))))) :=
  (am_xs_run am_ms 248 [(.iload 5, 2, []), (.ifCond .eq 57, 3, []), (.iload 4, 2, []), (.iload_n 1, 1, []), (.if_icmp .ge 51, 3, []), (.aload_n 0, 1, []), (.bipush 32, 2, []), (.invokevirtual 340, 3, [0, 204, 2, 9, 1, 7122, 7124, 89]), (.istore 6, 2, []), (.aload_n 0, 1, []), (.iload 6, 2, []), (.iconst 1, 1, []), (.iadd, 1, []), (.invokevirtual 340, 3, [0, 204, 2, 9, 1, 7122, 7124, 89])] 11 _ _ h (by decide +kernel)).trans rfl
set_option maxHeartbeats 4000000 in
theorem bk_248_38 (x0 : Nat) (x1 : Int) (x2 : Int) (x4 : Int) (x5 : Int) (x6 : Int) (x7 : am_V) (y0 : Int) (h : am_H) : am_run am_ms 248 38 [am_R x0, am_I x1, am_L x2, am_K 1, am_I x4, am_I x5, am_I x6, x7] [am_I y0] h = ((am_gfR h x0 9 16).bind fun f1 => ((am_isc h x0 9).bind fun _ => ((am_cI 204 [am_R x0, am_I 1000] h).bind fun r2 => ((am_isc r2.2 x0 9).bind fun _ => ((am_cI 135 [am_R x0, am_R f1, am_I y0, am_I r2.1] r2.2).bind fun r3 => (bif decide (r3.1 = 0) then am_run am_ms 248 67 [am_R x0, am_I x1, am_L x2, am_K 1, am_I x4, am_I r3.1, am_I x6, am_I y0] [] r3.2 else am_run am_ms 248 67 [am_R x0, am_I x1, am_L x2, am_K 1, am_I (am_w (x4 + 1)), am_I r3.1, am_I x6, am_I y0] [] r3.2)))))) :=
  (am_xs_run am_ms 248 [(.istore 7, 2, []), (.aload_n 0, 1, []), (.aload_n 0, 1, []), (.getfield 35, 3, [9, 16, 5199, 3]), (.iload 7, 2, []), (.aload_n 0, 1, []), (.sipush 1000, 3, []), (.invokevirtual 340, 3, [0, 204, 2, 9, 1, 7122, 7124, 89]), (.invokevirtual 161, 3, [0, 135, 4, 9, 1, 6151, 6153, 49]), (.istore 5, 2, []), (.iload 5, 2, []), (.ifCond .eq 6, 3, []), (.iinc 4 1, 3, [])] 38 _ _ h (by decide +kernel)).trans rfl
set_option maxHeartbeats 4000000 in
theorem bk_248_67 (x0 : Nat) (x1 : Int) (x2 : Int) (x4 : Int) (x5 : Int) (x6 : Int) (x7 : Int) (h : am_H) : am_run am_ms 248 67 [am_R x0, am_I x1, am_L x2, am_K 1, am_I x4, am_I x5, am_I x6, am_I x7] [] h = am_run am_ms 248 11 [am_R x0, am_I x1, am_L x2, am_K 1, am_I x4, am_I x5, am_I x6, am_I x7] [] h :=
  (am_xs_run am_ms 248 [(.goto (-56), 3, [])] 67 _ _ h (by decide +kernel)).trans rfl
set_option maxHeartbeats 4000000 in
theorem bk_248_70 (x0 : Nat) (x1 : Int) (x2 : Int) (x4 : Int) (x5 : Int) (x6 : am_V) (x7 : am_V) (h : am_H) : am_run am_ms 248 70 [am_R x0, am_I x1, am_L x2, am_K 1, am_I x4, am_I x5, x6, x7] [] h = some (some (am_I x4), h) :=
  (am_xs_run am_ms 248 [(.iload 4, 2, []), (.ireturn, 1, [0])] 70 _ _ h (by decide +kernel)).trans rfl
set_option maxHeartbeats 4000000 in
theorem bk_249_0 (x0 : Nat) (x1 : Int) (x2 : Int) (h : am_H) : am_run am_ms 249 0 [am_R x0, am_I x1, am_I x2] [] h = (bif decide (¬ x1 = 0) then am_run am_ms 249 8 [am_R x0, am_I x1, am_I x2] [] h else am_run am_ms 249 23 [am_R x0, am_I x1, am_I x2] [am_I 0] h) :=
  (am_xs_run am_ms 249 [(.iload_n 1, 1, []), (.ifCond .ne 7, 3, []), (.iconst 0, 1, []), (.goto 18, 3, [])] 0 _ _ h (by decide +kernel)).trans rfl
theorem en_249 (x0 : Nat) (x1 : Int) (x2 : Int) (h : am_H) : am_call am_ms 249 [am_R x0, am_I x1, am_I x2] h = am_run am_ms 249 0 [am_R x0, am_I x1, am_I x2] [] h := rfl
set_option maxHeartbeats 4000000 in
theorem bk_249_8 (x0 : Nat) (x1 : Int) (x2 : Int) (h : am_H) : am_run am_ms 249 8 [am_R x0, am_I x1, am_I x2] [] h = ((am_gfR h x0 9 16).bind fun f1 => ((am_cI 223 [am_R f1] h).bind fun r2 => (if x1 = 0 then none else am_run am_ms 249 23 [am_R x0, am_I x1, am_I x2] [am_I (am_div (am_w (1000 * (am_w (r2.1 - x2)))) x1)] r2.2))) :=
  (am_xs_run am_ms 249 [(.sipush 1000, 3, []), (.aload_n 0, 1, []), (.getfield 35, 3, [9, 16, 5199, 3]), (.invokestatic 361, 3, [1, 223, 1, 0, 1, 7197, 7198]), (.iload_n 2, 1, []), (.isub, 1, []), (.imul, 1, []), (.iload_n 1, 1, []), (.idiv, 1, [])] 8 _ _ h (by decide +kernel)).trans rfl
set_option maxHeartbeats 4000000 in
theorem bk_249_23 (x0 : Nat) (x1 : Int) (x2 : Int) (y0 : Int) (h : am_H) : am_run am_ms 249 23 [am_R x0, am_I x1, am_I x2] [am_I y0] h = some (some (am_I y0), h) :=
  (am_xs_run am_ms 249 [(.ireturn, 1, [0])] 23 _ _ h (by decide +kernel)).trans rfl
set_option maxHeartbeats 4000000 in
theorem bk_250_0 (x0 : Nat) (x1 : Nat) (h : am_H) : am_run am_ms 250 0 [am_R x0, am_R x1, am_K 1, am_K 1, am_K 1] [] h = ((am_rd h x1 0 16).bind fun v1 => ((am_rd h x1 0 16).bind fun v2 => am_run am_ms 250 13 [am_R x0, am_R x1, am_I v1, am_I v2, am_I 1] [] h)) :=
  (am_xs_run am_ms 250 [(.aload_n 1, 1, []), (.bipush 16, 2, []), (.iaload, 1, []), (.istore_n 2, 1, []), (.aload_n 1, 1, []), (.bipush 16, 2, []), (.iaload, 1, []), (.istore_n 3, 1, []), (.iconst 1, 1, []), (.istore 4, 2, [])] 0 _ _ h (by decide +kernel)).trans rfl
theorem en_250 (x0 : Nat) (x1 : Nat) (h : am_H) : am_call am_ms 250 [am_R x0, am_R x1] h = am_run am_ms 250 0 [am_R x0, am_R x1, am_K 1, am_K 1, am_K 1] [] h := rfl
set_option maxHeartbeats 4000000 in
theorem bk_250_13 (x0 : Nat) (x1 : Nat) (x2 : Int) (x3 : Int) (x4 : Int) (h : am_H) : am_run am_ms 250 13 [am_R x0, am_R x1, am_I x2, am_I x3, am_I x4] [] h = ((am_gfR h x0 9 6).bind fun f1 => ((am_rd h f1 0 0).bind fun v2 => (bif decide (v2 ≤ x4) then am_run am_ms 250 76 [am_R x0, am_R x1, am_I x2, am_I x3, am_I x4] [] h else ((am_rd h x1 0 (am_w (16 + x4))).bind fun v3 => (bif decide (v3 ≤ x2) then am_run am_ms 250 45 [am_R x0, am_R x1, am_I x2, am_I x3, am_I x4] [] h else am_run am_ms 250 36 [am_R x0, am_R x1, am_I x2, am_I x3, am_I x4] [am_R x1] h))))) :=
  (am_xs_run am_ms 250 [(.iload 4, 2, []), (.aload_n 0, 1, []), (.getfield 17, 3, [9, 6, 5189, 3]), (.iconst 0, 1, []), (.iaload, 1, []), (.if_icmp .ge 55, 3, []), (.aload_n 1, 1, []), (.bipush 16, 2, []), (.iload 4, 2, []), (.iadd, 1, []), (.iaload, 1, []), (.iload_n 2, 1, []), (.if_icmp .le 13, 3, []), (.aload_n 1, 1, [])] 13 _ _ h (by decide +kernel)).trans rfl
set_option maxHeartbeats 4000000 in
theorem bk_250_36 (x0 : Nat) (x1 : Nat) (x2 : Int) (x3 : Int) (x4 : Int) (y0 : Nat) (h : am_H) : am_run am_ms 250 36 [am_R x0, am_R x1, am_I x2, am_I x3, am_I x4] [am_R y0] h = ((am_rd h y0 0 (am_w (16 + x4))).bind fun v1 => am_run am_ms 250 46 [am_R x0, am_R x1, am_I x2, am_I x3, am_I x4] [am_I v1] h) :=
  (am_xs_run am_ms 250 [(.bipush 16, 2, []), (.iload 4, 2, []), (.iadd, 1, []), (.iaload, 1, []), (.goto 4, 3, [])] 36 _ _ h (by decide +kernel)).trans rfl
set_option maxHeartbeats 4000000 in
theorem bk_250_45 (x0 : Nat) (x1 : Nat) (x2 : Int) (x3 : Int) (x4 : Int) (h : am_H) : am_run am_ms 250 45 [am_R x0, am_R x1, am_I x2, am_I x3, am_I x4] [] h = am_run am_ms 250 46 [am_R x0, am_R x1, am_I x2, am_I x3, am_I x4] [am_I x2] h :=
  (am_xs_run am_ms 250 [(.iload_n 2, 1, [])] 45 _ _ h (by decide +kernel)).trans rfl
set_option maxHeartbeats 4000000 in
theorem bk_250_46 (x0 : Nat) (x1 : Nat) (x2 : Int) (x3 : Int) (x4 : Int) (y0 : Int) (h : am_H) : am_run am_ms 250 46 [am_R x0, am_R x1, am_I x2, am_I x3, am_I x4] [am_I y0] h = ((am_rd h x1 0 (am_w (16 + x4))).bind fun v1 => (bif decide (x3 ≤ v1) then am_run am_ms 250 68 [am_R x0, am_R x1, am_I y0, am_I x3, am_I x4] [] h else ((am_rd h x1 0 (am_w (16 + x4))).bind fun v2 => am_run am_ms 250 69 [am_R x0, am_R x1, am_I y0, am_I x3, am_I x4] [am_I v2] h))) :=
  (am_xs_run am_ms 250 [(.istore_n 2, 1, []), (.aload_n 1, 1, []), (.bipush 16, 2, []), (.iload 4, 2, []), (.iadd, 1, []), (.iaload, 1, []), (.iload_n 3, 1, []), (.if_icmp .ge 13, 3, []), (.aload_n 1, 1, []), (.bipush 16, 2, []), (.iload 4, 2, []), (.iadd, 1, []), (.iaload, 1, []), (.goto 4, 3, [])] 46 _ _ h (by decide +kernel)).trans rfl
set_option maxHeartbeats 4000000 in
theorem bk_250_68 (x0 : Nat) (x1 : Nat) (x2 : Int) (x3 : Int) (x4 : Int) (h : am_H) : am_run am_ms 250 68 [am_R x0, am_R x1, am_I x2, am_I x3, am_I x4] [] h = am_run am_ms 250 69 [am_R x0, am_R x1, am_I x2, am_I x3, am_I x4] [am_I x3] h :=
  (am_xs_run am_ms 250 [(.iload_n 3, 1, [])] 68 _ _ h (by decide +kernel)).trans rfl
set_option maxHeartbeats 4000000 in
theorem bk_250_69 (x0 : Nat) (x1 : Nat) (x2 : Int) (x3 : Int) (x4 : Int) (y0 : Int) (h : am_H) : am_run am_ms 250 69 [am_R x0, am_R x1, am_I x2, am_I x3, am_I x4] [am_I y0] h = am_run am_ms 250 13 [am_R x0, am_R x1, am_I x2, am_I y0, am_I (am_w (x4 + 1))] [] h :=
  (am_xs_run am_ms 250 [(.istore_n 3, 1, []), (.iinc 4 1, 3, []), (.goto (-60), 3, [])] 69 _ _ h (by decide +kernel)).trans rfl
set_option maxHeartbeats 4000000 in
theorem bk_250_76 (x0 : Nat) (x1 : Nat) (x2 : Int) (x3 : Int) (x4 : Int) (h : am_H) : am_run am_ms 250 76 [am_R x0, am_R x1, am_I x2, am_I x3, am_I x4] [] h = some (some (am_I (am_w (x2 - x3))), h) :=
  (am_xs_run am_ms 250 [(.iload_n 2, 1, []), (.iload_n 3, 1, []), (.isub, 1, []), (.ireturn, 1, [0])] 76 _ _ h (by decide +kernel)).trans rfl
set_option maxHeartbeats 4000000 in
theorem bk_251_0 (x0 : Nat) (x1 : Int) (x2 : Int) (x3 : Int) (h : am_H) : am_run am_ms 251 0 [am_R x0, am_I x1, am_I x2, am_I x3] [] h = (bif decide (¬ x3 = 0) then am_run am_ms 251 8 [am_R x0, am_I x1, am_I x2, am_I x3] [] h else am_run am_ms 251 30 [am_R x0, am_I x1, am_I x2, am_I x3] [am_I x1] h) :=
  (am_xs_run am_ms 251 [(.iload_n 3, 1, []), (.ifCond .ne 7, 3, []), (.iload_n 1, 1, []), (.goto 25, 3, [])] 0 _ _ h (by decide +kernel)).trans rfl
theorem en_251 (x0 : Nat) (x1 : Int) (x2 : Int) (x3 : Int) (h : am_H) : am_call am_ms 251 [am_R x0, am_I x1, am_I x2, am_I x3] h = am_run am_ms 251 0 [am_R x0, am_I x1, am_I x2, am_I x3] [] h := rfl
set_option maxHeartbeats 4000000 in
theorem bk_251_8 (x0 : Nat) (x1 : Int) (x2 : Int) (x3 : Int) (h : am_H) : am_run am_ms 251 8 [am_R x0, am_I x1, am_I x2, am_I x3] [] h = (bif decide (¬ x3 = 1) then am_run am_ms 251 22 [am_R x0, am_I x1, am_I x2, am_I x3] [] h else ((am_isc h x0 9).bind fun _ => ((am_cI 249 [am_R x0, am_I x1, am_I x2] h).bind fun r1 => am_run am_ms 251 30 [am_R x0, am_I x1, am_I x2, am_I x3] [am_I r1.1] r1.2))) :=
  (am_xs_run am_ms 251 [(.iload_n 3, 1, []), (.iconst 1, 1, []), (.if_icmp .ne 12, 3, []), (.aload_n 0, 1, []), (.iload_n 1, 1, []), (.iload_n 2, 1, []), (.invokevirtual 370, 3, [0, 249, 3, 9, 1, 8001, 8003, 95]), (.goto 11, 3, [])] 8 _ _ h (by decide +kernel)).trans rfl
set_option maxHeartbeats 4000000 in
theorem bk_251_22 (x0 : Nat) (x1 : Int) (x2 : Int) (x3 : Int) (h : am_H) : am_run am_ms 251 22 [am_R x0, am_I x1, am_I x2, am_I x3] [] h = ((am_gfR h x0 9 16).bind fun f1 => ((am_isc h x0 9).bind fun _ => ((am_cI 250 [am_R x0, am_R f1] h).bind fun r2 => am_run am_ms 251 30 [am_R x0, am_I x1, am_I x2, am_I x3] [am_I r2.1] r2.2))) :=
  (am_xs_run am_ms 251 [(.aload_n 0, 1, []), (.aload_n 0, 1, []), (.getfield 35, 3, [9, 16, 5199, 3]), (.invokevirtual 373, 3, [0, 250, 2, 9, 1, 8005, 8007, 96])] 22 _ _ h (by decide +kernel)).trans rfl
set_option maxHeartbeats 4000000 in
theorem bk_251_30 (x0 : Nat) (x1 : Int) (x2 : Int) (x3 : Int) (y0 : Int) (h : am_H) : am_run am_ms 251 30 [am_R x0, am_I x1, am_I x2, am_I x3] [am_I y0] h = some (some (am_I y0), h) :=
  (am_xs_run am_ms 251 [(.ireturn, 1, [0])] 30 _ _ h (by decide +kernel)).trans rfl
set_option maxHeartbeats 4000000 in
theorem bk_252_0 (x0 : Nat) (x1 : Int) (x2 : Int) (x3 : Int) (x5 : Int) (h : am_H) : am_run am_ms 252 0 [am_R x0, am_I x1, am_I x2, am_L x3, am_K 1, am_I x5] [] h = ((am_pf h x0 9 0 (am_I 0)).bind fun h1 => ((am_gfI h1 x0 9 14).bind fun f2 => (bif decide (f2 = 0) then am_run am_ms 252 49 [am_R x0, am_I x1, am_I x2, am_L x3, am_K 1, am_I x5] [] h1 else ((am_cI 40 [am_L x1, am_L 0, am_L 3] h1).bind fun r3 => (bif decide (r3.1 = 0) then am_run am_ms 252 49 [am_R x0, am_I x1, am_I x2, am_L x3, am_K 1, am_I x5] [] r3.2 else am_run am_ms 252 26 [am_R x0, am_I x1, am_I x2, am_L x3, am_K 1, am_I x5] [am_L x2] r3.2))))) :=
  (am_xs_run am_ms 252 [(.aload_n 0, 1, []), (.iconst 0, 1, []), (.putfield 53, 3, [9, 0, 5183, 0]), (.aload_n 0, 1, []), (.getfield 155, 3, [9, 14, 5197, 1]), (.ifCond .eq 40, 3, []), (.iload_n 1, 1, []), (.i2l, 1, []), (.lconst 0, 1, []), (.ldc2_w 298, 3, [0, 3, 7056]), (.invokestatic 96, 3, [1, 40, 3, 0, 1, 6060, 6061]), (.ifCond .eq 28, 3, []), (.iload_n 2, 1, []), (.i2l, 1, [])] 0 _ _ h (by decide +kernel)).trans rfl
theorem en_252 (x0 : Nat) (x1 : Int) (x2 : Int) (x3 : Int) (x5 : Int) (h : am_H) : am_call am_ms 252 [am_R x0, am_I x1, am_I x2, am_L x3, am_I x5] h = am_run am_ms 252 0 [am_R x0, am_I x1, am_I x2, am_L x3, am_K 1, am_I x5] [] h := rfl
set_option maxHeartbeats 4000000 in
theorem bk_252_26 (x0 : Nat) (x1 : Int) (x2 : Int) (x3 : Int) (x5 : Int) (y0 : Int) (h : am_H) : am_run am_ms 252 26 [am_R x0, am_I x1, am_I x2, am_L x3, am_K 1, am_I x5] [am_L y0] h = ((am_cI 40 [am_L y0, am_L 1, am_L 200] h).bind fun r1 => (bif decide (r1.1 = 0) then am_run am_ms 252 49 [am_R x0, am_I x1, am_I x2, am_L x3, am_K 1, am_I x5] [] r1.2 else ((am_cI 40 [am_L x5, am_L 0, am_L 2] r1.2).bind fun r2 => (bif decide (¬ r2.1 = 0) then am_run am_ms 252 51 [am_R x0, am_I x1, am_I x2, am_L x3, am_K 1, am_I x5] [] r2.2 else am_run am_ms 252 49 [am_R x0, am_I x1, am_I x2, am_L x3, am_K 1, am_I x5] [] r2.2)))) :=
  (am_xs_run am_ms 252 [(.lconst 1, 1, []), (.ldc2_w 376, 3, [0, 200, 7232]), (.invokestatic 96, 3, [1, 40, 3, 0, 1, 6060, 6061]), (.ifCond .eq 16, 3, []), (.iload 5, 2, []), (.i2l, 1, []), (.lconst 0, 1, []), (.ldc2_w 348, 3, [0, 2, 7148]), (.invokestatic 96, 3, [1, 40, 3, 0, 1, 6060, 6061]), (.ifCond .ne 5, 3, [])] 26 _ _ h (by decide +kernel)).trans rfl
set_option maxHeartbeats 4000000 in
theorem bk_252_49 (x0 : Nat) (x1 : Int) (x2 : Int) (x3 : Int) (x5 : Int) (h : am_H) : am_run am_ms 252 49 [am_R x0, am_I x1, am_I x2, am_L x3, am_K 1, am_I x5] [] h = some (some (am_I (-1)), h) :=
  (am_xs_run am_ms 252 [(.iconst (-1), 1, []), (.ireturn, 1, [0])] 49 _ _ h (by decide +kernel)).trans rfl
set_option maxHeartbeats 4000000 in
theorem bk_252_51 (x0 : Nat) (x1 : Int) (x2 : Int) (x3 : Int) (x5 : Int) (h : am_H) : am_run am_ms 252 51 [am_R x0, am_I x1, am_I x2, am_L x3, am_K 1, am_I x5] [] h = ((am_gfR h x0 9 15).bind fun f1 => ((am_gfR h x0 9 16).bind fun f2 => ((am_cV 108 [am_R f1, am_I 0, am_R f2, am_I 0] h).bind fun h3 => ((am_gfR h3 x0 9 16).bind fun f4 => ((am_wr h3 f4 0 420 x1).bind fun h5 => am_run am_ms 252 75 [am_R x0, am_I x1, am_I x2, am_L x3, am_K 1, am_I x5] [am_R x0, am_R x0] h5))))) :=
  (am_xs_run am_ms 252 [(.aload_n 0, 1, []), (.getfield 32, 3, [9, 15, 5198, 3]), (.iconst 0, 1, []), (.aload_n 0, 1, []), (.getfield 35, 3, [9, 16, 5199, 3]), (.iconst 0, 1, []), (.invokestatic 259, 3, [1, 108, 4, 0, 0, 6155, 6156]), (.aload_n 0, 1, []), (.getfield 35, 3, [9, 16, 5199, 3]), (.sipush 420, 3, []), (.iload_n 1, 1, []), (.iastore, 1, []), (.aload_n 0, 1, []), (.aload_n 0, 1, [])] 51 _ _ h (by decide +kernel)).trans rfl
set_option maxHeartbeats 4000000 in
theorem bk_252_75 (x0 : Nat) (x1 : Int) (x2 : Int) (x3 : Int) (x5 : Int) (y0 : Nat) (y1 : Nat) (h : am_H) : am_run am_ms 252 75 [am_R x0, am_I x1, am_I x2, am_L x3, am_K 1, am_I x5] [am_R y0, am_R y1] h = ((am_isc h y0 9).bind fun _ => ((am_cI 248 [am_R y0, am_I x2, am_L x3] h).bind fun r1 => ((am_gfR r1.2 x0 9 15).bind fun f2 => ((am_cI 223 [am_R f2] r1.2).bind fun r3 => ((am_isc r3.2 y1 9).bind fun _ => ((am_cI 251 [am_R y1, am_I r1.1, am_I r3.1, am_I x5] r3.2).bind fun r4 => some (some (am_I r4.1), r4.2))))))) :=
  (am_xs_run am_ms 252 [(.iload_n 2, 1, []), (.lload_n 3, 1, []), (.invokevirtual 378, 3, [0, 248, 3, 9, 1, 7233, 7235, 93]), (.aload_n 0, 1, []), (.getfield 32, 3, [9, 15, 5198, 3]), (.invokestatic 361, 3, [1, 223, 1, 0, 1, 7197, 7198]), (.iload 5, 2, []), (.invokevirtual 382, 3, [0, 251, 4, 9, 1, 7237, 7239, 94]), (.ireturn, 1, [0])] 75 _ _ h (by decide +kernel)).trans rfl
set_option maxHeartbeats 4000000 in
theorem bk_256_0 (x0 : Nat) (x1 : Int) (x2 : Int) (h : am_H) : am_run am_ms 256 0 [am_R x0, am_I x1, am_L x2, am_K 1, am_K 1, am_K 1, am_K 1, am_K 1, am_K 1, am_K 1] [] h = ((am_pf h x0 9 0 (am_I 0)).bind fun h1 => ((am_gfI h1 x0 9 14).bind fun f2 => (bif decide (f2 = 0) then am_run am_ms 256 24 [am_R x0, am_I x1, am_L x2, am_K 1, am_K 1, am_K 1, am_K 1, am_K 1, am_K 1, am_K 1] [] h1 else ((am_cI 40 [am_L x1, am_L 1, am_L 200] h1).bind fun r3 => (bif decide (¬ r3.1 = 0) then am_run am_ms 256 26 [am_R x0, am_I x1, am_L x2, am_K 1, am_K 1, am_K 1, am_K 1, am_K 1, am_K 1, am_K 1] [] r3.2 else am_run am_ms 256 24 [am_R x0, am_I x1, am_L x2, am_K 1, am_K 1, am_K 1, am_K 1, am_K 1, am_K 1, am_K 1] [] r3.2))))) :=
  (am_xs_run am_ms 256 [(.aload_n 0, 1, []), (.iconst 0, 1, []), (.putfield 53, 3, [9, 0, 5183, 0]), (.aload_n 0, 1, []), (.getfield 155, 3, [9, 14, 5197, 1]), (.ifCond .eq 15, 3, []), (.iload_n 1, 1, []), (.i2l, 1, []), (.lconst 1, 1, []), (.ldc2_w 376, 3, [0, 200, 7232]), (.invokestatic 96, 3, [1, 40, 3, 0, 1, 6060, 6061]), (.ifCond .ne 5, 3, [])] 0 _ _ h (by decide +kernel)).trans rfl
theorem en_256 (x0 : Nat) (x1 : Int) (x2 : Int) (h : am_H) : am_call am_ms 256 [am_R x0, am_I x1, am_L x2] h = am_run am_ms 256 0 [am_R x0, am_I x1, am_L x2, am_K 1, am_K 1, am_K 1, am_K 1, am_K 1, am_K 1, am_K 1] [] h := rfl
set_option maxHeartbeats 4000000 in
theorem bk_256_24 (x0 : Nat) (x1 : Int) (x2 : Int) (h : am_H) : am_run am_ms 256 24 [am_R x0, am_I x1, am_L x2, am_K 1, am_K 1, am_K 1, am_K 1, am_K 1, am_K 1, am_K 1] [] h = some (some (am_I (-1)), h) :=
  (am_xs_run am_ms 256 [(.iconst (-1), 1, []), (.ireturn, 1, [0])] 24 _ _ h (by decide +kernel)).trans rfl
set_option maxHeartbeats 4000000 in
theorem bk_256_26 (x0 : Nat) (x1 : Int) (x2 : Int) (h : am_H) : am_run am_ms 256 26 [am_R x0, am_I x1, am_L x2, am_K 1, am_K 1, am_K 1, am_K 1, am_K 1, am_K 1, am_K 1] [] h = am_run am_ms 256 38 [am_R x0, am_I x1, am_L x2, am_K 1, am_I (-1), am_I 0, am_I 0, am_I 0, am_K 1, am_K 1] [] h :=
  (am_xs_run am_ms 256 [(.iconst (-1), 1, []), (.istore 4, 2, []), (.iconst 0, 1, []), (.istore 5, 2, []), (.iconst 0, 1, []), (.istore 6, 2, []), (.iconst 0, 1, []), (.istore 7, 2, [])] 26 _ _ h (by decide +kernel)).trans rfl
set_option maxHeartbeats 4000000 in
theorem bk_256_38 (x0 : Nat) (x1 : Int) (x2 : Int) (x4 : Int) (x5 : Int) (x6 : Int) (x7 : Int) (x8 : am_V) (x9 : am_V) (h : am_H) : am_run am_ms 256 38 [am_R x0, am_I x1, am_L x2, am_K 1, am_I x4, am_I x5, am_I x6, am_I x7, x8, x9] [] h = (bif decide (3 < x7) then am_run am_ms 256 138 [am_R x0, am_I x1, am_L x2, am_K 1, am_I x4, am_I x5, am_I x6, am_I x7, x8, x9] [] h else ((am_gfR h x0 9 15).bind fun f1 => ((am_gfR h x0 9 16).bind fun f2 => ((am_cV 108 [am_R f1, am_I 0, am_R f2, am_I 0] h).bind fun h3 => ((am_gfR h3 x0 9 16).bind fun f4 => am_run am_ms 256 66 [am_R x0, am_I x1, am_L x2, am_K 1, am_I x4, am_I x5, am_I x6, am_I x7, x8, x9] [am_I x7, am_I 420, am_R f4] h3))))) :=
  (am_xs_run am_ms 256 [(.iload 7, 2, []), (.iconst 3, 1, []), (.if_icmp .gt 97, 3, []), (.aload_n 0, 1, []), (.getfield 32, 3, [9, 15, 5198, 3]), (.iconst 0, 1, []), (.aload_n 0, 1, []), (.getfield 35, 3, [9, 16, 5199, 3]), (.iconst 0, 1, []), (.invokestatic 259, 3, [1, 108, 4, 0, 0, 6155, 6156]), (.aload_n 0, 1, []), (.getfield 35, 3, [9, 16, 5199, 3]), (.sipush 420, 3, []), (.iload 7, 2, [])] 38 _ _ h (by decide +kernel)).trans rfl
set_option maxHeartbeats 4000000 in
theorem bk_256_66 (x0 : Nat) (x1 : Int) (x2 : Int) (x4 : Int) (x5 : Int) (x6 : Int) (x7 : Int) (x8 : am_V) (x9 : am_V) (y0 : Int) (y1 : Int) (y2 : Nat) (h : am_H) : am_run am_ms 256 66 [am_R x0, am_I x1, am_L x2, am_K 1, am_I x4, am_I x5, am_I x6, am_I x7, x8, x9] [am_I y0, am_I y1, am_R y2] h = ((am_wr h y2 0 y1 y0).bind fun h1 => ((am_isc h1 x0 9).bind fun _ => ((am_cI 248 [am_R x0, am_I x1, am_L x2] h1).bind fun r2 => ((am_gfR r2.2 x0 9 15).bind fun f3 => ((am_cI 223 [am_R f3] r2.2).bind fun r4 => ((am_isc r4.2 x0 9).bind fun _ => ((am_cI 249 [am_R x0, am_I r2.1, am_I r4.1] r4.2).bind fun r5 => am_run am_ms 256 92 [am_R x0, am_I x1, am_L x2, am_K 1, am_I x4, am_I x5, am_I x6, am_I x7, am_I r2.1, am_I r5.1] [am_I x4] r5.2))))))) :=
  (am_xs_run am_ms 256 [(.iastore, 1, []), (.aload_n 0, 1, []), (.iload_n 1, 1, []), (.lload_n 2, 1, []), (.invokevirtual 378, 3, [0, 248, 3, 9, 1, 7233, 7235, 93]), (.istore 8, 2, []), (.aload_n 0, 1, []), (.iload 8, 2, []), (.aload_n 0, 1, []), (.getfield 32, 3, [9, 15, 5198, 3]), (.invokestatic 361, 3, [1, 223, 1, 0, 1, 7197, 7198]), (.invokevirtual 370, 3, [0, 249, 3, 9, 1, 8001, 8003, 95]), (.istore 9, 2, []), (.iload 4, 2, [])] 66 _ _ h (by decide +kernel)).trans rfl
set_option maxHeartbeats 4000000 in
theorem bk_256_92 (x0 : Nat) (x1 : Int) (x2 : Int) (x4 : Int) (x5 : Int) (x6 : Int) (x7 : Int) (x8 : Int) (x9 : Int) (y0 : Int) (h : am_H) : am_run am_ms 256 92 [am_R x0, am_I x1, am_L x2, am_K 1, am_I x4, am_I x5, am_I x6, am_I x7, am_I x8, am_I x9] [am_I y0] h = (bif decide (y0 = (-1)) then am_run am_ms 256 120 [am_R x0, am_I x1, am_L x2, am_K 1, am_I x4, am_I x5, am_I x6, am_I x7, am_I x8, am_I x9] [] h else (bif decide (x8 < x5) then am_run am_ms 256 132 [am_R x0, am_I x1, am_L x2, am_K 1, am_I x4, am_I x5, am_I x6, am_I x7, am_I x8, am_I x9] [] h else (bif decide (¬ x8 = x5) then am_run am_ms 256 120 [am_R x0, am_I x1, am_L x2, am_K 1, am_I x4, am_I x5, am_I x6, am_I x7, am_I x8, am_I x9] [] h else (bif decide (x9 < x6) then am_run am_ms 256 120 [am_R x0, am_I x1, am_L x2, am_K 1, am_I x4, am_I x5, am_I x6, am_I x7, am_I x8, am_I x9] [] h else am_run am_ms 256 132 [am_R x0, am_I x1, am_L x2, am_K 1, am_I x4, am_I x5, am_I x6, am_I x7, am_I x8, am_I x9] [] h)))) :=
  (am_xs_run am_ms 256 [(.iconst (-1), 1, []), (.if_icmp .eq 27, 3, []), (.iload 8, 2, []), (.iload 5, 2, []), (.if_icmp .lt 32, 3, []), (.iload 8, 2, []), (.iload 5, 2, []), (.if_icmp .ne 13, 3, []), (.iload 9, 2, []), (.iload 6, 2, []), (.if_icmp .lt 6, 3, []), (.goto 15, 3, [])] 92 _ _ h (by decide +kernel)).trans rfl
set_option maxHeartbeats 4000000 in
theorem bk_256_120 (x0 : Nat) (x1 : Int) (x2 : Int) (x4 : Int) (x5 : Int) (x6 : Int) (x7 : Int) (x8 : Int) (x9 : Int) (h : am_H) : am_run am_ms 256 120 [am_R x0, am_I x1, am_L x2, am_K 1, am_I x4, am_I x5, am_I x6, am_I x7, am_I x8, am_I x9] [] h = am_run am_ms 256 132 [am_R x0, am_I x1, am_L x2, am_K 1, am_I x7, am_I x8, am_I x9, am_I x7, am_I x8, am_I x9] [] h :=
  (am_xs_run am_ms 256 [(.iload 7, 2, []), (.istore 4, 2, []), (.iload 8, 2, []), (.istore 5, 2, []), (.iload 9, 2, []), (.istore 6, 2, [])] 120 _ _ h (by decide +kernel)).trans rfl
set_option maxHeartbeats 4000000 in
theorem bk_256_132 (x0 : Nat) (x1 : Int) (x2 : Int) (x4 : Int) (x5 : Int) (x6 : Int) (x7 : Int) (x8 : Int) (x9 : Int) (h : am_H) : am_run am_ms 256 132 [am_R x0, am_I x1, am_L x2, am_K 1, am_I x4, am_I x5, am_I x6, am_I x7, am_I x8, am_I x9] [] h = am_run am_ms 256 38 [am_R x0, am_I x1, am_L x2, am_K 1, am_I x4, am_I x5, am_I x6, am_I (am_w (x7 + 1)), am_I x8, am_I x9] [] h :=
  (am_xs_run am_ms 256 [(.iinc 7 1, 3, []), (.goto (-97), 3, [])] 132 _ _ h (by decide +kernel)).trans rfl
set_option maxHeartbeats 4000000 in
theorem bk_256_138 (x0 : Nat) (x1 : Int) (x2 : Int) (x4 : Int) (x5 : Int) (x6 : Int) (x7 : Int) (x8 : am_V) (x9 : am_V) (h : am_H) : am_run am_ms 256 138 [am_R x0, am_I x1, am_L x2, am_K 1, am_I x4, am_I x5, am_I x6, am_I x7, x8, x9] [] h = some (some (am_I x4), h) :=
  (am_xs_run am_ms 256 [(.iload 4, 2, []), (.ireturn, 1, [0])] 138 _ _ h (by decide +kernel)).trans rfl
set_option maxHeartbeats 4000000 in
theorem bk_258_0 (x0 : Nat) (x1 : Int) (x2 : Int) (x3 : Int) (x4 : Int) (x6 : Int) (h : am_H) : am_run am_ms 258 0 [am_R x0, am_I x1, am_I x2, am_I x3, am_L x4, am_K 1, am_I x6, am_K 1] [] h = ((am_pf h x0 9 0 (am_I 0)).bind fun h1 => ((am_gfI h1 x0 9 14).bind fun f2 => (bif decide (f2 = 0) then am_run am_ms 258 85 [am_R x0, am_I x1, am_I x2, am_I x3, am_L x4, am_K 1, am_I x6, am_K 1] [] h1 else ((am_cI 40 [am_L x1, am_L 1, am_L 8] h1).bind fun r3 => (bif decide (r3.1 = 0) then am_run am_ms 258 85 [am_R x0, am_I x1, am_I x2, am_I x3, am_L x4, am_K 1, am_I x6, am_K 1] [] r3.2 else am_run am_ms 258 26 [am_R x0, am_I x1, am_I x2, am_I x3, am_L x4, am_K 1, am_I x6, am_K 1] [am_L x2] r3.2))))) :=
  (am_xs_run am_ms 258 [(.aload_n 0, 1, []), (.iconst 0, 1, []), (.putfield 53, 3, [9, 0, 5183, 0]), (.aload_n 0, 1, []), (.getfield 155, 3, [9, 14, 5197, 1]), (.ifCond .eq 76, 3, []), (.iload_n 1, 1, []), (.i2l, 1, []), (.lconst 1, 1, []), (.ldc2_w 385, 3, [0, 8, 8017]), (.invokestatic 96, 3, [1, 40, 3, 0, 1, 6060, 6061]), (.ifCond .eq 64, 3, []), (.iload_n 2, 1, []), (.i2l, 1, [])] 0 _ _ h (by decide +kernel)).trans rfl
theorem en_258 (x0 : Nat) (x1 : Int) (x2 : Int) (x3 : Int) (x4 : Int) (x6 : Int) (h : am_H) : am_call am_ms 258 [am_R x0, am_I x1, am_I x2, am_I x3, am_L x4, am_I x6] h = am_run am_ms 258 0 [am_R x0, am_I x1, am_I x2, am_I x3, am_L x4, am_K 1, am_I x6, am_K 1] [] h := rfl
set_option maxHeartbeats 4000000 in
theorem bk_258_26 (x0 : Nat) (x1 : Int) (x2 : Int) (x3 : Int) (x4 : Int) (x6 : Int) (y0 : Int) (h : am_H) : am_run am_ms 258 26 [am_R x0, am_I x1, am_I x2, am_I x3, am_L x4, am_K 1, am_I x6, am_K 1] [am_L y0] h = ((am_cI 40 [am_L y0, am_L x1, am_L 8] h).bind fun r1 => (bif decide (r1.1 = 0) then am_run am_ms 258 85 [am_R x0, am_I x1, am_I x2, am_I x3, am_L x4, am_K 1, am_I x6, am_K 1] [] r1.2 else ((am_gfR r1.2 x0 9 15).bind fun f2 => ((am_isc r1.2 x0 9).bind fun _ => ((am_cI 112 [am_R x0, am_R f2, am_I 1] r1.2).bind fun r3 => (bif decide (x1 < r3.1) then am_run am_ms 258 85 [am_R x0, am_I x1, am_I x2, am_I x3, am_L x4, am_K 1, am_I x6, am_K 1] [] r3.2 else am_run am_ms 258 52 [am_R x0, am_I x1, am_I x2, am_I x3, am_L x4, am_K 1, am_I x6, am_K 1] [am_R x0, am_I x2] r3.2)))))) :=
  (am_xs_run am_ms 258 [(.iload_n 1, 1, []), (.i2l, 1, []), (.ldc2_w 385, 3, [0, 8, 8017]), (.invokestatic 96, 3, [1, 40, 3, 0, 1, 6060, 6061]), (.ifCond .eq 51, 3, []), (.iload_n 1, 1, []), (.aload_n 0, 1, []), (.aload_n 0, 1, []), (.getfield 32, 3, [9, 15, 5198, 3]), (.iconst 1, 1, []), (.invokevirtual 200, 3, [0, 112, 3, 9, 1, 6170, 6172, 53]), (.if_icmp .lt 38, 3, []), (.iload_n 2, 1, []), (.aload_n 0, 1, [])] 26 _ _ h (by decide +kernel)).trans rfl
set_option maxHeartbeats 4000000 in
theorem bk_258_52 (x0 : Nat) (x1 : Int) (x2 : Int) (x3 : Int) (x4 : Int) (x6 : Int) (y0 : Nat) (y1 : Int) (h : am_H) : am_run am_ms 258 52 [am_R x0, am_I x1, am_I x2, am_I x3, am_L x4, am_K 1, am_I x6, am_K 1] [am_R y0, am_I y1] h = ((am_gfR h x0 9 15).bind fun f1 => ((am_isc h y0 9).bind fun _ => ((am_cI 123 [am_R y0, am_R f1] h).bind fun r2 => (bif decide (y1 < r2.1) then am_run am_ms 258 85 [am_R x0, am_I x1, am_I x2, am_I x3, am_L x4, am_K 1, am_I x6, am_K 1] [] r2.2 else ((am_cI 40 [am_L x3, am_L 1, am_L 200] r2.2).bind fun r3 => (bif decide (r3.1 = 0) then am_run am_ms 258 85 [am_R x0, am_I x1, am_I x2, am_I x3, am_L x4, am_K 1, am_I x6, am_K 1] [] r3.2 else am_run am_ms 258 79 [am_R x0, am_I x1, am_I x2, am_I x3, am_L x4, am_K 1, am_I x6, am_K 1] [am_L 1, am_L 0, am_L x6] r3.2)))))) :=
  (am_xs_run am_ms 258 [(.aload_n 0, 1, []), (.getfield 32, 3, [9, 15, 5198, 3]), (.invokevirtual 227, 3, [0, 123, 2, 9, 1, 6223, 6225, 66]), (.if_icmp .lt 26, 3, []), (.iload_n 3, 1, []), (.i2l, 1, []), (.lconst 1, 1, []), (.ldc2_w 376, 3, [0, 200, 7232]), (.invokestatic 96, 3, [1, 40, 3, 0, 1, 6060, 6061]), (.ifCond .eq 14, 3, []), (.iload 6, 2, []), (.i2l, 1, []), (.lconst 0, 1, []), (.lconst 1, 1, [])] 52 _ _ h (by decide +kernel)).trans rfl
set_option maxHeartbeats 4000000 in
theorem bk_258_79 (x0 : Nat) (x1 : Int) (x2 : Int) (x3 : Int) (x4 : Int) (x6 : Int) (y0 : Int) (y1 : Int) (y2 : Int) (h : am_H) : am_run am_ms 258 79 [am_R x0, am_I x1, am_I x2, am_I x3, am_L x4, am_K 1, am_I x6, am_K 1] [am_L y0, am_L y1, am_L y2] h = ((am_cI 40 [am_L y2, am_L y1, am_L y0] h).bind fun r1 => (bif decide (¬ r1.1 = 0) then am_run am_ms 258 87 [am_R x0, am_I x1, am_I x2, am_I x3, am_L x4, am_K 1, am_I x6, am_K 1] [] r1.2 else am_run am_ms 258 85 [am_R x0, am_I x1, am_I x2, am_I x3, am_L x4, am_K 1, am_I x6, am_K 1] [] r1.2)) :=
  (am_xs_run am_ms 258 [(.invokestatic 96, 3, [1, 40, 3, 0, 1, 6060, 6061]), (.ifCond .ne 5, 3, [])] 79 _ _ h (by decide +kernel)).trans rfl
set_option maxHeartbeats 4000000 in
theorem bk_258_85 (x0 : Nat) (x1 : Int) (x2 : Int) (x3 : Int) (x4 : Int) (x6 : Int) (h : am_H) : am_run am_ms 258 85 [am_R x0, am_I x1, am_I x2, am_I x3, am_L x4, am_K 1, am_I x6, am_K 1] [] h = some (some (am_I (-1)), h) :=
  (am_xs_run am_ms 258 [(.iconst (-1), 1, []), (.ireturn, 1, [0])] 85 _ _ h (by decide +kernel)).trans rfl
set_option maxHeartbeats 4000000 in
theorem bk_258_87 (x0 : Nat) (x1 : Int) (x2 : Int) (x3 : Int) (x4 : Int) (x6 : Int) (h : am_H) : am_run am_ms 258 87 [am_R x0, am_I x1, am_I x2, am_I x3, am_L x4, am_K 1, am_I x6, am_K 1] [] h = ((am_gfR h x0 9 15).bind fun f1 => ((am_gfR h x0 9 16).bind fun f2 => ((am_cV 108 [am_R f1, am_I 0, am_R f2, am_I 0] h).bind fun h3 => ((am_pf h3 x0 9 23 (am_I x1)).bind fun h4 => ((am_pf h4 x0 9 24 (am_I x2)).bind fun h5 => am_run am_ms 258 111 [am_R x0, am_I x1, am_I x2, am_I x3, am_L x4, am_K 1, am_I x6, am_K 1] [am_R x0] h5))))) :=
  (am_xs_run am_ms 258 [(.aload_n 0, 1, []), (.getfield 32, 3, [9, 15, 5198, 3]), (.iconst 0, 1, []), (.aload_n 0, 1, []), (.getfield 35, 3, [9, 16, 5199, 3]), (.iconst 0, 1, []), (.invokestatic 259, 3, [1, 108, 4, 0, 0, 6155, 6156]), (.aload_n 0, 1, []), (.iload_n 1, 1, []), (.putfield 171, 3, [9, 23, 5206, 0]), (.aload_n 0, 1, []), (.iload_n 2, 1, []), (.putfield 174, 3, [9, 24, 5207, 0]), (.aload_n 0, 1, [])] 87 _ _ h (by decide +kernel)).trans rfl
set_option maxHeartbeats 4000000 in
theorem bk_258_111 (x0 : Nat) (x1 : Int) (x2 : Int) (x3 : Int) (x4 : Int) (x6 : Int) (y0 : Nat) (h : am_H) : am_run am_ms 258 111 [am_R x0, am_I x1, am_I x2, am_I x3, am_L x4, am_K 1, am_I x6, am_K 1] [am_R y0] h = ((am_isc h y0 9).bind fun _ => ((am_cI 248 [am_R y0, am_I x3, am_L x4] h).bind fun r1 => ((am_isc r1.2 x0 9).bind fun _ => ((am_cV 107 [am_R x0] r1.2).bind fun h2 => (bif decide (¬ x6 = 0) then am_run am_ms 258 148 [am_R x0, am_I x1, am_I x2, am_I x3, am_L x4, am_K 1, am_I x6, am_I r1.1] [] h2 else ((am_gfR h2 x0 9 16).bind fun f3 => ((am_rd h2 f3 0 426).bind fun v4 => ((am_gfR h2 x0 9 15).bind fun f5 => am_run am_ms 258 140 [am_R x0, am_I x1, am_I x2, am_I x3, am_L x4, am_K 1, am_I x6, am_I r1.1] [am_R f5, am_I v4] h2)))))))) :=
  (am_xs_run am_ms 258 [(.iload_n 3, 1, []), (.lload 4, 2, []), (.invokevirtual 378, 3, [0, 248, 3, 9, 1, 7233, 7235, 93]), (.istore 7, 2, []), (.aload_n 0, 1, []), (.invokevirtual 158, 3, [0, 107, 1, 9, 0, 6147, 6149, 48]), (.iload 6, 2, []), (.ifCond .ne 23, 3, []), (.aload_n 0, 1, []), (.getfield 35, 3, [9, 16, 5199, 3]), (.sipush 426, 3, []), (.iaload, 1, []), (.aload_n 0, 1, []), (.getfield 32, 3, [9, 15, 5198, 3])] 111 _ _ h (by decide +kernel)).trans rfl
set_option maxHeartbeats 4000000 in
theorem bk_258_140 (x0 : Nat) (x1 : Int) (x2 : Int) (x3 : Int) (x4 : Int) (x6 : Int) (x7 : Int) (y0 : Nat) (y1 : Int) (h : am_H) : am_run am_ms 258 140 [am_R x0, am_I x1, am_I x2, am_I x3, am_L x4, am_K 1, am_I x6, am_I x7] [am_R y0, am_I y1] h = ((am_rd h y0 0 426).bind fun v1 => am_run am_ms 258 165 [am_R x0, am_I x1, am_I x2, am_I x3, am_L x4, am_K 1, am_I x6, am_I x7] [am_I (am_w (y1 - v1))] h) :=
  (am_xs_run am_ms 258 [(.sipush 426, 3, []), (.iaload, 1, []), (.isub, 1, []), (.goto 20, 3, [])] 140 _ _ h (by decide +kernel)).trans rfl
set_option maxHeartbeats 4000000 in
theorem bk_258_148 (x0 : Nat) (x1 : Int) (x2 : Int) (x3 : Int) (x4 : Int) (x6 : Int) (x7 : Int) (h : am_H) : am_run am_ms 258 148 [am_R x0, am_I x1, am_I x2, am_I x3, am_L x4, am_K 1, am_I x6, am_I x7] [] h = ((am_gfR h x0 9 16).bind fun f1 => ((am_rd h f1 0 427).bind fun v2 => ((am_gfR h x0 9 15).bind fun f3 => ((am_rd h f3 0 427).bind fun v4 => am_run am_ms 258 165 [am_R x0, am_I x1, am_I x2, am_I x3, am_L x4, am_K 1, am_I x6, am_I x7] [am_I (am_w (v2 - v4))] h)))) :=
  (am_xs_run am_ms 258 [(.aload_n 0, 1, []), (.getfield 35, 3, [9, 16, 5199, 3]), (.sipush 427, 3, []), (.iaload, 1, []), (.aload_n 0, 1, []), (.getfield 32, 3, [9, 15, 5198, 3]), (.sipush 427, 3, []), (.iaload, 1, []), (.isub, 1, [])] 148 _ _ h (by decide +kernel)).trans rfl
set_option maxHeartbeats 4000000 in
theorem bk_258_165 (x0 : Nat) (x1 : Int) (x2 : Int) (x3 : Int) (x4 : Int) (x6 : Int) (x7 : Int) (y0 : Int) (h : am_H) : am_run am_ms 258 165 [am_R x0, am_I x1, am_I x2, am_I x3, am_L x4, am_K 1, am_I x6, am_I x7] [am_I y0] h = some (some (am_I y0), h) :=
  (am_xs_run am_ms 258 [(.ireturn, 1, [0])] 165 _ _ h (by decide +kernel)).trans rfl
set_option maxHeartbeats 4000000 in
theorem bk_261_0 (x0 : Nat) (h : am_H) : am_run am_ms 261 0 [am_R x0, am_K 1] [] h = am_run am_ms 261 2 [am_R x0, am_I 0] [] h :=
  (am_xs_run am_ms 261 [(.iconst 0, 1, []), (.istore_n 1, 1, [])] 0 _ _ h (by decide +kernel)).trans rfl
theorem en_261 (x0 : Nat) (h : am_H) : am_call am_ms 261 [am_R x0] h = am_run am_ms 261 0 [am_R x0, am_K 1] [] h := rfl
set_option maxHeartbeats 4000000 in
theorem bk_261_2 (x0 : Nat) (x1 : Int) (h : am_H) : am_run am_ms 261 2 [am_R x0, am_I x1] [] h = (bif decide (32 ≤ x1) then am_run am_ms 261 21 [am_R x0, am_I x1] [] h else ((am_gfR h x0 9 16).bind fun f1 => ((am_wr h f1 0 x1 0).bind fun h2 => am_run am_ms 261 2 [am_R x0, am_I (am_w (x1 + 1))] [] h2))) :=
  (am_xs_run am_ms 261 [(.iload_n 1, 1, []), (.bipush 32, 2, []), (.if_icmp .ge 16, 3, []), (.aload_n 0, 1, []), (.getfield 35, 3, [9, 16, 5199, 3]), (.iload_n 1, 1, []), (.iconst 0, 1, []), (.iastore, 1, []), (.iinc 1 1, 3, []), (.goto (-16), 3, [])] 2 _ _ h (by decide +kernel)).trans rfl
set_option maxHeartbeats 4000000 in
theorem bk_261_21 (x0 : Nat) (x1 : Int) (h : am_H) : am_run am_ms 261 21 [am_R x0, am_I x1] [] h = am_run am_ms 261 23 [am_R x0, am_I 0] [] h :=
  (am_xs_run am_ms 261 [(.iconst 0, 1, []), (.istore_n 1, 1, [])] 21 _ _ h (by decide +kernel)).trans rfl
set_option maxHeartbeats 4000000 in
theorem bk_261_23 (x0 : Nat) (x1 : Int) (h : am_H) : am_run am_ms 261 23 [am_R x0, am_I x1] [] h = (bif decide (3 ≤ x1) then am_run am_ms 261 45 [am_R x0, am_I x1] [] h else ((am_gfR h x0 9 16).bind fun f1 => ((am_wr h f1 0 (am_w (416 + x1)) (-1)).bind fun h2 => am_run am_ms 261 23 [am_R x0, am_I (am_w (x1 + 1))] [] h2))) :=
  (am_xs_run am_ms 261 [(.iload_n 1, 1, []), (.iconst 3, 1, []), (.if_icmp .ge 20, 3, []), (.aload_n 0, 1, []), (.getfield 35, 3, [9, 16, 5199, 3]), (.sipush 416, 3, []), (.iload_n 1, 1, []), (.iadd, 1, []), (.iconst (-1), 1, []), (.iastore, 1, []), (.iinc 1 1, 3, []), (.goto (-19), 3, [])] 23 _ _ h (by decide +kernel)).trans rfl
set_option maxHeartbeats 4000000 in
theorem bk_261_45 (x0 : Nat) (x1 : Int) (h : am_H) : am_run am_ms 261 45 [am_R x0, am_I x1] [] h = ((am_gfR h x0 9 16).bind fun f1 => ((am_wr h f1 0 419 0).bind fun h2 => some (none, h2))) :=
  (am_xs_run am_ms 261 [(.aload_n 0, 1, []), (.getfield 35, 3, [9, 16, 5199, 3]), (.sipush 419, 3, []), (.iconst 0, 1, []), (.iastore, 1, []), (.return_, 1, [])] 45 _ _ h (by decide +kernel)).trans rfl
set_option maxHeartbeats 4000000 in
theorem bk_262_0 (x0 : Nat) (x1 : Int) (x2 : Int) (x3 : Int) (x5 : Int) (h : am_H) : am_run am_ms 262 0 [am_R x0, am_I x1, am_I x2, am_L x3, am_K 1, am_I x5, am_K 1] [] h = ((am_pf h x0 9 0 (am_I 0)).bind fun h1 => ((am_gfI h1 x0 9 14).bind fun f2 => (bif decide (f2 = 0) then am_run am_ms 262 49 [am_R x0, am_I x1, am_I x2, am_L x3, am_K 1, am_I x5, am_K 1] [] h1 else ((am_cI 40 [am_L x1, am_L 1, am_L 3] h1).bind fun r3 => (bif decide (r3.1 = 0) then am_run am_ms 262 49 [am_R x0, am_I x1, am_I x2, am_L x3, am_K 1, am_I x5, am_K 1] [] r3.2 else am_run am_ms 262 26 [am_R x0, am_I x1, am_I x2, am_L x3, am_K 1, am_I x5, am_K 1] [am_L x2] r3.2))))) :=
  (am_xs_run am_ms 262 [(.aload_n 0, 1, []), (.iconst 0, 1, []), (.putfield 53, 3, [9, 0, 5183, 0]), (.aload_n 0, 1, []), (.getfield 155, 3, [9, 14, 5197, 1]), (.ifCond .eq 40, 3, []), (.iload_n 1, 1, []), (.i2l, 1, []), (.lconst 1, 1, []), (.ldc2_w 298, 3, [0, 3, 7056]), (.invokestatic 96, 3, [1, 40, 3, 0, 1, 6060, 6061]), (.ifCond .eq 28, 3, []), (.iload_n 2, 1, []), (.i2l, 1, [])] 0 _ _ h (by decide +kernel)).trans rfl
theorem en_262 (x0 : Nat) (x1 : Int) (x2 : Int) (x3 : Int) (x5 : Int) (h : am_H) : am_call am_ms 262 [am_R x0, am_I x1, am_I x2, am_L x3, am_I x5] h = am_run am_ms 262 0 [am_R x0, am_I x1, am_I x2, am_L x3, am_K 1, am_I x5, am_K 1] [] h := rfl
set_option maxHeartbeats 4000000 in
theorem bk_262_26 (x0 : Nat) (x1 : Int) (x2 : Int) (x3 : Int) (x5 : Int) (y0 : Int) (h : am_H) : am_run am_ms 262 26 [am_R x0, am_I x1, am_I x2, am_L x3, am_K 1, am_I x5, am_K 1] [am_L y0] h = ((am_cI 40 [am_L y0, am_L 1, am_L 200] h).bind fun r1 => (bif decide (r1.1 = 0) then am_run am_ms 262 49 [am_R x0, am_I x1, am_I x2, am_L x3, am_K 1, am_I x5, am_K 1] [] r1.2 else ((am_cI 40 [am_L x5, am_L 0, am_L 2] r1.2).bind fun r2 => (bif decide (¬ r2.1 = 0) then am_run am_ms 262 51 [am_R x0, am_I x1, am_I x2, am_L x3, am_K 1, am_I x5, am_K 1] [] r2.2 else am_run am_ms 262 49 [am_R x0, am_I x1, am_I x2, am_L x3, am_K 1, am_I x5, am_K 1] [] r2.2)))) :=
  (am_xs_run am_ms 262 [(.lconst 1, 1, []), (.ldc2_w 376, 3, [0, 200, 7232]), (.invokestatic 96, 3, [1, 40, 3, 0, 1, 6060, 6061]), (.ifCond .eq 16, 3, []), (.iload 5, 2, []), (.i2l, 1, []), (.lconst 0, 1, []), (.ldc2_w 348, 3, [0, 2, 7148]), (.invokestatic 96, 3, [1, 40, 3, 0, 1, 6060, 6061]), (.ifCond .ne 5, 3, [])] 26 _ _ h (by decide +kernel)).trans rfl
set_option maxHeartbeats 4000000 in
theorem bk_262_49 (x0 : Nat) (x1 : Int) (x2 : Int) (x3 : Int) (x5 : Int) (h : am_H) : am_run am_ms 262 49 [am_R x0, am_I x1, am_I x2, am_L x3, am_K 1, am_I x5, am_K 1] [] h = some (some (am_I (-1)), h) :=
  (am_xs_run am_ms 262 [(.iconst (-1), 1, []), (.ireturn, 1, [0])] 49 _ _ h (by decide +kernel)).trans rfl
set_option maxHeartbeats 4000000 in
theorem bk_262_51 (x0 : Nat) (x1 : Int) (x2 : Int) (x3 : Int) (x5 : Int) (h : am_H) : am_run am_ms 262 51 [am_R x0, am_I x1, am_I x2, am_L x3, am_K 1, am_I x5, am_K 1] [] h = ((am_gfR h x0 9 15).bind fun f1 => ((am_gfR h x0 9 16).bind fun f2 => ((am_cV 108 [am_R f1, am_I 0, am_R f2, am_I 0] h).bind fun h3 => ((am_isc h3 x0 9).bind fun _ => ((am_cV 261 [am_R x0] h3).bind fun h4 => ((am_pf h4 x0 9 25 (am_I x1)).bind fun h5 => am_run am_ms 262 75 [am_R x0, am_I x1, am_I x2, am_L x3, am_K 1, am_I x5, am_K 1] [am_R x0, am_R x0] h5)))))) :=
  (am_xs_run am_ms 262 [(.aload_n 0, 1, []), (.getfield 32, 3, [9, 15, 5198, 3]), (.iconst 0, 1, []), (.aload_n 0, 1, []), (.getfield 35, 3, [9, 16, 5199, 3]), (.iconst 0, 1, []), (.invokestatic 259, 3, [1, 108, 4, 0, 0, 6155, 6156]), (.aload_n 0, 1, []), (.invokevirtual 387, 3, [0, 261, 1, 9, 0, 8022, 8024, 97]), (.aload_n 0, 1, []), (.iload_n 1, 1, []), (.putfield 177, 3, [9, 25, 5208, 0]), (.aload_n 0, 1, []), (.aload_n 0, 1, [])] 51 _ _ h (by decide +kernel)).trans rfl
set_option maxHeartbeats 4000000 in
theorem bk_262_75 (x0 : Nat) (x1 : Int) (x2 : Int) (x3 : Int) (x5 : Int) (y0 : Nat) (y1 : Nat) (h : am_H) : am_run am_ms 262 75 [am_R x0, am_I x1, am_I x2, am_L x3, am_K 1, am_I x5, am_K 1] [am_R y0, am_R y1] h = ((am_isc h y0 9).bind fun _ => ((am_cI 248 [am_R y0, am_I x2, am_L x3] h).bind fun r1 => ((am_gfR r1.2 x0 9 15).bind fun f2 => ((am_cI 223 [am_R f2] r1.2).bind fun r3 => ((am_isc r3.2 y1 9).bind fun _ => ((am_cI 251 [am_R y1, am_I r1.1, am_I r3.1, am_I x5] r3.2).bind fun r4 => ((am_isc r4.2 x0 9).bind fun _ => ((am_cV 107 [am_R x0] r4.2).bind fun h5 => some (some (am_I r4.1), h5))))))))) :=
  (am_xs_run am_ms 262 [(.iload_n 2, 1, []), (.lload_n 3, 1, []), (.invokevirtual 378, 3, [0, 248, 3, 9, 1, 7233, 7235, 93]), (.aload_n 0, 1, []), (.getfield 32, 3, [9, 15, 5198, 3]), (.invokestatic 361, 3, [1, 223, 1, 0, 1, 7197, 7198]), (.iload 5, 2, []), (.invokevirtual 382, 3, [0, 251, 4, 9, 1, 7237, 7239, 94]), (.istore 6, 2, []), (.aload_n 0, 1, []), (.invokevirtual 158, 3, [0, 107, 1, 9, 0, 6147, 6149, 48]), (.iload 6, 2, []), (.ireturn, 1, [0])] 75 _ _ h (by decide +kernel)).trans rfl
set_option maxHeartbeats 4000000 in
theorem bk_264_0 (x0 : Nat) (x1 : Int) (x2 : Int) (h : am_H) : am_run am_ms 264 0 [am_R x0, am_I x1, am_L x2, am_K 1, am_K 1, am_K 1, am_K 1, am_K 1, am_K 1, am_K 1] [] h = ((am_pf h x0 9 0 (am_I 0)).bind fun h1 => ((am_gfI h1 x0 9 14).bind fun f2 => (bif decide (f2 = 0) then am_run am_ms 264 24 [am_R x0, am_I x1, am_L x2, am_K 1, am_K 1, am_K 1, am_K 1, am_K 1, am_K 1, am_K 1] [] h1 else ((am_cI 40 [am_L x1, am_L 1, am_L 200] h1).bind fun r3 => (bif decide (¬ r3.1 = 0) then am_run am_ms 264 26 [am_R x0, am_I x1, am_L x2, am_K 1, am_K 1, am_K 1, am_K 1, am_K 1, am_K 1, am_K 1] [] r3.2 else am_run am_ms 264 24 [am_R x0, am_I x1, am_L x2, am_K 1, am_K 1, am_K 1, am_K 1, am_K 1, am_K 1, am_K 1] [] r3.2))))) :=
  (am_xs_run am_ms 264 [(.aload_n 0, 1, []), (.iconst 0, 1, []), (.putfield 53, 3, [9, 0, 5183, 0]), (.aload_n 0, 1, []), (.getfield 155, 3, [9, 14, 5197, 1]), (.ifCond .eq 15, 3, []), (.iload_n 1, 1, []), (.i2l, 1, []), (.lconst 1, 1, []), (.ldc2_w 376, 3, [0, 200, 7232]), (.invokestatic 96, 3, [1, 40, 3, 0, 1, 6060, 6061]), (.ifCond .ne 5, 3, [])] 0 _ _ h (by decide +kernel)).trans rfl
theorem en_264 (x0 : Nat) (x1 : Int) (x2 : Int) (h : am_H) : am_call am_ms 264 [am_R x0, am_I x1, am_L x2] h = am_run am_ms 264 0 [am_R x0, am_I x1, am_L x2, am_K 1, am_K 1, am_K 1, am_K 1, am_K 1, am_K 1, am_K 1] [] h := rfl
set_option maxHeartbeats 4000000 in
theorem bk_264_24 (x0 : Nat) (x1 : Int) (x2 : Int) (h : am_H) : am_run am_ms 264 24 [am_R x0, am_I x1, am_L x2, am_K 1, am_K 1, am_K 1, am_K 1, am_K 1, am_K 1, am_K 1] [] h = some (some (am_I (-1)), h) :=
  (am_xs_run am_ms 264 [(.iconst (-1), 1, []), (.ireturn, 1, [0])] 24 _ _ h (by decide +kernel)).trans rfl
set_option maxHeartbeats 4000000 in
theorem bk_264_26 (x0 : Nat) (x1 : Int) (x2 : Int) (h : am_H) : am_run am_ms 264 26 [am_R x0, am_I x1, am_L x2, am_K 1, am_K 1, am_K 1, am_K 1, am_K 1, am_K 1, am_K 1] [] h = am_run am_ms 264 38 [am_R x0, am_I x1, am_L x2, am_K 1, am_I (-1), am_I 0, am_I 0, am_I 1, am_K 1, am_K 1] [] h :=
  (am_xs_run am_ms 264 [(.iconst (-1), 1, []), (.istore 4, 2, []), (.iconst 0, 1, []), (.istore 5, 2, []), (.iconst 0, 1, []), (.istore 6, 2, []), (.iconst 1, 1, []), (.istore 7, 2, [])] 26 _ _ h (by decide +kernel)).trans rfl
set_option maxHeartbeats 4000000 in
theorem bk_264_38 (x0 : Nat) (x1 : Int) (x2 : Int) (x4 : Int) (x5 : Int) (x6 : Int) (x7 : Int) (x8 : am_V) (x9 : am_V) (h : am_H) : am_run am_ms 264 38 [am_R x0, am_I x1, am_L x2, am_K 1, am_I x4, am_I x5, am_I x6, am_I x7, x8, x9] [] h = (bif decide (3 < x7) then am_run am_ms 264 138 [am_R x0, am_I x1, am_L x2, am_K 1, am_I x4, am_I x5, am_I x6, am_I x7, x8, x9] [] h else ((am_gfR h x0 9 15).bind fun f1 => ((am_gfR h x0 9 16).bind fun f2 => ((am_cV 108 [am_R f1, am_I 0, am_R f2, am_I 0] h).bind fun h3 => ((am_isc h3 x0 9).bind fun _ => ((am_cV 261 [am_R x0] h3).bind fun h4 => am_run am_ms 264 64 [am_R x0, am_I x1, am_L x2, am_K 1, am_I x4, am_I x5, am_I x6, am_I x7, x8, x9] [am_I x7, am_R x0] h4)))))) :=
  (am_xs_run am_ms 264 [(.iload 7, 2, []), (.iconst 3, 1, []), (.if_icmp .gt 97, 3, []), (.aload_n 0, 1, []), (.getfield 32, 3, [9, 15, 5198, 3]), (.iconst 0, 1, []), (.aload_n 0, 1, []), (.getfield 35, 3, [9, 16, 5199, 3]), (.iconst 0, 1, []), (.invokestatic 259, 3, [1, 108, 4, 0, 0, 6155, 6156]), (.aload_n 0, 1, []), (.invokevirtual 387, 3, [0, 261, 1, 9, 0, 8022, 8024, 97]), (.aload_n 0, 1, []), (.iload 7, 2, [])] 38 _ _ h (by decide +kernel)).trans rfl
set_option maxHeartbeats 4000000 in
theorem bk_264_64 (x0 : Nat) (x1 : Int) (x2 : Int) (x4 : Int) (x5 : Int) (x6 : Int) (x7 : Int) (x8 : am_V) (x9 : am_V) (y0 : Int) (y1 : Nat) (h : am_H) : am_run am_ms 264 64 [am_R x0, am_I x1, am_L x2, am_K 1, am_I x4, am_I x5, am_I x6, am_I x7, x8, x9] [am_I y0, am_R y1] h = ((am_pf h y1 9 25 (am_I y0)).bind fun h1 => ((am_isc h1 x0 9).bind fun _ => ((am_cI 248 [am_R x0, am_I x1, am_L x2] h1).bind fun r2 => ((am_gfR r2.2 x0 9 15).bind fun f3 => ((am_cI 223 [am_R f3] r2.2).bind fun r4 => ((am_isc r4.2 x0 9).bind fun _ => ((am_cI 249 [am_R x0, am_I r2.1, am_I r4.1] r4.2).bind fun r5 => am_run am_ms 264 92 [am_R x0, am_I x1, am_L x2, am_K 1, am_I x4, am_I x5, am_I x6, am_I x7, am_I r2.1, am_I r5.1] [am_I x4] r5.2))))))) :=
  (am_xs_run am_ms 264 [(.putfield 177, 3, [9, 25, 5208, 0]), (.aload_n 0, 1, []), (.iload_n 1, 1, []), (.lload_n 2, 1, []), (.invokevirtual 378, 3, [0, 248, 3, 9, 1, 7233, 7235, 93]), (.istore 8, 2, []), (.aload_n 0, 1, []), (.iload 8, 2, []), (.aload_n 0, 1, []), (.getfield 32, 3, [9, 15, 5198, 3]), (.invokestatic 361, 3, [1, 223, 1, 0, 1, 7197, 7198]), (.invokevirtual 370, 3, [0, 249, 3, 9, 1, 8001, 8003, 95]), (.istore 9, 2, []), (.iload 4, 2, [])] 64 _ _ h (by decide +kernel)).trans rfl
set_option maxHeartbeats 4000000 in
theorem bk_264_92 (x0 : Nat) (x1 : Int) (x2 : Int) (x4 : Int) (x5 : Int) (x6 : Int) (x7 : Int) (x8 : Int) (x9 : Int) (y0 : Int) (h : am_H) : am_run am_ms 264 92 [am_R x0, am_I x1, am_L x2, am_K 1, am_I x4, am_I x5, am_I x6, am_I x7, am_I x8, am_I x9] [am_I y0] h = (bif decide (y0 = (-1)) then am_run am_ms 264 120 [am_R x0, am_I x1, am_L x2, am_K 1, am_I x4, am_I x5, am_I x6, am_I x7, am_I x8, am_I x9] [] h else (bif decide (x8 < x5) then am_run am_ms 264 132 [am_R x0, am_I x1, am_L x2, am_K 1, am_I x4, am_I x5, am_I x6, am_I x7, am_I x8, am_I x9] [] h else (bif decide (¬ x8 = x5) then am_run am_ms 264 120 [am_R x0, am_I x1, am_L x2, am_K 1, am_I x4, am_I x5, am_I x6, am_I x7, am_I x8, am_I x9] [] h else (bif decide (x9 < x6) then am_run am_ms 264 120 [am_R x0, am_I x1, am_L x2, am_K 1, am_I x4, am_I x5, am_I x6, am_I x7, am_I x8, am_I x9] [] h else am_run am_ms 264 132 [am_R x0, am_I x1, am_L x2, am_K 1, am_I x4, am_I x5, am_I x6, am_I x7, am_I x8, am_I x9] [] h)))) :=
  (am_xs_run am_ms 264 [(.iconst (-1), 1, []), (.if_icmp .eq 27, 3, []), (.iload 8, 2, []), (.iload 5, 2, []), (.if_icmp .lt 32, 3, []), (.iload 8, 2, []), (.iload 5, 2, []), (.if_icmp .ne 13, 3, []), (.iload 9, 2, []), (.iload 6, 2, []), (.if_icmp .lt 6, 3, []), (.goto 15, 3, [])] 92 _ _ h (by decide +kernel)).trans rfl
set_option maxHeartbeats 4000000 in
theorem bk_264_120 (x0 : Nat) (x1 : Int) (x2 : Int) (x4 : Int) (x5 : Int) (x6 : Int) (x7 : Int) (x8 : Int) (x9 : Int) (h : am_H) : am_run am_ms 264 120 [am_R x0, am_I x1, am_L x2, am_K 1, am_I x4, am_I x5, am_I x6, am_I x7, am_I x8, am_I x9] [] h = am_run am_ms 264 132 [am_R x0, am_I x1, am_L x2, am_K 1, am_I x7, am_I x8, am_I x9, am_I x7, am_I x8, am_I x9] [] h :=
  (am_xs_run am_ms 264 [(.iload 7, 2, []), (.istore 4, 2, []), (.iload 8, 2, []), (.istore 5, 2, []), (.iload 9, 2, []), (.istore 6, 2, [])] 120 _ _ h (by decide +kernel)).trans rfl
set_option maxHeartbeats 4000000 in
theorem bk_264_132 (x0 : Nat) (x1 : Int) (x2 : Int) (x4 : Int) (x5 : Int) (x6 : Int) (x7 : Int) (x8 : Int) (x9 : Int) (h : am_H) : am_run am_ms 264 132 [am_R x0, am_I x1, am_L x2, am_K 1, am_I x4, am_I x5, am_I x6, am_I x7, am_I x8, am_I x9] [] h = am_run am_ms 264 38 [am_R x0, am_I x1, am_L x2, am_K 1, am_I x4, am_I x5, am_I x6, am_I (am_w (x7 + 1)), am_I x8, am_I x9] [] h :=
  (am_xs_run am_ms 264 [(.iinc 7 1, 3, []), (.goto (-97), 3, [])] 132 _ _ h (by decide +kernel)).trans rfl
set_option maxHeartbeats 4000000 in
theorem bk_264_138 (x0 : Nat) (x1 : Int) (x2 : Int) (x4 : Int) (x5 : Int) (x6 : Int) (x7 : Int) (x8 : am_V) (x9 : am_V) (h : am_H) : am_run am_ms 264 138 [am_R x0, am_I x1, am_L x2, am_K 1, am_I x4, am_I x5, am_I x6, am_I x7, x8, x9] [] h = ((am_isc h x0 9).bind fun _ => ((am_cV 107 [am_R x0] h).bind fun h1 => some (some (am_I x4), h1))) :=
  (am_xs_run am_ms 264 [(.aload_n 0, 1, []), (.invokevirtual 158, 3, [0, 107, 1, 9, 0, 6147, 6149, 48]), (.iload 4, 2, []), (.ireturn, 1, [0])] 138 _ _ h (by decide +kernel)).trans rfl
set_option maxHeartbeats 4000000 in
theorem bk_268_0 (x0 : Nat) (x1 : Int) (x2 : Int) (h : am_H) : am_run am_ms 268 0 [am_R x0, am_I x1, am_I x2, am_K 1, am_K 1, am_K 1] [] h = ((am_pf h x0 9 0 (am_I 0)).bind fun h1 => ((am_isc h1 x0 9).bind fun _ => ((am_cI 146 [am_R x0, am_I x1] h1).bind fun r2 => (bif decide (r2.1 = 0) then am_run am_ms 268 17 [am_R x0, am_I x1, am_I x2, am_K 1, am_K 1, am_K 1] [] r2.2 else (bif decide (0 ≤ x2) then am_run am_ms 268 19 [am_R x0, am_I x1, am_I x2, am_K 1, am_K 1, am_K 1] [] r2.2 else am_run am_ms 268 17 [am_R x0, am_I x1, am_I x2, am_K 1, am_K 1, am_K 1] [] r2.2))))) :=
  (am_xs_run am_ms 268 [(.aload_n 0, 1, []), (.iconst 0, 1, []), (.putfield 53, 3, [9, 0, 5183, 0]), (.aload_n 0, 1, []), (.iload_n 1, 1, []), (.invokevirtual 286, 3, [0, 146, 2, 9, 1, 7038, 7040, 78]), (.ifCond .eq 7, 3, []), (.iload_n 2, 1, []), (.ifCond .ge 5, 3, [])] 0 _ _ h (by decide +kernel)).trans rfl
theorem en_268 (x0 : Nat) (x1 : Int) (x2 : Int) (h : am_H) : am_call am_ms 268 [am_R x0, am_I x1, am_I x2] h = am_run am_ms 268 0 [am_R x0, am_I x1, am_I x2, am_K 1, am_K 1, am_K 1] [] h := rfl
set_option maxHeartbeats 4000000 in
theorem bk_268_17 (x0 : Nat) (x1 : Int) (x2 : Int) (h : am_H) : am_run am_ms 268 17 [am_R x0, am_I x1, am_I x2, am_K 1, am_K 1, am_K 1] [] h = some (some (am_I (-1)), h) :=
  (am_xs_run am_ms 268 [(.iconst (-1), 1, []), (.ireturn, 1, [0])] 17 _ _ h (by decide +kernel)).trans rfl
set_option maxHeartbeats 4000000 in
theorem bk_268_19 (x0 : Nat) (x1 : Int) (x2 : Int) (h : am_H) : am_run am_ms 268 19 [am_R x0, am_I x1, am_I x2, am_K 1, am_K 1, am_K 1] [] h = am_run am_ms 268 21 [am_R x0, am_I x1, am_I x2, am_I 0, am_K 1, am_K 1] [] h :=
  (am_xs_run am_ms 268 [(.iconst 0, 1, []), (.istore_n 3, 1, [])] 19 _ _ h (by decide +kernel)).trans rfl
set_option maxHeartbeats 4000000 in
theorem bk_268_21 (x0 : Nat) (x1 : Int) (x2 : Int) (x3 : Int) (x4 : am_V) (x5 : am_V) (h : am_H) : am_run am_ms 268 21 [am_R x0, am_I x1, am_I x2, am_I x3, x4, x5] [] h = (bif decide (128 ≤ x3) then am_run am_ms 268 184 [am_R x0, am_I x1, am_I x2, am_I x3, x4, x5] [] h else ((am_gfR h x0 9 15).bind fun f1 => ((am_isc h x0 9).bind fun _ => ((am_cI 231 [am_R x0, am_R f1, am_I x3] h).bind fun r2 => (bif decide (r2.1 = 0) then am_run am_ms 268 178 [am_R x0, am_I x1, am_I x2, am_I x3, x4, x5] [] r2.2 else ((am_gfR r2.2 x0 9 15).bind fun f3 => am_run am_ms 268 48 [am_R x0, am_I x1, am_I x2, am_I x3, x4, x5] [am_I (am_w (32 + x3)), am_R f3] r2.2)))))) :=
  (am_xs_run am_ms 268 [(.iload_n 3, 1, []), (.sipush 128, 3, []), (.if_icmp .ge 159, 3, []), (.aload_n 0, 1, []), (.aload_n 0, 1, []), (.getfield 32, 3, [9, 15, 5198, 3]), (.iload_n 3, 1, []), (.invokevirtual 364, 3, [0, 231, 3, 9, 1, 7212, 7214, 92]), (.ifCond .eq 141, 3, []), (.aload_n 0, 1, []), (.getfield 32, 3, [9, 15, 5198, 3]), (.bipush 32, 2, []), (.iload_n 3, 1, []), (.iadd, 1, [])] 21 _ _ h (by decide +kernel)).trans rfl
set_option maxHeartbeats 4000000 in
theorem bk_268_48 (x0 : Nat) (x1 : Int) (x2 : Int) (x3 : Int) (x4 : am_V) (x5 : am_V) (y0 : Int) (y1 : Nat) (h : am_H) : am_run am_ms 268 48 [am_R x0, am_I x1, am_I x2, am_I x3, x4, x5] [am_I y0, am_R y1] h = ((am_rd h y1 0 y0).bind fun v1 => (bif decide (v1 = x1) then am_run am_ms 268 56 [am_R x0, am_I x1, am_I x2, am_I x3, x4, x5] [] h else am_run am_ms 268 178 [am_R x0, am_I x1, am_I x2, am_I x3, x4, x5] [] h)) :=
  (am_xs_run am_ms 268 [(.iaload, 1, []), (.iload_n 1, 1, []), (.if_icmp .eq 6, 3, []), (.goto 125, 3, [])] 48 _ _ h (by decide +kernel)).trans rfl
set_option maxHeartbeats 4000000 in
theorem bk_268_56 (x0 : Nat) (x1 : Int) (x2 : Int) (x3 : Int) (x4 : am_V) (x5 : am_V) (h : am_H) : am_run am_ms 268 56 [am_R x0, am_I x1, am_I x2, am_I x3, x4, x5] [] h = am_run am_ms 268 62 [am_R x0, am_I x1, am_I x2, am_I x3, am_I 0, am_I 0] [] h :=
  (am_xs_run am_ms 268 [(.iconst 0, 1, []), (.istore 4, 2, []), (.iconst 0, 1, []), (.istore 5, 2, [])] 56 _ _ h (by decide +kernel)).trans rfl
set_option maxHeartbeats 4000000 in
theorem bk_268_62 (x0 : Nat) (x1 : Int) (x2 : Int) (x3 : Int) (x4 : Int) (x5 : Int) (h : am_H) : am_run am_ms 268 62 [am_R x0, am_I x1, am_I x2, am_I x3, am_I x4, am_I x5] [] h = (bif decide (128 ≤ x5) then am_run am_ms 268 170 [am_R x0, am_I x1, am_I x2, am_I x3, am_I x4, am_I x5] [] h else ((am_gfR h x0 9 15).bind fun f1 => ((am_isc h x0 9).bind fun _ => ((am_cI 231 [am_R x0, am_R f1, am_I x5] h).bind fun r2 => (bif decide (r2.1 = 0) then am_run am_ms 268 164 [am_R x0, am_I x1, am_I x2, am_I x3, am_I x4, am_I x5] [] r2.2 else ((am_gfR r2.2 x0 9 15).bind fun f3 => am_run am_ms 268 92 [am_R x0, am_I x1, am_I x2, am_I x3, am_I x4, am_I x5] [am_I (am_w (32 + x5)), am_R f3] r2.2)))))) :=
  (am_xs_run am_ms 268 [(.iload 5, 2, []), (.sipush 128, 3, []), (.if_icmp .ge 103, 3, []), (.aload_n 0, 1, []), (.aload_n 0, 1, []), (.getfield 32, 3, [9, 15, 5198, 3]), (.iload 5, 2, []), (.invokevirtual 364, 3, [0, 231, 3, 9, 1, 7212, 7214, 92]), (.ifCond .eq 84, 3, []), (.aload_n 0, 1, []), (.getfield 32, 3, [9, 15, 5198, 3]), (.bipush 32, 2, []), (.iload 5, 2, []), (.iadd, 1, [])] 62 _ _ h (by decide +kernel)).trans rfl
set_option maxHeartbeats 4000000 in
theorem bk_268_92 (x0 : Nat) (x1 : Int) (x2 : Int) (x3 : Int) (x4 : Int) (x5 : Int) (y0 : Int) (y1 : Nat) (h : am_H) : am_run am_ms 268 92 [am_R x0, am_I x1, am_I x2, am_I x3, am_I x4, am_I x5] [am_I y0, am_R y1] h = ((am_rd h y1 0 y0).bind fun v1 => (bif decide (v1 = x1) then am_run am_ms 268 100 [am_R x0, am_I x1, am_I x2, am_I x3, am_I x4, am_I x5] [] h else am_run am_ms 268 164 [am_R x0, am_I x1, am_I x2, am_I x3, am_I x4, am_I x5] [] h)) :=
  (am_xs_run am_ms 268 [(.iaload, 1, []), (.iload_n 1, 1, []), (.if_icmp .eq 6, 3, []), (.goto 67, 3, [])] 92 _ _ h (by decide +kernel)).trans rfl
set_option maxHeartbeats 4000000 in
theorem bk_268_100 (x0 : Nat) (x1 : Int) (x2 : Int) (x3 : Int) (x4 : Int) (x5 : Int) (h : am_H) : am_run am_ms 268 100 [am_R x0, am_I x1, am_I x2, am_I x3, am_I x4, am_I x5] [] h = ((am_gfR h x0 9 15).bind fun f1 => ((am_rd h f1 0 (am_w (288 + x5))).bind fun v2 => ((am_gfR h x0 9 15).bind fun f3 => ((am_rd h f3 0 (am_w (288 + x3))).bind fun v4 => (bif decide (v4 < v2) then am_run am_ms 268 156 [am_R x0, am_I x1, am_I x2, am_I x3, am_I x4, am_I x5] [am_I x4] h else am_run am_ms 268 126 [am_R x0, am_I x1, am_I x2, am_I x3, am_I x4, am_I x5] [am_I x4] h))))) :=
  (am_xs_run am_ms 268 [(.iload 4, 2, []), (.aload_n 0, 1, []), (.getfield 32, 3, [9, 15, 5198, 3]), (.sipush 288, 3, []), (.iload 5, 2, []), (.iadd, 1, []), (.iaload, 1, []), (.aload_n 0, 1, []), (.getfield 32, 3, [9, 15, 5198, 3]), (.sipush 288, 3, []), (.iload_n 3, 1, []), (.iadd, 1, []), (.iaload, 1, []), (.if_icmp .gt 33, 3, [])] 100 _ _ h (by decide +kernel)).trans rfl
set_option maxHeartbeats 4000000 in
theorem bk_268_126 (x0 : Nat) (x1 : Int) (x2 : Int) (x3 : Int) (x4 : Int) (x5 : Int) (y0 : Int) (h : am_H) : am_run am_ms 268 126 [am_R x0, am_I x1, am_I x2, am_I x3, am_I x4, am_I x5] [am_I y0] h = ((am_gfR h x0 9 15).bind fun f1 => ((am_rd h f1 0 (am_w (288 + x5))).bind fun v2 => ((am_gfR h x0 9 15).bind fun f3 => ((am_rd h f3 0 (am_w (288 + x3))).bind fun v4 => (bif decide (¬ v2 = v4) then am_run am_ms 268 160 [am_R x0, am_I x1, am_I x2, am_I x3, am_I x4, am_I x5] [am_I y0] h else am_run am_ms 268 152 [am_R x0, am_I x1, am_I x2, am_I x3, am_I x4, am_I x5] [am_I x5, am_I y0] h))))) :=
  (am_xs_run am_ms 268 [(.aload_n 0, 1, []), (.getfield 32, 3, [9, 15, 5198, 3]), (.sipush 288, 3, []), (.iload 5, 2, []), (.iadd, 1, []), (.iaload, 1, []), (.aload_n 0, 1, []), (.getfield 32, 3, [9, 15, 5198, 3]), (.sipush 288, 3, []), (.iload_n 3, 1, []), (.iadd, 1, []), (.iaload, 1, []), (.if_icmp .ne 13, 3, []), (.iload 5, 2, [])] 126 _ _ h (by decide +kernel)).trans rfl
set_option maxHeartbeats 4000000 in
theorem bk_268_152 (x0 : Nat) (x1 : Int) (x2 : Int) (x3 : Int) (x4 : Int) (x5 : Int) (y0 : Int) (y1 : Int) (h : am_H) : am_run am_ms 268 152 [am_R x0, am_I x1, am_I x2, am_I x3, am_I x4, am_I x5] [am_I y0, am_I y1] h = (bif decide (x3 ≤ y0) then am_run am_ms 268 160 [am_R x0, am_I x1, am_I x2, am_I x3, am_I x4, am_I x5] [am_I y1] h else am_run am_ms 268 156 [am_R x0, am_I x1, am_I x2, am_I x3, am_I x4, am_I x5] [am_I y1] h) :=
  (am_xs_run am_ms 268 [(.iload_n 3, 1, []), (.if_icmp .ge 7, 3, [])] 152 _ _ h (by decide +kernel)).trans rfl
set_option maxHeartbeats 4000000 in
theorem bk_268_156 (x0 : Nat) (x1 : Int) (x2 : Int) (x3 : Int) (x4 : Int) (x5 : Int) (y0 : Int) (h : am_H) : am_run am_ms 268 156 [am_R x0, am_I x1, am_I x2, am_I x3, am_I x4, am_I x5] [am_I y0] h = am_run am_ms 268 161 [am_R x0, am_I x1, am_I x2, am_I x3, am_I x4, am_I x5] [am_I 1, am_I y0] h :=
  (am_xs_run am_ms 268 [(.iconst 1, 1, []), (.goto 4, 3, [])] 156 _ _ h (by decide +kernel)).trans rfl
set_option maxHeartbeats 4000000 in
theorem bk_268_160 (x0 : Nat) (x1 : Int) (x2 : Int) (x3 : Int) (x4 : Int) (x5 : Int) (y0 : Int) (h : am_H) : am_run am_ms 268 160 [am_R x0, am_I x1, am_I x2, am_I x3, am_I x4, am_I x5] [am_I y0] h = am_run am_ms 268 161 [am_R x0, am_I x1, am_I x2, am_I x3, am_I x4, am_I x5] [am_I 0, am_I y0] h :=
  (am_xs_run am_ms 268 [(.iconst 0, 1, [])] 160 _ _ h (by decide +kernel)).trans rfl
set_option maxHeartbeats 4000000 in
theorem bk_268_161 (x0 : Nat) (x1 : Int) (x2 : Int) (x3 : Int) (x4 : Int) (x5 : Int) (y0 : Int) (y1 : Int) (h : am_H) : am_run am_ms 268 161 [am_R x0, am_I x1, am_I x2, am_I x3, am_I x4, am_I x5] [am_I y0, am_I y1] h = am_run am_ms 268 164 [am_R x0, am_I x1, am_I x2, am_I x3, am_I (am_w (y1 + y0)), am_I x5] [] h :=
  (am_xs_run am_ms 268 [(.iadd, 1, []), (.istore 4, 2, [])] 161 _ _ h (by decide +kernel)).trans rfl
set_option maxHeartbeats 4000000 in
theorem bk_268_164 (x0 : Nat) (x1 : Int) (x2 : Int) (x3 : Int) (x4 : Int) (x5 : Int) (h : am_H) : am_run am_ms 268 164 [am_R x0, am_I x1, am_I x2, am_I x3, am_I x4, am_I x5] [] h = am_run am_ms 268 62 [am_R x0, am_I x1, am_I x2, am_I x3, am_I x4, am_I (am_w (x5 + 1))] [] h :=
  (am_xs_run am_ms 268 [(.iinc 5 1, 3, []), (.goto (-105), 3, [])] 164 _ _ h (by decide +kernel)).trans rfl
set_option maxHeartbeats 4000000 in
theorem bk_268_170 (x0 : Nat) (x1 : Int) (x2 : Int) (x3 : Int) (x4 : Int) (x5 : Int) (h : am_H) : am_run am_ms 268 170 [am_R x0, am_I x1, am_I x2, am_I x3, am_I x4, am_I x5] [] h = (bif decide (¬ x4 = x2) then am_run am_ms 268 178 [am_R x0, am_I x1, am_I x2, am_I x3, am_I x4, am_I x5] [] h else some (some (am_I x3), h)) :=
  (am_xs_run am_ms 268 [(.iload 4, 2, []), (.iload_n 2, 1, []), (.if_icmp .ne 5, 3, []), (.iload_n 3, 1, []), (.ireturn, 1, [0])] 170 _ _ h (by decide +kernel)).trans rfl
set_option maxHeartbeats 4000000 in
theorem bk_268_178 (x0 : Nat) (x1 : Int) (x2 : Int) (x3 : Int) (x4 : am_V) (x5 : am_V) (h : am_H) : am_run am_ms 268 178 [am_R x0, am_I x1, am_I x2, am_I x3, x4, x5] [] h = am_run am_ms 268 21 [am_R x0, am_I x1, am_I x2, am_I (am_w (x3 + 1)), x4, x5] [] h :=
  (am_xs_run am_ms 268 [(.iinc 3 1, 3, []), (.goto (-160), 3, [])] 178 _ _ h (by decide +kernel)).trans rfl
set_option maxHeartbeats 4000000 in
theorem bk_268_184 (x0 : Nat) (x1 : Int) (x2 : Int) (x3 : Int) (x4 : am_V) (x5 : am_V) (h : am_H) : am_run am_ms 268 184 [am_R x0, am_I x1, am_I x2, am_I x3, x4, x5] [] h = some (some (am_I (-1)), h) :=
  (am_xs_run am_ms 268 [(.iconst (-1), 1, []), (.ireturn, 1, [0])] 184 _ _ h (by decide +kernel)).trans rfl
set_option maxHeartbeats 4000000 in
theorem bk_272_0 (x0 : Nat) (h : am_H) : am_run am_ms 272 0 [am_R x0, am_K 1] [] h = am_run am_ms 272 2 [am_R x0, am_I 0] [] h :=
  (am_xs_run am_ms 272 [(.iconst 0, 1, []), (.istore_n 1, 1, [])] 0 _ _ h (by decide +kernel)).trans rfl
theorem en_272 (x0 : Nat) (h : am_H) : am_call am_ms 272 [am_R x0] h = am_run am_ms 272 0 [am_R x0, am_K 1] [] h := rfl
set_option maxHeartbeats 4000000 in
theorem bk_272_2 (x0 : Nat) (x1 : Int) (h : am_H) : am_run am_ms 272 2 [am_R x0, am_I x1] [] h = (bif decide (128 ≤ x1) then am_run am_ms 272 59 [am_R x0, am_I x1] [] h else ((am_gfR h x0 9 30).bind fun f1 => ((am_gfR h x0 9 15).bind fun f2 => ((am_isc h x0 9).bind fun _ => ((am_cI 231 [am_R x0, am_R f2, am_I x1] h).bind fun r3 => (bif decide (r3.1 = 0) then am_run am_ms 272 51 [am_R x0, am_I x1] [am_I x1, am_R f1] r3.2 else am_run am_ms 272 28 [am_R x0, am_I x1] [am_R x0, am_R x0, am_I x1, am_R f1] r3.2)))))) :=
  (am_xs_run am_ms 272 [(.iload_n 1, 1, []), (.sipush 128, 3, []), (.if_icmp .ge 53, 3, []), (.aload_n 0, 1, []), (.getfield 50, 3, [9, 30, 5213, 3]), (.iload_n 1, 1, []), (.aload_n 0, 1, []), (.aload_n 0, 1, []), (.getfield 32, 3, [9, 15, 5198, 3]), (.iload_n 1, 1, []), (.invokevirtual 364, 3, [0, 231, 3, 9, 1, 7212, 7214, 92]), (.ifCond .eq 28, 3, []), (.aload_n 0, 1, []), (.aload_n 0, 1, [])] 2 _ _ h (by decide +kernel)).trans rfl
set_option maxHeartbeats 4000000 in
theorem bk_272_28 (x0 : Nat) (x1 : Int) (y0 : Nat) (y1 : Nat) (y2 : Int) (y3 : Nat) (h : am_H) : am_run am_ms 272 28 [am_R x0, am_I x1] [am_R y0, am_R y1, am_I y2, am_R y3] h = ((am_gfR h y0 9 15).bind fun f1 => ((am_isc h y1 9).bind fun _ => ((am_cI 114 [am_R y1, am_R f1, am_I x1] h).bind fun r2 => (bif decide (r2.1 = 0) then am_run am_ms 272 51 [am_R x0, am_I x1] [am_I y2, am_R y3] r2.2 else ((am_gfR r2.2 x0 9 15).bind fun f3 => ((am_rd r2.2 f3 0 (am_w (288 + x1))).bind fun v4 => am_run am_ms 272 52 [am_R x0, am_I x1] [am_I v4, am_I y2, am_R y3] r2.2)))))) :=
  (am_xs_run am_ms 272 [(.getfield 32, 3, [9, 15, 5198, 3]), (.iload_n 1, 1, []), (.invokevirtual 188, 3, [0, 114, 3, 9, 1, 6190, 6192, 58]), (.ifCond .eq 16, 3, []), (.aload_n 0, 1, []), (.getfield 32, 3, [9, 15, 5198, 3]), (.sipush 288, 3, []), (.iload_n 1, 1, []), (.iadd, 1, []), (.iaload, 1, []), (.goto 4, 3, [])] 28 _ _ h (by decide +kernel)).trans rfl
set_option maxHeartbeats 4000000 in
theorem bk_272_51 (x0 : Nat) (x1 : Int) (y0 : Int) (y1 : Nat) (h : am_H) : am_run am_ms 272 51 [am_R x0, am_I x1] [am_I y0, am_R y1] h = am_run am_ms 272 52 [am_R x0, am_I x1] [am_I 0, am_I y0, am_R y1] h :=
  (am_xs_run am_ms 272 [(.iconst 0, 1, [])] 51 _ _ h (by decide +kernel)).trans rfl
set_option maxHeartbeats 4000000 in
theorem bk_272_52 (x0 : Nat) (x1 : Int) (y0 : Int) (y1 : Int) (y2 : Nat) (h : am_H) : am_run am_ms 272 52 [am_R x0, am_I x1] [am_I y0, am_I y1, am_R y2] h = ((am_wr h y2 0 y1 y0).bind fun h1 => am_run am_ms 272 2 [am_R x0, am_I (am_w (x1 + 1))] [] h1) :=
  (am_xs_run am_ms 272 [(.iastore, 1, []), (.iinc 1 1, 3, []), (.goto (-54), 3, [])] 52 _ _ h (by decide +kernel)).trans rfl
set_option maxHeartbeats 4000000 in
theorem bk_272_59 (x0 : Nat) (x1 : Int) (h : am_H) : am_run am_ms 272 59 [am_R x0, am_I x1] [] h = some (none, h) :=
  (am_xs_run am_ms 272 [(.return_, 1, [])] 59 _ _ h (by decide +kernel)).trans rfl
set_option maxHeartbeats 4000000 in
theorem bk_273_0 (x0 : Nat) (x1 : Int) (h : am_H) : am_run am_ms 273 0 [am_R x0, am_I x1, am_K 1, am_K 1] [] h = am_run am_ms 273 4 [am_R x0, am_I x1, am_I (-1), am_I 0] [] h :=
  (am_xs_run am_ms 273 [(.iconst (-1), 1, []), (.istore_n 2, 1, []), (.iconst 0, 1, []), (.istore_n 3, 1, [])] 0 _ _ h (by decide +kernel)).trans rfl
theorem en_273 (x0 : Nat) (x1 : Int) (h : am_H) : am_call am_ms 273 [am_R x0, am_I x1] h = am_run am_ms 273 0 [am_R x0, am_I x1, am_K 1, am_K 1] [] h := rfl
set_option maxHeartbeats 4000000 in
theorem bk_273_4 (x0 : Nat) (x1 : Int) (x2 : Int) (x3 : Int) (h : am_H) : am_run am_ms 273 4 [am_R x0, am_I x1, am_I x2, am_I x3] [] h = (bif decide (128 ≤ x3) then am_run am_ms 273 49 [am_R x0, am_I x1, am_I x2, am_I x3] [] h else ((am_gfR h x0 9 30).bind fun f1 => ((am_rd h f1 0 x3).bind fun v2 => (bif decide (v2 ≤ x1) then am_run am_ms 273 43 [am_R x0, am_I x1, am_I x2, am_I x3] [] h else (bif decide (x2 = (-1)) then am_run am_ms 273 41 [am_R x0, am_I x1, am_I x2, am_I x3] [] h else ((am_gfR h x0 9 30).bind fun f3 => am_run am_ms 273 30 [am_R x0, am_I x1, am_I x2, am_I x3] [am_R f3] h)))))) :=
  (am_xs_run am_ms 273 [(.iload_n 3, 1, []), (.sipush 128, 3, []), (.if_icmp .ge 41, 3, []), (.aload_n 0, 1, []), (.getfield 50, 3, [9, 30, 5213, 3]), (.iload_n 3, 1, []), (.iaload, 1, []), (.iload_n 1, 1, []), (.if_icmp .le 25, 3, []), (.iload_n 2, 1, []), (.iconst (-1), 1, []), (.if_icmp .eq 18, 3, []), (.aload_n 0, 1, []), (.getfield 50, 3, [9, 30, 5213, 3])] 4 _ _ h (by decide +kernel)).trans rfl
set_option maxHeartbeats 4000000 in
theorem bk_273_30 (x0 : Nat) (x1 : Int) (x2 : Int) (x3 : Int) (y0 : Nat) (h : am_H) : am_run am_ms 273 30 [am_R x0, am_I x1, am_I x2, am_I x3] [am_R y0] h = ((am_rd h y0 0 x3).bind fun v1 => ((am_gfR h x0 9 30).bind fun f2 => ((am_rd h f2 0 x2).bind fun v3 => (bif decide (v3 ≤ v1) then am_run am_ms 273 43 [am_R x0, am_I x1, am_I x2, am_I x3] [] h else am_run am_ms 273 41 [am_R x0, am_I x1, am_I x2, am_I x3] [] h)))) :=
  (am_xs_run am_ms 273 [(.iload_n 3, 1, []), (.iaload, 1, []), (.aload_n 0, 1, []), (.getfield 50, 3, [9, 30, 5213, 3]), (.iload_n 2, 1, []), (.iaload, 1, []), (.if_icmp .ge 5, 3, [])] 30 _ _ h (by decide +kernel)).trans rfl
set_option maxHeartbeats 4000000 in
theorem bk_273_41 (x0 : Nat) (x1 : Int) (x2 : Int) (x3 : Int) (h : am_H) : am_run am_ms 273 41 [am_R x0, am_I x1, am_I x2, am_I x3] [] h = am_run am_ms 273 43 [am_R x0, am_I x1, am_I x3, am_I x3] [] h :=
  (am_xs_run am_ms 273 [(.iload_n 3, 1, []), (.istore_n 2, 1, [])] 41 _ _ h (by decide +kernel)).trans rfl
set_option maxHeartbeats 4000000 in
theorem bk_273_43 (x0 : Nat) (x1 : Int) (x2 : Int) (x3 : Int) (h : am_H) : am_run am_ms 273 43 [am_R x0, am_I x1, am_I x2, am_I x3] [] h = am_run am_ms 273 4 [am_R x0, am_I x1, am_I x2, am_I (am_w (x3 + 1))] [] h :=
  (am_xs_run am_ms 273 [(.iinc 3 1, 3, []), (.goto (-42), 3, [])] 43 _ _ h (by decide +kernel)).trans rfl
set_option maxHeartbeats 4000000 in
theorem bk_273_49 (x0 : Nat) (x1 : Int) (x2 : Int) (x3 : Int) (h : am_H) : am_run am_ms 273 49 [am_R x0, am_I x1, am_I x2, am_I x3] [] h = some (some (am_I x2), h) :=
  (am_xs_run am_ms 273 [(.iload_n 2, 1, []), (.ireturn, 1, [0])] 49 _ _ h (by decide +kernel)).trans rfl
set_option maxHeartbeats 4000000 in
theorem bk_274_0 (x0 : Nat) (x1 : Int) (h : am_H) : am_run am_ms 274 0 [am_R x0, am_I x1, am_K 1, am_K 1] [] h = ((am_pf h x0 9 0 (am_I 0)).bind fun h1 => ((am_gfI h1 x0 9 14).bind fun f2 => (bif decide (f2 = 0) then am_run am_ms 274 16 [am_R x0, am_I x1, am_K 1, am_K 1] [] h1 else (bif decide (0 ≤ x1) then am_run am_ms 274 18 [am_R x0, am_I x1, am_K 1, am_K 1] [] h1 else am_run am_ms 274 16 [am_R x0, am_I x1, am_K 1, am_K 1] [] h1)))) :=
  (am_xs_run am_ms 274 [(.aload_n 0, 1, []), (.iconst 0, 1, []), (.putfield 53, 3, [9, 0, 5183, 0]), (.aload_n 0, 1, []), (.getfield 155, 3, [9, 14, 5197, 1]), (.ifCond .eq 7, 3, []), (.iload_n 1, 1, []), (.ifCond .ge 5, 3, [])] 0 _ _ h (by decide +kernel)).trans rfl
theorem en_274 (x0 : Nat) (x1 : Int) (h : am_H) : am_call am_ms 274 [am_R x0, am_I x1] h = am_run am_ms 274 0 [am_R x0, am_I x1, am_K 1, am_K 1] [] h := rfl
set_option maxHeartbeats 4000000 in
theorem bk_274_16 (x0 : Nat) (x1 : Int) (h : am_H) : am_run am_ms 274 16 [am_R x0, am_I x1, am_K 1, am_K 1] [] h = some (some (am_I (-1)), h) :=
  (am_xs_run am_ms 274 [(.iconst (-1), 1, []), (.ireturn, 1, [0])] 16 _ _ h (by decide +kernel)).trans rfl
set_option maxHeartbeats 4000000 in
theorem bk_274_18 (x0 : Nat) (x1 : Int) (h : am_H) : am_run am_ms 274 18 [am_R x0, am_I x1, am_K 1, am_K 1] [] h = ((am_isc h x0 9).bind fun _ => ((am_cV 272 [am_R x0] h).bind fun h1 => ((am_isc h1 x0 9).bind fun _ => ((am_cI 273 [am_R x0, am_I 0] h1).bind fun r2 => am_run am_ms 274 30 [am_R x0, am_I x1, am_I r2.1, am_I 0] [] r2.2)))) :=
  (am_xs_run am_ms 274 [(.aload_n 0, 1, []), (.invokevirtual 390, 3, [0, 272, 1, 9, 0, 8038, 8040, 98]), (.aload_n 0, 1, []), (.iconst 0, 1, []), (.invokevirtual 393, 3, [0, 273, 2, 9, 1, 8042, 8044, 99]), (.istore_n 2, 1, []), (.iconst 0, 1, []), (.istore_n 3, 1, [])] 18 _ _ h (by decide +kernel)).trans rfl
set_option maxHeartbeats 4000000 in
theorem bk_274_30 (x0 : Nat) (x1 : Int) (x2 : Int) (x3 : Int) (h : am_H) : am_run am_ms 274 30 [am_R x0, am_I x1, am_I x2, am_I x3] [] h = (bif decide (x1 ≤ x3) then am_run am_ms 274 57 [am_R x0, am_I x1, am_I x2, am_I x3] [] h else (bif decide (x2 = (-1)) then am_run am_ms 274 57 [am_R x0, am_I x1, am_I x2, am_I x3] [] h else ((am_gfR h x0 9 30).bind fun f1 => ((am_rd h f1 0 x2).bind fun v2 => ((am_isc h x0 9).bind fun _ => ((am_cI 273 [am_R x0, am_I v2] h).bind fun r3 => am_run am_ms 274 54 [am_R x0, am_I x1, am_I r3.1, am_I (am_w (x3 + 1))] [] r3.2)))))) :=
  (am_xs_run am_ms 274 [(.iload_n 3, 1, []), (.iload_n 1, 1, []), (.if_icmp .ge 25, 3, []), (.iload_n 2, 1, []), (.iconst (-1), 1, []), (.if_icmp .eq 20, 3, []), (.aload_n 0, 1, []), (.aload_n 0, 1, []), (.getfield 50, 3, [9, 30, 5213, 3]), (.iload_n 2, 1, []), (.iaload, 1, []), (.invokevirtual 393, 3, [0, 273, 2, 9, 1, 8042, 8044, 99]), (.istore_n 2, 1, []), (.iinc 3 1, 3, [])] 30 _ _ h (by decide +kernel)).trans rfl
set_option maxHeartbeats 4000000 in
theorem bk_274_54 (x0 : Nat) (x1 : Int) (x2 : Int) (x3 : Int) (h : am_H) : am_run am_ms 274 54 [am_R x0, am_I x1, am_I x2, am_I x3] [] h = am_run am_ms 274 30 [am_R x0, am_I x1, am_I x2, am_I x3] [] h :=
  (am_xs_run am_ms 274 [(.goto (-24), 3, [])] 54 _ _ h (by decide +kernel)).trans rfl
set_option maxHeartbeats 4000000 in
theorem bk_274_57 (x0 : Nat) (x1 : Int) (x2 : Int) (x3 : Int) (h : am_H) : am_run am_ms 274 57 [am_R x0, am_I x1, am_I x2, am_I x3] [] h = some (some (am_I x2), h) :=
  (am_xs_run am_ms 274 [(.iload_n 2, 1, []), (.ireturn, 1, [0])] 57 _ _ h (by decide +kernel)).trans rfl
set_option maxHeartbeats 4000000 in
theorem bk_277_0 (x0 : Nat) (h : am_H) : am_run am_ms 277 0 [am_R x0, am_K 1, am_K 1, am_K 1, am_K 1] [] h = ((am_pf h x0 9 0 (am_I 0)).bind fun h1 => ((am_gfI h1 x0 9 14).bind fun f2 => (bif decide (¬ f2 = 0) then am_run am_ms 277 14 [am_R x0, am_K 1, am_K 1, am_K 1, am_K 1] [] h1 else some (some (am_I (-1)), h1)))) :=
  (am_xs_run am_ms 277 [(.aload_n 0, 1, []), (.iconst 0, 1, []), (.putfield 53, 3, [9, 0, 5183, 0]), (.aload_n 0, 1, []), (.getfield 155, 3, [9, 14, 5197, 1]), (.ifCond .ne 5, 3, []), (.iconst (-1), 1, []), (.ireturn, 1, [0])] 0 _ _ h (by decide +kernel)).trans rfl
theorem en_277 (x0 : Nat) (h : am_H) : am_call am_ms 277 [am_R x0] h = am_run am_ms 277 0 [am_R x0, am_K 1, am_K 1, am_K 1, am_K 1] [] h := rfl
set_option maxHeartbeats 4000000 in
theorem bk_277_14 (x0 : Nat) (h : am_H) : am_run am_ms 277 14 [am_R x0, am_K 1, am_K 1, am_K 1, am_K 1] [] h = am_run am_ms 277 18 [am_R x0, am_I 0, am_I 1, am_K 1, am_K 1] [] h :=
  (am_xs_run am_ms 277 [(.iconst 0, 1, []), (.istore_n 1, 1, []), (.iconst 1, 1, []), (.istore_n 2, 1, [])] 14 _ _ h (by decide +kernel)).trans rfl
set_option maxHeartbeats 4000000 in
theorem bk_277_18 (x0 : Nat) (x1 : Int) (x2 : Int) (x3 : am_V) (x4 : am_V) (h : am_H) : am_run am_ms 277 18 [am_R x0, am_I x1, am_I x2, x3, x4] [] h = ((am_gfR h x0 9 15).bind fun f1 => ((am_rd h f1 0 419).bind fun v2 => (bif decide (v2 < x2) then am_run am_ms 277 105 [am_R x0, am_I x1, am_I x2, x3, x4] [] h else am_run am_ms 277 35 [am_R x0, am_I x1, am_I x2, am_I 0, am_I 0] [] h))) :=
  (am_xs_run am_ms 277 [(.iload_n 2, 1, []), (.aload_n 0, 1, []), (.getfield 32, 3, [9, 15, 5198, 3]), (.sipush 419, 3, []), (.iaload, 1, []), (.if_icmp .gt 78, 3, []), (.iconst 0, 1, []), (.istore_n 3, 1, []), (.iconst 0, 1, []), (.istore 4, 2, [])] 18 _ _ h (by decide +kernel)).trans rfl
set_option maxHeartbeats 4000000 in
theorem bk_277_35 (x0 : Nat) (x1 : Int) (x2 : Int) (x3 : Int) (x4 : Int) (h : am_H) : am_run am_ms 277 35 [am_R x0, am_I x1, am_I x2, am_I x3, am_I x4] [] h = (bif decide (128 ≤ x4) then am_run am_ms 277 87 [am_R x0, am_I x1, am_I x2, am_I x3, am_I x4] [] h else (bif decide (¬ x3 = 0) then am_run am_ms 277 87 [am_R x0, am_I x1, am_I x2, am_I x3, am_I x4] [] h else ((am_gfR h x0 9 15).bind fun f1 => ((am_isc h x0 9).bind fun _ => ((am_cI 231 [am_R x0, am_R f1, am_I x4] h).bind fun r2 => (bif decide (r2.1 = 0) then am_run am_ms 277 79 [am_R x0, am_I x1, am_I x2, am_I x3, am_I x4] [] r2.2 else ((am_gfR r2.2 x0 9 15).bind fun f3 => am_run am_ms 277 67 [am_R x0, am_I x1, am_I x2, am_I x3, am_I x4] [am_I 288, am_R f3] r2.2))))))) :=
  (am_xs_run am_ms 277 [(.iload 4, 2, []), (.sipush 128, 3, []), (.if_icmp .ge 47, 3, []), (.iload_n 3, 1, []), (.ifCond .ne 43, 3, []), (.aload_n 0, 1, []), (.aload_n 0, 1, []), (.getfield 32, 3, [9, 15, 5198, 3]), (.iload 4, 2, []), (.invokevirtual 364, 3, [0, 231, 3, 9, 1, 7212, 7214, 92]), (.ifCond .eq 22, 3, []), (.aload_n 0, 1, []), (.getfield 32, 3, [9, 15, 5198, 3]), (.sipush 288, 3, [])] 35 _ _ h (by decide +kernel)).trans rfl
set_option maxHeartbeats 4000000 in
theorem bk_277_67 (x0 : Nat) (x1 : Int) (x2 : Int) (x3 : Int) (x4 : Int) (y0 : Int) (y1 : Nat) (h : am_H) : am_run am_ms 277 67 [am_R x0, am_I x1, am_I x2, am_I x3, am_I x4] [am_I y0, am_R y1] h = ((am_rd h y1 0 (am_w (y0 + x4))).bind fun v1 => (bif decide (¬ v1 = x2) then am_run am_ms 277 79 [am_R x0, am_I x1, am_I x2, am_I x3, am_I x4] [] h else am_run am_ms 277 80 [am_R x0, am_I x1, am_I x2, am_I x3, am_I x4] [am_I 1] h)) :=
  (am_xs_run am_ms 277 [(.iload 4, 2, []), (.iadd, 1, []), (.iaload, 1, []), (.iload_n 2, 1, []), (.if_icmp .ne 7, 3, []), (.iconst 1, 1, []), (.goto 4, 3, [])] 67 _ _ h (by decide +kernel)).trans rfl
set_option maxHeartbeats 4000000 in
theorem bk_277_79 (x0 : Nat) (x1 : Int) (x2 : Int) (x3 : Int) (x4 : Int) (h : am_H) : am_run am_ms 277 79 [am_R x0, am_I x1, am_I x2, am_I x3, am_I x4] [] h = am_run am_ms 277 80 [am_R x0, am_I x1, am_I x2, am_I x3, am_I x4] [am_I 0] h :=
  (am_xs_run am_ms 277 [(.iconst 0, 1, [])] 79 _ _ h (by decide +kernel)).trans rfl
set_option maxHeartbeats 4000000 in
theorem bk_277_80 (x0 : Nat) (x1 : Int) (x2 : Int) (x3 : Int) (x4 : Int) (y0 : Int) (h : am_H) : am_run am_ms 277 80 [am_R x0, am_I x1, am_I x2, am_I x3, am_I x4] [am_I y0] h = am_run am_ms 277 35 [am_R x0, am_I x1, am_I x2, am_I y0, am_I (am_w (x4 + 1))] [] h :=
  (am_xs_run am_ms 277 [(.istore_n 3, 1, []), (.iinc 4 1, 3, []), (.goto (-49), 3, [])] 80 _ _ h (by decide +kernel)).trans rfl
set_option maxHeartbeats 4000000 in
theorem bk_277_87 (x0 : Nat) (x1 : Int) (x2 : Int) (x3 : Int) (x4 : Int) (h : am_H) : am_run am_ms 277 87 [am_R x0, am_I x1, am_I x2, am_I x3, am_I x4] [] h = (bif decide (x3 = 0) then am_run am_ms 277 96 [am_R x0, am_I x1, am_I x2, am_I x3, am_I x4] [am_I x1] h else am_run am_ms 277 97 [am_R x0, am_I x1, am_I x2, am_I x3, am_I x4] [am_I 0, am_I x1] h) :=
  (am_xs_run am_ms 277 [(.iload_n 1, 1, []), (.iload_n 3, 1, []), (.ifCond .eq 7, 3, []), (.iconst 0, 1, []), (.goto 4, 3, [])] 87 _ _ h (by decide +kernel)).trans rfl
set_option maxHeartbeats 4000000 in
theorem bk_277_96 (x0 : Nat) (x1 : Int) (x2 : Int) (x3 : Int) (x4 : Int) (y0 : Int) (h : am_H) : am_run am_ms 277 96 [am_R x0, am_I x1, am_I x2, am_I x3, am_I x4] [am_I y0] h = am_run am_ms 277 97 [am_R x0, am_I x1, am_I x2, am_I x3, am_I x4] [am_I 1, am_I y0] h :=
  (am_xs_run am_ms 277 [(.iconst 1, 1, [])] 96 _ _ h (by decide +kernel)).trans rfl
set_option maxHeartbeats 4000000 in
theorem bk_277_97 (x0 : Nat) (x1 : Int) (x2 : Int) (x3 : Int) (x4 : Int) (y0 : Int) (y1 : Int) (h : am_H) : am_run am_ms 277 97 [am_R x0, am_I x1, am_I x2, am_I x3, am_I x4] [am_I y0, am_I y1] h = am_run am_ms 277 18 [am_R x0, am_I (am_w (y1 + y0)), am_I (am_w (x2 + 1)), am_I x3, am_I x4] [] h :=
  (am_xs_run am_ms 277 [(.iadd, 1, []), (.istore_n 1, 1, []), (.iinc 2 1, 3, []), (.goto (-84), 3, [])] 97 _ _ h (by decide +kernel)).trans rfl
set_option maxHeartbeats 4000000 in
theorem bk_277_105 (x0 : Nat) (x1 : Int) (x2 : Int) (x3 : am_V) (x4 : am_V) (h : am_H) : am_run am_ms 277 105 [am_R x0, am_I x1, am_I x2, x3, x4] [] h = some (some (am_I x1), h) :=
  (am_xs_run am_ms 277 [(.iload_n 1, 1, []), (.ireturn, 1, [0])] 105 _ _ h (by decide +kernel)).trans rfl
set_option maxHeartbeats 4000000 in
theorem bk_279_0 (x0 : Nat) (x1 : Int) (h : am_H) : am_run am_ms 279 0 [am_R x0, am_I x1, am_K 1] [] h = ((am_pf h x0 9 0 (am_I 0)).bind fun h1 => ((am_isc h1 x0 9).bind fun _ => ((am_cI 146 [am_R x0, am_I x1] h1).bind fun r2 => (bif decide (¬ r2.1 = 0) then am_run am_ms 279 15 [am_R x0, am_I x1, am_K 1] [] r2.2 else some (some (am_I (-1)), r2.2))))) :=
  (am_xs_run am_ms 279 [(.aload_n 0, 1, []), (.iconst 0, 1, []), (.putfield 53, 3, [9, 0, 5183, 0]), (.aload_n 0, 1, []), (.iload_n 1, 1, []), (.invokevirtual 286, 3, [0, 146, 2, 9, 1, 7038, 7040, 78]), (.ifCond .ne 5, 3, []), (.iconst (-1), 1, []), (.ireturn, 1, [0])] 0 _ _ h (by decide +kernel)).trans rfl
theorem en_279 (x0 : Nat) (x1 : Int) (h : am_H) : am_call am_ms 279 [am_R x0, am_I x1] h = am_run am_ms 279 0 [am_R x0, am_I x1, am_K 1] [] h := rfl
set_option maxHeartbeats 4000000 in
theorem bk_279_15 (x0 : Nat) (x1 : Int) (h : am_H) : am_run am_ms 279 15 [am_R x0, am_I x1, am_K 1] [] h = ((am_gfR h x0 9 15).bind fun f1 => ((am_gfR h x0 9 16).bind fun f2 => ((am_cV 108 [am_R f1, am_I 0, am_R f2, am_I 0] h).bind fun h3 => am_run am_ms 279 30 [am_R x0, am_I x1, am_I 0] [] h3))) :=
  (am_xs_run am_ms 279 [(.aload_n 0, 1, []), (.getfield 32, 3, [9, 15, 5198, 3]), (.iconst 0, 1, []), (.aload_n 0, 1, []), (.getfield 35, 3, [9, 16, 5199, 3]), (.iconst 0, 1, []), (.invokestatic 259, 3, [1, 108, 4, 0, 0, 6155, 6156]), (.iconst 0, 1, []), (.istore_n 2, 1, [])] 15 _ _ h (by decide +kernel)).trans rfl
set_option maxHeartbeats 4000000 in
theorem bk_279_30 (x0 : Nat) (x1 : Int) (x2 : Int) (h : am_H) : am_run am_ms 279 30 [am_R x0, am_I x1, am_I x2] [] h = (bif decide (200 ≤ x2) then am_run am_ms 279 56 [am_R x0, am_I x1, am_I x2] [] h else ((am_gfR h x0 9 16).bind fun f1 => ((am_isc h x0 9).bind fun _ => ((am_cI 135 [am_R x0, am_R f1, am_I x1, am_I 0] h).bind fun r2 => (bif decide (r2.1 = 0) then am_run am_ms 279 56 [am_R x0, am_I x1, am_I x2] [] r2.2 else am_run am_ms 279 30 [am_R x0, am_I x1, am_I (am_w (x2 + 1))] [] r2.2))))) :=
  (am_xs_run am_ms 279 [(.iload_n 2, 1, []), (.sipush 200, 3, []), (.if_icmp .ge 22, 3, []), (.aload_n 0, 1, []), (.aload_n 0, 1, []), (.getfield 35, 3, [9, 16, 5199, 3]), (.iload_n 1, 1, []), (.iconst 0, 1, []), (.invokevirtual 161, 3, [0, 135, 4, 9, 1, 6151, 6153, 49]), (.ifCond .eq 9, 3, []), (.iinc 2 1, 3, []), (.goto (-23), 3, [])] 30 _ _ h (by decide +kernel)).trans rfl
set_option maxHeartbeats 4000000 in
theorem bk_279_56 (x0 : Nat) (x1 : Int) (x2 : Int) (h : am_H) : am_run am_ms 279 56 [am_R x0, am_I x1, am_I x2] [] h = some (some (am_I x2), h) :=
  (am_xs_run am_ms 279 [(.iload_n 2, 1, []), (.ireturn, 1, [0])] 56 _ _ h (by decide +kernel)).trans rfl
set_option maxHeartbeats 4000000 in
theorem bk_281_0 (x0 : Nat) (h : am_H) : am_run am_ms 281 0 [am_R x0, am_K 1, am_K 1] [] h = am_run am_ms 281 4 [am_R x0, am_I 0, am_I 0] [] h :=
  (am_xs_run am_ms 281 [(.iconst 0, 1, []), (.istore_n 1, 1, []), (.iconst 0, 1, []), (.istore_n 2, 1, [])] 0 _ _ h (by decide +kernel)).trans rfl
theorem en_281 (x0 : Nat) (h : am_H) : am_call am_ms 281 [am_R x0] h = am_run am_ms 281 0 [am_R x0, am_K 1, am_K 1] [] h := rfl
set_option maxHeartbeats 4000000 in
theorem bk_281_4 (x0 : Nat) (x1 : Int) (x2 : Int) (h : am_H) : am_run am_ms 281 4 [am_R x0, am_I x1, am_I x2] [] h = ((am_gfR h x0 9 6).bind fun f1 => ((am_rd h f1 0 0).bind fun v2 => (bif decide (v2 ≤ x2) then am_run am_ms 281 32 [am_R x0, am_I x1, am_I x2] [] h else ((am_gfR h x0 9 15).bind fun f3 => ((am_rd h f3 0 (am_w (8 + x2))).bind fun v4 => am_run am_ms 281 25 [am_R x0, am_I x1, am_I x2] [am_I (am_w (x1 + v4))] h))))) :=
  (am_xs_run am_ms 281 [(.iload_n 2, 1, []), (.aload_n 0, 1, []), (.getfield 17, 3, [9, 6, 5189, 3]), (.iconst 0, 1, []), (.iaload, 1, []), (.if_icmp .ge 21, 3, []), (.iload_n 1, 1, []), (.aload_n 0, 1, []), (.getfield 32, 3, [9, 15, 5198, 3]), (.bipush 8, 2, []), (.iload_n 2, 1, []), (.iadd, 1, []), (.iaload, 1, []), (.iadd, 1, [])] 4 _ _ h (by decide +kernel)).trans rfl
set_option maxHeartbeats 4000000 in
theorem bk_281_25 (x0 : Nat) (x1 : Int) (x2 : Int) (y0 : Int) (h : am_H) : am_run am_ms 281 25 [am_R x0, am_I x1, am_I x2] [am_I y0] h = am_run am_ms 281 4 [am_R x0, am_I y0, am_I (am_w (x2 + 1))] [] h :=
  (am_xs_run am_ms 281 [(.istore_n 1, 1, []), (.iinc 2 1, 3, []), (.goto (-25), 3, [])] 25 _ _ h (by decide +kernel)).trans rfl
set_option maxHeartbeats 4000000 in
theorem bk_281_32 (x0 : Nat) (x1 : Int) (x2 : Int) (h : am_H) : am_run am_ms 281 32 [am_R x0, am_I x1, am_I x2] [] h = some (some (am_I x1), h) :=
  (am_xs_run am_ms 281 [(.iload_n 1, 1, []), (.ireturn, 1, [0])] 32 _ _ h (by decide +kernel)).trans rfl
set_option maxHeartbeats 4000000 in
theorem bk_282_0 (x0 : Nat) (x1 : Int) (x2 : Int) (h : am_H) : am_run am_ms 282 0 [am_R x0, am_I x1, am_I x2] [] h = ((am_pf h x0 9 0 (am_I 0)).bind fun h1 => ((am_isc h1 x0 9).bind fun _ => ((am_cI 140 [am_R x0, am_I x1] h1).bind fun r2 => (bif decide (r2.1 = 0) then am_run am_ms 282 25 [am_R x0, am_I x1, am_I x2] [] r2.2 else ((am_cI 40 [am_L x2, am_L 0, am_L 999] r2.2).bind fun r3 => (bif decide (¬ r3.1 = 0) then am_run am_ms 282 27 [am_R x0, am_I x1, am_I x2] [] r3.2 else am_run am_ms 282 25 [am_R x0, am_I x1, am_I x2] [] r3.2)))))) :=
  (am_xs_run am_ms 282 [(.aload_n 0, 1, []), (.iconst 0, 1, []), (.putfield 53, 3, [9, 0, 5183, 0]), (.aload_n 0, 1, []), (.iload_n 1, 1, []), (.invokevirtual 295, 3, [0, 140, 2, 9, 1, 7052, 7054, 81]), (.ifCond .eq 15, 3, []), (.iload_n 2, 1, []), (.i2l, 1, []), (.lconst 0, 1, []), (.ldc2_w 290, 3, [0, 999, 7043]), (.invokestatic 96, 3, [1, 40, 3, 0, 1, 6060, 6061]), (.ifCond .ne 5, 3, [])] 0 _ _ h (by decide +kernel)).trans rfl
theorem en_282 (x0 : Nat) (x1 : Int) (x2 : Int) (h : am_H) : am_call am_ms 282 [am_R x0, am_I x1, am_I x2] h = am_run am_ms 282 0 [am_R x0, am_I x1, am_I x2] [] h := rfl
set_option maxHeartbeats 4000000 in
theorem bk_282_25 (x0 : Nat) (x1 : Int) (x2 : Int) (h : am_H) : am_run am_ms 282 25 [am_R x0, am_I x1, am_I x2] [] h = some (some (am_I (-1)), h) :=
  (am_xs_run am_ms 282 [(.iconst (-1), 1, []), (.ireturn, 1, [0])] 25 _ _ h (by decide +kernel)).trans rfl
set_option maxHeartbeats 4000000 in
theorem bk_282_27 (x0 : Nat) (x1 : Int) (x2 : Int) (h : am_H) : am_run am_ms 282 27 [am_R x0, am_I x1, am_I x2] [] h = ((am_isc h x0 9).bind fun _ => ((am_cI 281 [am_R x0] h).bind fun r1 => (bif decide (¬ r1.1 = 0) then am_run am_ms 282 38 [am_R x0, am_I x1, am_I x2] [] r1.2 else am_run am_ms 282 54 [am_R x0, am_I x1, am_I x2] [am_I 0] r1.2))) :=
  (am_xs_run am_ms 282 [(.aload_n 0, 1, []), (.invokevirtual 396, 3, [0, 281, 1, 9, 1, 8058, 8060, 100]), (.ifCond .ne 7, 3, []), (.iconst 0, 1, []), (.goto 19, 3, [])] 27 _ _ h (by decide +kernel)).trans rfl
set_option maxHeartbeats 4000000 in
theorem bk_282_38 (x0 : Nat) (x1 : Int) (x2 : Int) (h : am_H) : am_run am_ms 282 38 [am_R x0, am_I x1, am_I x2] [] h = ((am_gfR h x0 9 15).bind fun f1 => ((am_rd h f1 0 (am_w (8 + x1))).bind fun v2 => ((am_isc h x0 9).bind fun _ => ((am_cI 281 [am_R x0] h).bind fun r3 => (if r3.1 = 0 then none else am_run am_ms 282 54 [am_R x0, am_I x1, am_I x2] [am_I (am_div (am_w (x2 * v2)) r3.1)] r3.2))))) :=
  (am_xs_run am_ms 282 [(.iload_n 2, 1, []), (.aload_n 0, 1, []), (.getfield 32, 3, [9, 15, 5198, 3]), (.bipush 8, 2, []), (.iload_n 1, 1, []), (.iadd, 1, []), (.iaload, 1, []), (.imul, 1, []), (.aload_n 0, 1, []), (.invokevirtual 396, 3, [0, 281, 1, 9, 1, 8058, 8060, 100]), (.idiv, 1, [])] 38 _ _ h (by decide +kernel)).trans rfl
set_option maxHeartbeats 4000000 in
theorem bk_282_54 (x0 : Nat) (x1 : Int) (x2 : Int) (y0 : Int) (h : am_H) : am_run am_ms 282 54 [am_R x0, am_I x1, am_I x2] [am_I y0] h = some (some (am_I y0), h) :=
  (am_xs_run am_ms 282 [(.ireturn, 1, [0])] 54 _ _ h (by decide +kernel)).trans rfl
set_option maxHeartbeats 4000000 in
theorem bk_291_0 (x0 : Nat) (h : am_H) : am_run am_ms 291 0 [am_R x0, am_K 1, am_K 1] [] h = am_run am_ms 291 4 [am_R x0, am_I (-1), am_I 0] [] h :=
  (am_xs_run am_ms 291 [(.iconst (-1), 1, []), (.istore_n 1, 1, []), (.iconst 0, 1, []), (.istore_n 2, 1, [])] 0 _ _ h (by decide +kernel)).trans rfl
theorem en_291 (x0 : Nat) (h : am_H) : am_call am_ms 291 [am_R x0] h = am_run am_ms 291 0 [am_R x0, am_K 1, am_K 1] [] h := rfl
set_option maxHeartbeats 4000000 in
theorem bk_291_4 (x0 : Nat) (x1 : Int) (x2 : Int) (h : am_H) : am_run am_ms 291 4 [am_R x0, am_I x1, am_I x2] [] h = ((am_gfR h x0 9 6).bind fun f1 => ((am_rd h f1 0 0).bind fun v2 => (bif decide (v2 ≤ x2) then am_run am_ms 291 60 [am_R x0, am_I x1, am_I x2] [] h else ((am_gfR h x0 9 15).bind fun f3 => ((am_rd h f3 0 (am_w (0 + x2))).bind fun v4 => (bif decide (¬ v4 = 3) then am_run am_ms 291 54 [am_R x0, am_I x1, am_I x2] [] h else am_run am_ms 291 26 [am_R x0, am_I x1, am_I x2] [] h)))))) :=
  (am_xs_run am_ms 291 [(.iload_n 2, 1, []), (.aload_n 0, 1, []), (.getfield 17, 3, [9, 6, 5189, 3]), (.iconst 0, 1, []), (.iaload, 1, []), (.if_icmp .ge 49, 3, []), (.aload_n 0, 1, []), (.getfield 32, 3, [9, 15, 5198, 3]), (.iconst 0, 1, []), (.iload_n 2, 1, []), (.iadd, 1, []), (.iaload, 1, []), (.iconst 3, 1, []), (.if_icmp .ne 31, 3, [])] 4 _ _ h (by decide +kernel)).trans rfl
set_option maxHeartbeats 4000000 in
theorem bk_291_26 (x0 : Nat) (x1 : Int) (x2 : Int) (h : am_H) : am_run am_ms 291 26 [am_R x0, am_I x1, am_I x2] [] h = (bif decide (x1 = (-1)) then am_run am_ms 291 52 [am_R x0, am_I x1, am_I x2] [] h else ((am_gfR h x0 9 15).bind fun f1 => ((am_isc h x0 9).bind fun _ => ((am_cI 116 [am_R x0, am_R f1, am_I x2] h).bind fun r2 => ((am_gfR r2.2 x0 9 15).bind fun f3 => ((am_isc r2.2 x0 9).bind fun _ => ((am_cI 116 [am_R x0, am_R f3, am_I x1] r2.2).bind fun r4 => (bif decide (r2.1 ≤ r4.1) then am_run am_ms 291 54 [am_R x0, am_I x1, am_I x2] [] r4.2 else am_run am_ms 291 52 [am_R x0, am_I x1, am_I x2] [] r4.2)))))))) :=
  (am_xs_run am_ms 291 [(.iload_n 1, 1, []), (.iconst (-1), 1, []), (.if_icmp .eq 24, 3, []), (.aload_n 0, 1, []), (.aload_n 0, 1, []), (.getfield 32, 3, [9, 15, 5198, 3]), (.iload_n 2, 1, []), (.invokevirtual 240, 3, [0, 116, 3, 9, 1, 6182, 6184, 56]), (.aload_n 0, 1, []), (.aload_n 0, 1, []), (.getfield 32, 3, [9, 15, 5198, 3]), (.iload_n 1, 1, []), (.invokevirtual 240, 3, [0, 116, 3, 9, 1, 6182, 6184, 56]), (.if_icmp .le 5, 3, [])] 26 _ _ h (by decide +kernel)).trans rfl
set_option maxHeartbeats 4000000 in
theorem bk_291_52 (x0 : Nat) (x1 : Int) (x2 : Int) (h : am_H) : am_run am_ms 291 52 [am_R x0, am_I x1, am_I x2] [] h = am_run am_ms 291 54 [am_R x0, am_I x2, am_I x2] [] h :=
  (am_xs_run am_ms 291 [(.iload_n 2, 1, []), (.istore_n 1, 1, [])] 52 _ _ h (by decide +kernel)).trans rfl
set_option maxHeartbeats 4000000 in
theorem bk_291_54 (x0 : Nat) (x1 : Int) (x2 : Int) (h : am_H) : am_run am_ms 291 54 [am_R x0, am_I x1, am_I x2] [] h = am_run am_ms 291 4 [am_R x0, am_I x1, am_I (am_w (x2 + 1))] [] h :=
  (am_xs_run am_ms 291 [(.iinc 2 1, 3, []), (.goto (-53), 3, [])] 54 _ _ h (by decide +kernel)).trans rfl
set_option maxHeartbeats 4000000 in
theorem bk_291_60 (x0 : Nat) (x1 : Int) (x2 : Int) (h : am_H) : am_run am_ms 291 60 [am_R x0, am_I x1, am_I x2] [] h = some (some (am_I x1), h) :=
  (am_xs_run am_ms 291 [(.iload_n 1, 1, []), (.ireturn, 1, [0])] 60 _ _ h (by decide +kernel)).trans rfl
set_option maxHeartbeats 4000000 in
theorem bk_292_0 (x0 : Nat) (h : am_H) : am_run am_ms 292 0 [am_R x0, am_K 1, am_K 1] [] h = am_run am_ms 292 4 [am_R x0, am_I 0, am_I 1] [] h :=
  (am_xs_run am_ms 292 [(.iconst 0, 1, []), (.istore_n 1, 1, []), (.iconst 1, 1, []), (.istore_n 2, 1, [])] 0 _ _ h (by decide +kernel)).trans rfl
theorem en_292 (x0 : Nat) (h : am_H) : am_call am_ms 292 [am_R x0] h = am_run am_ms 292 0 [am_R x0, am_K 1, am_K 1] [] h := rfl
set_option maxHeartbeats 4000000 in
theorem bk_292_4 (x0 : Nat) (x1 : Int) (x2 : Int) (h : am_H) : am_run am_ms 292 4 [am_R x0, am_I x1, am_I x2] [] h = ((am_gfR h x0 9 6).bind fun f1 => ((am_rd h f1 0 0).bind fun v2 => (bif decide (v2 ≤ x2) then am_run am_ms 292 43 [am_R x0, am_I x1, am_I x2] [] h else ((am_gfR h x0 9 15).bind fun f3 => ((am_rd h f3 0 (am_w (16 + x2))).bind fun v4 => ((am_gfR h x0 9 15).bind fun f5 => am_run am_ms 292 27 [am_R x0, am_I x1, am_I x2] [am_R f5, am_I v4] h)))))) :=
  (am_xs_run am_ms 292 [(.iload_n 2, 1, []), (.aload_n 0, 1, []), (.getfield 17, 3, [9, 6, 5189, 3]), (.iconst 0, 1, []), (.iaload, 1, []), (.if_icmp .ge 32, 3, []), (.aload_n 0, 1, []), (.getfield 32, 3, [9, 15, 5198, 3]), (.bipush 16, 2, []), (.iload_n 2, 1, []), (.iadd, 1, []), (.iaload, 1, []), (.aload_n 0, 1, []), (.getfield 32, 3, [9, 15, 5198, 3])] 4 _ _ h (by decide +kernel)).trans rfl
set_option maxHeartbeats 4000000 in
theorem bk_292_27 (x0 : Nat) (x1 : Int) (x2 : Int) (y0 : Nat) (y1 : Int) (h : am_H) : am_run am_ms 292 27 [am_R x0, am_I x1, am_I x2] [am_R y0, am_I y1] h = ((am_rd h y0 0 (am_w (16 + x1))).bind fun v1 => (bif decide (y1 ≤ v1) then am_run am_ms 292 37 [am_R x0, am_I x1, am_I x2] [] h else am_run am_ms 292 37 [am_R x0, am_I x2, am_I x2] [] h)) :=
  (am_xs_run am_ms 292 [(.bipush 16, 2, []), (.iload_n 1, 1, []), (.iadd, 1, []), (.iaload, 1, []), (.if_icmp .le 5, 3, []), (.iload_n 2, 1, []), (.istore_n 1, 1, [])] 27 _ _ h (by decide +kernel)).trans rfl
set_option maxHeartbeats 4000000 in
theorem bk_292_37 (x0 : Nat) (x1 : Int) (x2 : Int) (h : am_H) : am_run am_ms 292 37 [am_R x0, am_I x1, am_I x2] [] h = am_run am_ms 292 4 [am_R x0, am_I x1, am_I (am_w (x2 + 1))] [] h :=
  (am_xs_run am_ms 292 [(.iinc 2 1, 3, []), (.goto (-36), 3, [])] 37 _ _ h (by decide +kernel)).trans rfl
set_option maxHeartbeats 4000000 in
theorem bk_292_43 (x0 : Nat) (x1 : Int) (x2 : Int) (h : am_H) : am_run am_ms 292 43 [am_R x0, am_I x1, am_I x2] [] h = some (some (am_I x1), h) :=
  (am_xs_run am_ms 292 [(.iload_n 1, 1, []), (.ireturn, 1, [0])] 43 _ _ h (by decide +kernel)).trans rfl
set_option maxHeartbeats 4000000 in
theorem bk_293_0 (x0 : Nat) (h : am_H) : am_run am_ms 293 0 [am_R x0, am_K 1] [] h = ((am_isc h x0 9).bind fun _ => ((am_cV 272 [am_R x0] h).bind fun h1 => ((am_isc h1 x0 9).bind fun _ => ((am_cI 273 [am_R x0, am_I 0] h1).bind fun r2 => (bif decide (¬ r2.1 = (-1)) then am_run am_ms 293 19 [am_R x0, am_I r2.1] [] r2.2 else am_run am_ms 293 23 [am_R x0, am_I r2.1] [am_I (-1)] r2.2))))) :=
  (am_xs_run am_ms 293 [(.aload_n 0, 1, []), (.invokevirtual 390, 3, [0, 272, 1, 9, 0, 8038, 8040, 98]), (.aload_n 0, 1, []), (.iconst 0, 1, []), (.invokevirtual 393, 3, [0, 273, 2, 9, 1, 8042, 8044, 99]), (.istore_n 1, 1, []), (.iload_n 1, 1, []), (.iconst (-1), 1, []), (.if_icmp .ne 7, 3, []), (.iconst (-1), 1, []), (.goto 7, 3, [])] 0 _ _ h (by decide +kernel)).trans rfl
theorem en_293 (x0 : Nat) (h : am_H) : am_call am_ms 293 [am_R x0] h = am_run am_ms 293 0 [am_R x0, am_K 1] [] h := rfl
set_option maxHeartbeats 4000000 in
theorem bk_293_19 (x0 : Nat) (x1 : Int) (h : am_H) : am_run am_ms 293 19 [am_R x0, am_I x1] [] h = (if 16 = 0 then none else am_run am_ms 293 23 [am_R x0, am_I x1] [am_I (am_div x1 16)] h) :=
  (am_xs_run am_ms 293 [(.iload_n 1, 1, []), (.bipush 16, 2, []), (.idiv, 1, [])] 19 _ _ h (by decide +kernel)).trans rfl
set_option maxHeartbeats 4000000 in
theorem bk_293_23 (x0 : Nat) (x1 : Int) (y0 : Int) (h : am_H) : am_run am_ms 293 23 [am_R x0, am_I x1] [am_I y0] h = some (some (am_I y0), h) :=
  (am_xs_run am_ms 293 [(.ireturn, 1, [0])] 23 _ _ h (by decide +kernel)).trans rfl
set_option maxHeartbeats 4000000 in
theorem bk_294_0 (x0 : Nat) (x1 : Int) (x2 : Int) (h : am_H) : am_run am_ms 294 0 [am_R x0, am_I x1, am_I x2, am_K 1, am_K 1] [] h = am_run am_ms 294 5 [am_R x0, am_I x1, am_I x2, am_I 0, am_I 0] [] h :=
  (am_xs_run am_ms 294 [(.iconst 0, 1, []), (.istore_n 3, 1, []), (.iconst 0, 1, []), (.istore 4, 2, [])] 0 _ _ h (by decide +kernel)).trans rfl
theorem en_294 (x0 : Nat) (x1 : Int) (x2 : Int) (h : am_H) : am_call am_ms 294 [am_R x0, am_I x1, am_I x2] h = am_run am_ms 294 0 [am_R x0, am_I x1, am_I x2, am_K 1, am_K 1] [] h := rfl
set_option maxHeartbeats 4000000 in
theorem bk_294_5 (x0 : Nat) (x1 : Int) (x2 : Int) (x3 : Int) (x4 : Int) (h : am_H) : am_run am_ms 294 5 [am_R x0, am_I x1, am_I x2, am_I x3, am_I x4] [] h = ((am_gfR h x0 9 6).bind fun f1 => ((am_rd h f1 0 0).bind fun v2 => (bif decide (v2 ≤ x4) then am_run am_ms 294 59 [am_R x0, am_I x1, am_I x2, am_I x3, am_I x4] [] h else ((am_gfR h x0 9 15).bind fun f3 => ((am_rd h f3 0 (am_w (0 + x4))).bind fun v4 => am_run am_ms 294 27 [am_R x0, am_I x1, am_I x2, am_I x3, am_I x4] [am_I x1, am_I v4, am_I x3] h))))) :=
  (am_xs_run am_ms 294 [(.iload 4, 2, []), (.aload_n 0, 1, []), (.getfield 17, 3, [9, 6, 5189, 3]), (.iconst 0, 1, []), (.iaload, 1, []), (.if_icmp .ge 46, 3, []), (.iload_n 3, 1, []), (.aload_n 0, 1, []), (.getfield 32, 3, [9, 15, 5198, 3]), (.iconst 0, 1, []), (.iload 4, 2, []), (.iadd, 1, []), (.iaload, 1, []), (.iload_n 1, 1, [])] 5 _ _ h (by decide +kernel)).trans rfl
set_option maxHeartbeats 4000000 in
theorem bk_294_27 (x0 : Nat) (x1 : Int) (x2 : Int) (x3 : Int) (x4 : Int) (y0 : Int) (y1 : Int) (y2 : Int) (h : am_H) : am_run am_ms 294 27 [am_R x0, am_I x1, am_I x2, am_I x3, am_I x4] [am_I y0, am_I y1, am_I y2] h = (bif decide (y1 = y0) then am_run am_ms 294 43 [am_R x0, am_I x1, am_I x2, am_I x3, am_I x4] [am_I y2] h else ((am_gfR h x0 9 15).bind fun f1 => ((am_rd h f1 0 (am_w (0 + x4))).bind fun v2 => (bif decide (¬ v2 = x2) then am_run am_ms 294 50 [am_R x0, am_I x1, am_I x2, am_I x3, am_I x4] [am_I y2] h else am_run am_ms 294 43 [am_R x0, am_I x1, am_I x2, am_I x3, am_I x4] [am_I y2] h)))) :=
  (am_xs_run am_ms 294 [(.if_icmp .eq 16, 3, []), (.aload_n 0, 1, []), (.getfield 32, 3, [9, 15, 5198, 3]), (.iconst 0, 1, []), (.iload 4, 2, []), (.iadd, 1, []), (.iaload, 1, []), (.iload_n 2, 1, []), (.if_icmp .ne 10, 3, [])] 27 _ _ h (by decide +kernel)).trans rfl
set_option maxHeartbeats 4000000 in
theorem bk_294_43 (x0 : Nat) (x1 : Int) (x2 : Int) (x3 : Int) (x4 : Int) (y0 : Int) (h : am_H) : am_run am_ms 294 43 [am_R x0, am_I x1, am_I x2, am_I x3, am_I x4] [am_I y0] h = am_run am_ms 294 51 [am_R x0, am_I x1, am_I x2, am_I x3, am_I x4] [am_I (am_shl 1 x4), am_I y0] h :=
  (am_xs_run am_ms 294 [(.iconst 1, 1, []), (.iload 4, 2, []), (.ishl, 1, []), (.goto 4, 3, [])] 43 _ _ h (by decide +kernel)).trans rfl
set_option maxHeartbeats 4000000 in
theorem bk_294_50 (x0 : Nat) (x1 : Int) (x2 : Int) (x3 : Int) (x4 : Int) (y0 : Int) (h : am_H) : am_run am_ms 294 50 [am_R x0, am_I x1, am_I x2, am_I x3, am_I x4] [am_I y0] h = am_run am_ms 294 51 [am_R x0, am_I x1, am_I x2, am_I x3, am_I x4] [am_I 0, am_I y0] h :=
  (am_xs_run am_ms 294 [(.iconst 0, 1, [])] 50 _ _ h (by decide +kernel)).trans rfl
set_option maxHeartbeats 4000000 in
theorem bk_294_51 (x0 : Nat) (x1 : Int) (x2 : Int) (x3 : Int) (x4 : Int) (y0 : Int) (y1 : Int) (h : am_H) : am_run am_ms 294 51 [am_R x0, am_I x1, am_I x2, am_I x3, am_I x4] [am_I y0, am_I y1] h = am_run am_ms 294 5 [am_R x0, am_I x1, am_I x2, am_I (am_or y1 y0), am_I (am_w (x4 + 1))] [] h :=
  (am_xs_run am_ms 294 [(.ior, 1, []), (.istore_n 3, 1, []), (.iinc 4 1, 3, []), (.goto (-51), 3, [])] 51 _ _ h (by decide +kernel)).trans rfl
set_option maxHeartbeats 4000000 in
theorem bk_294_59 (x0 : Nat) (x1 : Int) (x2 : Int) (x3 : Int) (x4 : Int) (h : am_H) : am_run am_ms 294 59 [am_R x0, am_I x1, am_I x2, am_I x3, am_I x4] [] h = some (some (am_I x3), h) :=
  (am_xs_run am_ms 294 [(.iload_n 3, 1, []), (.ireturn, 1, [0])] 59 _ _ h (by decide +kernel)).trans rfl
set_option maxHeartbeats 4000000 in
theorem bk_295_0 (x0 : Nat) (x1 : Int) (h : am_H) : am_run am_ms 295 0 [am_R x0, am_I x1, am_K 1, am_K 1] [] h = ((am_isc h x0 9).bind fun _ => ((am_cV 272 [am_R x0] h).bind fun h1 => am_run am_ms 295 8 [am_R x0, am_I x1, am_I 0, am_I 0] [] h1)) :=
  (am_xs_run am_ms 295 [(.aload_n 0, 1, []), (.invokevirtual 390, 3, [0, 272, 1, 9, 0, 8038, 8040, 98]), (.iconst 0, 1, []), (.istore_n 2, 1, []), (.iconst 0, 1, []), (.istore_n 3, 1, [])] 0 _ _ h (by decide +kernel)).trans rfl
theorem en_295 (x0 : Nat) (x1 : Int) (h : am_H) : am_call am_ms 295 [am_R x0, am_I x1] h = am_run am_ms 295 0 [am_R x0, am_I x1, am_K 1, am_K 1] [] h := rfl
set_option maxHeartbeats 4000000 in
theorem bk_295_8 (x0 : Nat) (x1 : Int) (x2 : Int) (x3 : Int) (h : am_H) : am_run am_ms 295 8 [am_R x0, am_I x1, am_I x2, am_I x3] [] h = (bif decide (128 ≤ x3) then am_run am_ms 295 56 [am_R x0, am_I x1, am_I x2, am_I x3] [] h else ((am_gfR h x0 9 30).bind fun f1 => ((am_rd h f1 0 x3).bind fun v2 => (bif decide (v2 ≤ 0) then am_run am_ms 295 47 [am_R x0, am_I x1, am_I x2, am_I x3] [am_I x2] h else (bif decide (x1 = 0) then am_run am_ms 295 43 [am_R x0, am_I x1, am_I x2, am_I x3] [am_I x2] h else ((am_gfR h x0 9 15).bind fun f3 => am_run am_ms 295 36 [am_R x0, am_I x1, am_I x2, am_I x3] [am_I 160, am_R f3, am_I x2] h)))))) :=
  (am_xs_run am_ms 295 [(.iload_n 3, 1, []), (.sipush 128, 3, []), (.if_icmp .ge 44, 3, []), (.iload_n 2, 1, []), (.aload_n 0, 1, []), (.getfield 50, 3, [9, 30, 5213, 3]), (.iload_n 3, 1, []), (.iaload, 1, []), (.ifCond .le 25, 3, []), (.iload_n 1, 1, []), (.ifCond .eq 17, 3, []), (.aload_n 0, 1, []), (.getfield 32, 3, [9, 15, 5198, 3]), (.sipush 160, 3, [])] 8 _ _ h (by decide +kernel)).trans rfl
set_option maxHeartbeats 4000000 in
theorem bk_295_36 (x0 : Nat) (x1 : Int) (x2 : Int) (x3 : Int) (y0 : Int) (y1 : Nat) (y2 : Int) (h : am_H) : am_run am_ms 295 36 [am_R x0, am_I x1, am_I x2, am_I x3] [am_I y0, am_R y1, am_I y2] h = ((am_rd h y1 0 (am_w (y0 + x3))).bind fun v1 => (bif decide (¬ v1 = (-1)) then am_run am_ms 295 47 [am_R x0, am_I x1, am_I x2, am_I x3] [am_I y2] h else am_run am_ms 295 43 [am_R x0, am_I x1, am_I x2, am_I x3] [am_I y2] h)) :=
  (am_xs_run am_ms 295 [(.iload_n 3, 1, []), (.iadd, 1, []), (.iaload, 1, []), (.iconst (-1), 1, []), (.if_icmp .ne 7, 3, [])] 36 _ _ h (by decide +kernel)).trans rfl
set_option maxHeartbeats 4000000 in
theorem bk_295_43 (x0 : Nat) (x1 : Int) (x2 : Int) (x3 : Int) (y0 : Int) (h : am_H) : am_run am_ms 295 43 [am_R x0, am_I x1, am_I x2, am_I x3] [am_I y0] h = am_run am_ms 295 48 [am_R x0, am_I x1, am_I x2, am_I x3] [am_I 1, am_I y0] h :=
  (am_xs_run am_ms 295 [(.iconst 1, 1, []), (.goto 4, 3, [])] 43 _ _ h (by decide +kernel)).trans rfl
set_option maxHeartbeats 4000000 in
theorem bk_295_47 (x0 : Nat) (x1 : Int) (x2 : Int) (x3 : Int) (y0 : Int) (h : am_H) : am_run am_ms 295 47 [am_R x0, am_I x1, am_I x2, am_I x3] [am_I y0] h = am_run am_ms 295 48 [am_R x0, am_I x1, am_I x2, am_I x3] [am_I 0, am_I y0] h :=
  (am_xs_run am_ms 295 [(.iconst 0, 1, [])] 47 _ _ h (by decide +kernel)).trans rfl
set_option maxHeartbeats 4000000 in
theorem bk_295_48 (x0 : Nat) (x1 : Int) (x2 : Int) (x3 : Int) (y0 : Int) (y1 : Int) (h : am_H) : am_run am_ms 295 48 [am_R x0, am_I x1, am_I x2, am_I x3] [am_I y0, am_I y1] h = am_run am_ms 295 8 [am_R x0, am_I x1, am_I (am_w (y1 + y0)), am_I (am_w (x3 + 1))] [] h :=
  (am_xs_run am_ms 295 [(.iadd, 1, []), (.istore_n 2, 1, []), (.iinc 3 1, 3, []), (.goto (-45), 3, [])] 48 _ _ h (by decide +kernel)).trans rfl
set_option maxHeartbeats 4000000 in
theorem bk_295_56 (x0 : Nat) (x1 : Int) (x2 : Int) (x3 : Int) (h : am_H) : am_run am_ms 295 56 [am_R x0, am_I x1, am_I x2, am_I x3] [] h = some (some (am_I x2), h) :=
  (am_xs_run am_ms 295 [(.iload_n 2, 1, []), (.ireturn, 1, [0])] 56 _ _ h (by decide +kernel)).trans rfl
set_option maxHeartbeats 4000000 in
theorem bk_296_0 (x0 : Nat) (h : am_H) : am_run am_ms 296 0 [am_R x0, am_K 1, am_K 1] [] h = ((am_isc h x0 9).bind fun _ => ((am_cI 281 [am_R x0] h).bind fun r1 => (bif decide (¬ r1.1 = 0) then am_run am_ms 296 9 [am_R x0, am_K 1, am_K 1] [] r1.2 else some (some (am_I (-1)), r1.2)))) :=
  (am_xs_run am_ms 296 [(.aload_n 0, 1, []), (.invokevirtual 396, 3, [0, 281, 1, 9, 1, 8058, 8060, 100]), (.ifCond .ne 5, 3, []), (.iconst (-1), 1, []), (.ireturn, 1, [0])] 0 _ _ h (by decide +kernel)).trans rfl
theorem en_296 (x0 : Nat) (h : am_H) : am_call am_ms 296 [am_R x0] h = am_run am_ms 296 0 [am_R x0, am_K 1, am_K 1] [] h := rfl
set_option maxHeartbeats 4000000 in
theorem bk_296_9 (x0 : Nat) (h : am_H) : am_run am_ms 296 9 [am_R x0, am_K 1, am_K 1] [] h = am_run am_ms 296 13 [am_R x0, am_I 0, am_I 1] [] h :=
  (am_xs_run am_ms 296 [(.iconst 0, 1, []), (.istore_n 1, 1, []), (.iconst 1, 1, []), (.istore_n 2, 1, [])] 9 _ _ h (by decide +kernel)).trans rfl
set_option maxHeartbeats 4000000 in
theorem bk_296_13 (x0 : Nat) (x1 : Int) (x2 : Int) (h : am_H) : am_run am_ms 296 13 [am_R x0, am_I x1, am_I x2] [] h = (bif decide (32 ≤ x2) then am_run am_ms 296 54 [am_R x0, am_I x1, am_I x2] [] h else ((am_gfR h x0 9 15).bind fun f1 => ((am_isc h x0 9).bind fun _ => ((am_cI 113 [am_R x0, am_R f1, am_I x2, am_I 2147483647] h).bind fun r2 => ((am_gfR r2.2 x0 9 15).bind fun f3 => am_run am_ms 296 40 [am_R x0, am_I x1, am_I x2] [am_I 2147483647, am_I x1, am_R f3, am_R x0, am_I r2.1] r2.2))))) :=
  (am_xs_run am_ms 296 [(.iload_n 2, 1, []), (.bipush 32, 2, []), (.if_icmp .ge 38, 3, []), (.aload_n 0, 1, []), (.aload_n 0, 1, []), (.getfield 32, 3, [9, 15, 5198, 3]), (.iload_n 2, 1, []), (.ldc_w 357, 3, [0, 2147483647, 7172]), (.invokevirtual 184, 3, [0, 113, 4, 9, 1, 6194, 6196, 59]), (.aload_n 0, 1, []), (.aload_n 0, 1, []), (.getfield 32, 3, [9, 15, 5198, 3]), (.iload_n 1, 1, []), (.ldc_w 357, 3, [0, 2147483647, 7172])] 13 _ _ h (by decide +kernel)).trans rfl
set_option maxHeartbeats 4000000 in
theorem bk_296_40 (x0 : Nat) (x1 : Int) (x2 : Int) (y0 : Int) (y1 : Int) (y2 : Nat) (y3 : Nat) (y4 : Int) (h : am_H) : am_run am_ms 296 40 [am_R x0, am_I x1, am_I x2] [am_I y0, am_I y1, am_R y2, am_R y3, am_I y4] h = ((am_isc h y3 9).bind fun _ => ((am_cI 113 [am_R y3, am_R y2, am_I y1, am_I y0] h).bind fun r1 => (bif decide (y4 ≤ r1.1) then am_run am_ms 296 48 [am_R x0, am_I x1, am_I x2] [] r1.2 else am_run am_ms 296 48 [am_R x0, am_I x2, am_I x2] [] r1.2))) :=
  (am_xs_run am_ms 296 [(.invokevirtual 184, 3, [0, 113, 4, 9, 1, 6194, 6196, 59]), (.if_icmp .le 5, 3, []), (.iload_n 2, 1, []), (.istore_n 1, 1, [])] 40 _ _ h (by decide +kernel)).trans rfl
set_option maxHeartbeats 4000000 in
theorem bk_296_48 (x0 : Nat) (x1 : Int) (x2 : Int) (h : am_H) : am_run am_ms 296 48 [am_R x0, am_I x1, am_I x2] [] h = am_run am_ms 296 13 [am_R x0, am_I x1, am_I (am_w (x2 + 1))] [] h :=
  (am_xs_run am_ms 296 [(.iinc 2 1, 3, []), (.goto (-38), 3, [])] 48 _ _ h (by decide +kernel)).trans rfl
set_option maxHeartbeats 4000000 in
theorem bk_296_54 (x0 : Nat) (x1 : Int) (x2 : Int) (h : am_H) : am_run am_ms 296 54 [am_R x0, am_I x1, am_I x2] [] h = some (some (am_I x1), h) :=
  (am_xs_run am_ms 296 [(.iload_n 1, 1, []), (.ireturn, 1, [0])] 54 _ _ h (by decide +kernel)).trans rfl
set_option maxHeartbeats 4000000 in
theorem bk_297_0 (x0 : Nat) (x1 : Int) (h : am_H) : am_run am_ms 297 0 [am_R x0, am_I x1] [] h = ((am_pf h x0 9 0 (am_I 0)).bind fun h1 => ((am_gfI h1 x0 9 14).bind fun f2 => (bif decide (¬ f2 = 0) then am_run am_ms 297 16 [am_R x0, am_I x1] [] h1 else some (some (am_I (-1000000)), h1)))) :=
  (am_xs_run am_ms 297 [(.aload_n 0, 1, []), (.iconst 0, 1, []), (.putfield 53, 3, [9, 0, 5183, 0]), (.aload_n 0, 1, []), (.getfield 155, 3, [9, 14, 5197, 1]), (.ifCond .ne 7, 3, []), (.ldc_w 350, 3, [0, -1000000, 7149]), (.ireturn, 1, [0])] 0 _ _ h (by decide +kernel)).trans rfl
theorem en_297 (x0 : Nat) (x1 : Int) (h : am_H) : am_call am_ms 297 [am_R x0, am_I x1] h = am_run am_ms 297 0 [am_R x0, am_I x1] [] h := rfl
set_option maxHeartbeats 4000000 in
theorem bk_297_16 (x0 : Nat) (x1 : Int) (h : am_H) : am_run am_ms 297 16 [am_R x0, am_I x1] [] h = am_run am_ms 297 17 [am_R x0, am_I x1] [am_I x1] h :=
  (am_xs_run am_ms 297 [(.iload_n 1, 1, [])] 16 _ _ h (by decide +kernel)).trans rfl
theorem bk_297_17 (x0 : Nat) (x1 : Int) (y0 : Int) (h : am_H) : am_run am_ms 297 17 [am_R x0, am_I x1] [am_I y0] h = am_run am_ms 297 (am_tsw 17 202 0 16 #[83, 88, 93, 98, 105, 112, 119, 126, 132, 137, 143, 152, 161, 170, 179, 188, 197] y0) [am_R x0, am_I x1] [] h := by
  rw [am_run_eq, show am_code am_ms 297 17 = some (.tableswitch 202 0 16 #[83, 88, 93, 98, 105, 112, 119, 126, 132, 137, 143, 152, 161, 170, 179, 188, 197], 83, []) from by decide +kernel]
  rfl
set_option maxHeartbeats 4000000 in
theorem bk_297_100 (x0 : Nat) (x1 : Int) (h : am_H) : am_run am_ms 297 100 [am_R x0, am_I x1] [] h = ((am_isc h x0 9).bind fun _ => ((am_cI 291 [am_R x0] h).bind fun r1 => some (some (am_I r1.1), r1.2))) :=
  (am_xs_run am_ms 297 [(.aload_n 0, 1, []), (.invokevirtual 399, 3, [0, 291, 1, 9, 1, 8066, 8068, 101]), (.ireturn, 1, [0])] 100 _ _ h (by decide +kernel)).trans rfl
set_option maxHeartbeats 4000000 in
theorem bk_297_105 (x0 : Nat) (x1 : Int) (h : am_H) : am_run am_ms 297 105 [am_R x0, am_I x1] [] h = ((am_isc h x0 9).bind fun _ => ((am_cI 292 [am_R x0] h).bind fun r1 => some (some (am_I r1.1), r1.2))) :=
  (am_xs_run am_ms 297 [(.aload_n 0, 1, []), (.invokevirtual 402, 3, [0, 292, 1, 9, 1, 8070, 8072, 102]), (.ireturn, 1, [0])] 105 _ _ h (by decide +kernel)).trans rfl
set_option maxHeartbeats 4000000 in
theorem bk_297_110 (x0 : Nat) (x1 : Int) (h : am_H) : am_run am_ms 297 110 [am_R x0, am_I x1] [] h = ((am_isc h x0 9).bind fun _ => ((am_cI 293 [am_R x0] h).bind fun r1 => some (some (am_I r1.1), r1.2))) :=
  (am_xs_run am_ms 297 [(.aload_n 0, 1, []), (.invokevirtual 405, 3, [0, 293, 1, 9, 1, 8074, 8076, 103]), (.ireturn, 1, [0])] 110 _ _ h (by decide +kernel)).trans rfl
set_option maxHeartbeats 4000000 in
theorem bk_297_115 (x0 : Nat) (x1 : Int) (h : am_H) : am_run am_ms 297 115 [am_R x0, am_I x1] [] h = ((am_isc h x0 9).bind fun _ => ((am_cI 294 [am_R x0, am_I 0, am_I 0] h).bind fun r1 => some (some (am_I r1.1), r1.2))) :=
  (am_xs_run am_ms 297 [(.aload_n 0, 1, []), (.iconst 0, 1, []), (.iconst 0, 1, []), (.invokevirtual 408, 3, [0, 294, 3, 9, 1, 8078, 8080, 104]), (.ireturn, 1, [0])] 115 _ _ h (by decide +kernel)).trans rfl
set_option maxHeartbeats 4000000 in
theorem bk_297_122 (x0 : Nat) (x1 : Int) (h : am_H) : am_run am_ms 297 122 [am_R x0, am_I x1] [] h = ((am_isc h x0 9).bind fun _ => ((am_cI 294 [am_R x0, am_I 1, am_I 1] h).bind fun r1 => some (some (am_I r1.1), r1.2))) :=
  (am_xs_run am_ms 297 [(.aload_n 0, 1, []), (.iconst 1, 1, []), (.iconst 1, 1, []), (.invokevirtual 408, 3, [0, 294, 3, 9, 1, 8078, 8080, 104]), (.ireturn, 1, [0])] 122 _ _ h (by decide +kernel)).trans rfl
set_option maxHeartbeats 4000000 in
theorem bk_297_129 (x0 : Nat) (x1 : Int) (h : am_H) : am_run am_ms 297 129 [am_R x0, am_I x1] [] h = ((am_isc h x0 9).bind fun _ => ((am_cI 294 [am_R x0, am_I 1, am_I 2] h).bind fun r1 => some (some (am_I r1.1), r1.2))) :=
  (am_xs_run am_ms 297 [(.aload_n 0, 1, []), (.iconst 1, 1, []), (.iconst 2, 1, []), (.invokevirtual 408, 3, [0, 294, 3, 9, 1, 8078, 8080, 104]), (.ireturn, 1, [0])] 129 _ _ h (by decide +kernel)).trans rfl
set_option maxHeartbeats 4000000 in
theorem bk_297_136 (x0 : Nat) (x1 : Int) (h : am_H) : am_run am_ms 297 136 [am_R x0, am_I x1] [] h = ((am_isc h x0 9).bind fun _ => ((am_cI 294 [am_R x0, am_I 3, am_I 3] h).bind fun r1 => some (some (am_I r1.1), r1.2))) :=
  (am_xs_run am_ms 297 [(.aload_n 0, 1, []), (.iconst 3, 1, []), (.iconst 3, 1, []), (.invokevirtual 408, 3, [0, 294, 3, 9, 1, 8078, 8080, 104]), (.ireturn, 1, [0])] 136 _ _ h (by decide +kernel)).trans rfl
set_option maxHeartbeats 4000000 in
theorem bk_297_143 (x0 : Nat) (x1 : Int) (h : am_H) : am_run am_ms 297 143 [am_R x0, am_I x1] [] h = ((am_isc h x0 9).bind fun _ => ((am_cI 295 [am_R x0, am_I 0] h).bind fun r1 => some (some (am_I r1.1), r1.2))) :=
  (am_xs_run am_ms 297 [(.aload_n 0, 1, []), (.iconst 0, 1, []), (.invokevirtual 411, 3, [0, 295, 2, 9, 1, 8082, 8084, 105]), (.ireturn, 1, [0])] 143 _ _ h (by decide +kernel)).trans rfl
set_option maxHeartbeats 4000000 in
theorem bk_297_149 (x0 : Nat) (x1 : Int) (h : am_H) : am_run am_ms 297 149 [am_R x0, am_I x1] [] h = ((am_isc h x0 9).bind fun _ => ((am_cI 281 [am_R x0] h).bind fun r1 => some (some (am_I r1.1), r1.2))) :=
  (am_xs_run am_ms 297 [(.aload_n 0, 1, []), (.invokevirtual 396, 3, [0, 281, 1, 9, 1, 8058, 8060, 100]), (.ireturn, 1, [0])] 149 _ _ h (by decide +kernel)).trans rfl
set_option maxHeartbeats 4000000 in
theorem bk_297_154 (x0 : Nat) (x1 : Int) (h : am_H) : am_run am_ms 297 154 [am_R x0, am_I x1] [] h = ((am_isc h x0 9).bind fun _ => ((am_cI 295 [am_R x0, am_I 1] h).bind fun r1 => some (some (am_I r1.1), r1.2))) :=
  (am_xs_run am_ms 297 [(.aload_n 0, 1, []), (.iconst 1, 1, []), (.invokevirtual 411, 3, [0, 295, 2, 9, 1, 8082, 8084, 105]), (.ireturn, 1, [0])] 154 _ _ h (by decide +kernel)).trans rfl
set_option maxHeartbeats 4000000 in
theorem bk_297_160 (x0 : Nat) (x1 : Int) (h : am_H) : am_run am_ms 297 160 [am_R x0, am_I x1] [] h = ((am_gfR h x0 9 15).bind fun f1 => ((am_isc h x0 9).bind fun _ => ((am_cI 165 [am_R x0, am_R f1] h).bind fun r2 => some (some (am_I r2.1), r2.2)))) :=
  (am_xs_run am_ms 297 [(.aload_n 0, 1, []), (.aload_n 0, 1, []), (.getfield 32, 3, [9, 15, 5198, 3]), (.invokevirtual 278, 3, [0, 165, 2, 9, 1, 7065, 7067, 84]), (.ireturn, 1, [0])] 160 _ _ h (by decide +kernel)).trans rfl
set_option maxHeartbeats 4000000 in
theorem bk_297_169 (x0 : Nat) (x1 : Int) (h : am_H) : am_run am_ms 297 169 [am_R x0, am_I x1] [] h = ((am_gfR h x0 9 15).bind fun f1 => ((am_rd h f1 0 422).bind fun v2 => some (some (am_I v2), h))) :=
  (am_xs_run am_ms 297 [(.aload_n 0, 1, []), (.getfield 32, 3, [9, 15, 5198, 3]), (.sipush 422, 3, []), (.iaload, 1, []), (.ireturn, 1, [0])] 169 _ _ h (by decide +kernel)).trans rfl
set_option maxHeartbeats 4000000 in
theorem bk_297_178 (x0 : Nat) (x1 : Int) (h : am_H) : am_run am_ms 297 178 [am_R x0, am_I x1] [] h = ((am_gfR h x0 9 15).bind fun f1 => ((am_rd h f1 0 423).bind fun v2 => some (some (am_I v2), h))) :=
  (am_xs_run am_ms 297 [(.aload_n 0, 1, []), (.getfield 32, 3, [9, 15, 5198, 3]), (.sipush 423, 3, []), (.iaload, 1, []), (.ireturn, 1, [0])] 178 _ _ h (by decide +kernel)).trans rfl
set_option maxHeartbeats 4000000 in
theorem bk_297_187 (x0 : Nat) (x1 : Int) (h : am_H) : am_run am_ms 297 187 [am_R x0, am_I x1] [] h = ((am_gfR h x0 9 15).bind fun f1 => ((am_rd h f1 0 424).bind fun v2 => some (some (am_I v2), h))) :=
  (am_xs_run am_ms 297 [(.aload_n 0, 1, []), (.getfield 32, 3, [9, 15, 5198, 3]), (.sipush 424, 3, []), (.iaload, 1, []), (.ireturn, 1, [0])] 187 _ _ h (by decide +kernel)).trans rfl
set_option maxHeartbeats 4000000 in
theorem bk_297_196 (x0 : Nat) (x1 : Int) (h : am_H) : am_run am_ms 297 196 [am_R x0, am_I x1] [] h = ((am_gfR h x0 9 15).bind fun f1 => ((am_rd h f1 0 425).bind fun v2 => some (some (am_I v2), h))) :=
  (am_xs_run am_ms 297 [(.aload_n 0, 1, []), (.getfield 32, 3, [9, 15, 5198, 3]), (.sipush 425, 3, []), (.iaload, 1, []), (.ireturn, 1, [0])] 196 _ _ h (by decide +kernel)).trans rfl
set_option maxHeartbeats 4000000 in
theorem bk_297_205 (x0 : Nat) (x1 : Int) (h : am_H) : am_run am_ms 297 205 [am_R x0, am_I x1] [] h = ((am_gfR h x0 9 15).bind fun f1 => ((am_rd h f1 0 419).bind fun v2 => some (some (am_I v2), h))) :=
  (am_xs_run am_ms 297 [(.aload_n 0, 1, []), (.getfield 32, 3, [9, 15, 5198, 3]), (.sipush 419, 3, []), (.iaload, 1, []), (.ireturn, 1, [0])] 205 _ _ h (by decide +kernel)).trans rfl
set_option maxHeartbeats 4000000 in
theorem bk_297_214 (x0 : Nat) (x1 : Int) (h : am_H) : am_run am_ms 297 214 [am_R x0, am_I x1] [] h = ((am_isc h x0 9).bind fun _ => ((am_cI 296 [am_R x0] h).bind fun r1 => some (some (am_I r1.1), r1.2))) :=
  (am_xs_run am_ms 297 [(.aload_n 0, 1, []), (.invokevirtual 415, 3, [0, 296, 1, 9, 1, 8086, 8088, 106]), (.ireturn, 1, [0])] 214 _ _ h (by decide +kernel)).trans rfl
set_option maxHeartbeats 4000000 in
theorem bk_297_219 (x0 : Nat) (x1 : Int) (h : am_H) : am_run am_ms 297 219 [am_R x0, am_I x1] [] h = some (some (am_I (-1000000)), h) :=
  (am_xs_run am_ms 297 [(.ldc_w 350, 3, [0, -1000000, 7149]), (.ireturn, 1, [0])] 219 _ _ h (by decide +kernel)).trans rfl
set_option maxHeartbeats 4000000 in
theorem bk_299_0 (x0 : Nat) (h : am_H) : am_run am_ms 299 0 [am_R x0] [] h = ((am_pf h x0 9 0 (am_I 0)).bind fun h1 => ((am_gfI h1 x0 9 14).bind fun f2 => (bif decide (¬ f2 = 0) then am_run am_ms 299 14 [am_R x0] [] h1 else some (some (am_I (-1)), h1)))) :=
  (am_xs_run am_ms 299 [(.aload_n 0, 1, []), (.iconst 0, 1, []), (.putfield 53, 3, [9, 0, 5183, 0]), (.aload_n 0, 1, []), (.getfield 155, 3, [9, 14, 5197, 1]), (.ifCond .ne 5, 3, []), (.iconst (-1), 1, []), (.ireturn, 1, [0])] 0 _ _ h (by decide +kernel)).trans rfl
theorem en_299 (x0 : Nat) (h : am_H) : am_call am_ms 299 [am_R x0] h = am_run am_ms 299 0 [am_R x0] [] h := rfl
set_option maxHeartbeats 4000000 in
theorem bk_299_14 (x0 : Nat) (h : am_H) : am_run am_ms 299 14 [am_R x0] [] h = ((am_gfR h x0 9 15).bind fun f1 => ((am_gfR h x0 9 18).bind fun f2 => ((am_cV 108 [am_R f1, am_I 0, am_R f2, am_I 0] h).bind fun h3 => ((am_pf h3 x0 9 22 (am_I 1)).bind fun h4 => ((am_gfR h4 x0 9 15).bind fun f5 => ((am_rd h4 f5 0 419).bind fun v6 => am_run am_ms 299 40 [am_R x0] [am_I v6] h4)))))) :=
  (am_xs_run am_ms 299 [(.aload_n 0, 1, []), (.getfield 32, 3, [9, 15, 5198, 3]), (.iconst 0, 1, []), (.aload_n 0, 1, []), (.getfield 41, 3, [9, 18, 5201, 3]), (.iconst 0, 1, []), (.invokestatic 259, 3, [1, 108, 4, 0, 0, 6155, 6156]), (.aload_n 0, 1, []), (.iconst 1, 1, []), (.putfield 168, 3, [9, 22, 5205, 1]), (.aload_n 0, 1, []), (.getfield 32, 3, [9, 15, 5198, 3]), (.sipush 419, 3, []), (.iaload, 1, [])] 14 _ _ h (by decide +kernel)).trans rfl
set_option maxHeartbeats 4000000 in
theorem bk_299_40 (x0 : Nat) (y0 : Int) (h : am_H) : am_run am_ms 299 40 [am_R x0] [am_I y0] h = some (some (am_I y0), h) :=
  (am_xs_run am_ms 299 [(.ireturn, 1, [0])] 40 _ _ h (by decide +kernel)).trans rfl
set_option maxHeartbeats 4000000 in
theorem bk_301_0 (x0 : Nat) (h : am_H) : am_run am_ms 301 0 [am_R x0] [] h = ((am_pf h x0 9 0 (am_I 0)).bind fun h1 => ((am_gfI h1 x0 9 22).bind fun f2 => (bif decide (¬ f2 = 0) then am_run am_ms 301 14 [am_R x0] [] h1 else some (some (am_I (-1)), h1)))) :=
  (am_xs_run am_ms 301 [(.aload_n 0, 1, []), (.iconst 0, 1, []), (.putfield 53, 3, [9, 0, 5183, 0]), (.aload_n 0, 1, []), (.getfield 168, 3, [9, 22, 5205, 1]), (.ifCond .ne 5, 3, []), (.iconst (-1), 1, []), (.ireturn, 1, [0])] 0 _ _ h (by decide +kernel)).trans rfl
theorem en_301 (x0 : Nat) (h : am_H) : am_call am_ms 301 [am_R x0] h = am_run am_ms 301 0 [am_R x0] [] h := rfl
set_option maxHeartbeats 4000000 in
theorem bk_301_14 (x0 : Nat) (h : am_H) : am_run am_ms 301 14 [am_R x0] [] h = ((am_gfR h x0 9 18).bind fun f1 => ((am_gfR h x0 9 15).bind fun f2 => ((am_cV 108 [am_R f1, am_I 0, am_R f2, am_I 0] h).bind fun h3 => ((am_pf h3 x0 9 21 (am_I 0)).bind fun h4 => ((am_gfR h4 x0 9 15).bind fun f5 => ((am_rd h4 f5 0 419).bind fun v6 => am_run am_ms 301 40 [am_R x0] [am_I v6] h4)))))) :=
  (am_xs_run am_ms 301 [(.aload_n 0, 1, []), (.getfield 41, 3, [9, 18, 5201, 3]), (.iconst 0, 1, []), (.aload_n 0, 1, []), (.getfield 32, 3, [9, 15, 5198, 3]), (.iconst 0, 1, []), (.invokestatic 259, 3, [1, 108, 4, 0, 0, 6155, 6156]), (.aload_n 0, 1, []), (.iconst 0, 1, []), (.putfield 165, 3, [9, 21, 5204, 0]), (.aload_n 0, 1, []), (.getfield 32, 3, [9, 15, 5198, 3]), (.sipush 419, 3, []), (.iaload, 1, [])] 14 _ _ h (by decide +kernel)).trans rfl
set_option maxHeartbeats 4000000 in
theorem bk_301_40 (x0 : Nat) (y0 : Int) (h : am_H) : am_run am_ms 301 40 [am_R x0] [am_I y0] h = some (some (am_I y0), h) :=
  (am_xs_run am_ms 301 [(.ireturn, 1, [0])] 40 _ _ h (by decide +kernel)).trans rfl
set_option maxHeartbeats 4000000 in
theorem bk_303_0 (x0 : Nat) (x1 : Int) (h : am_H) : am_run am_ms 303 0 [am_R x0, am_I x1] [] h = ((am_pf h x0 9 0 (am_I 0)).bind fun h1 => am_run am_ms 303 6 [am_R x0, am_I x1] [am_I x1] h1) :=
  (am_xs_run am_ms 303 [(.aload_n 0, 1, []), (.iconst 0, 1, []), (.putfield 53, 3, [9, 0, 5183, 0]), (.iload_n 1, 1, [])] 0 _ _ h (by decide +kernel)).trans rfl
theorem en_303 (x0 : Nat) (x1 : Int) (h : am_H) : am_call am_ms 303 [am_R x0, am_I x1] h = am_run am_ms 303 0 [am_R x0, am_I x1] [] h := rfl
theorem bk_303_6 (x0 : Nat) (x1 : Int) (y0 : Int) (h : am_H) : am_run am_ms 303 6 [am_R x0, am_I x1] [am_I y0] h = am_run am_ms 303 (am_tsw 6 76 0 4 #[34, 52, 57, 62, 71] y0) [am_R x0, am_I x1] [] h := by
  rw [am_run_eq, show am_code am_ms 303 6 = some (.tableswitch 76 0 4 #[34, 52, 57, 62, 71], 34, []) from by decide +kernel]
  rfl
set_option maxHeartbeats 4000000 in
theorem bk_303_40 (x0 : Nat) (x1 : Int) (h : am_H) : am_run am_ms 303 40 [am_R x0, am_I x1] [] h = ((am_gfI h x0 9 14).bind fun f1 => (bif decide (f1 = 0) then am_run am_ms 303 56 [am_R x0, am_I x1] [] h else ((am_gfR h x0 9 6).bind fun f2 => ((am_rd h f2 0 0).bind fun v3 => am_run am_ms 303 57 [am_R x0, am_I x1] [am_I v3] h)))) :=
  (am_xs_run am_ms 303 [(.aload_n 0, 1, []), (.getfield 155, 3, [9, 14, 5197, 1]), (.ifCond .eq 12, 3, []), (.aload_n 0, 1, []), (.getfield 17, 3, [9, 6, 5189, 3]), (.iconst 0, 1, []), (.iaload, 1, []), (.goto 4, 3, [])] 40 _ _ h (by decide +kernel)).trans rfl
set_option maxHeartbeats 4000000 in
theorem bk_303_56 (x0 : Nat) (x1 : Int) (h : am_H) : am_run am_ms 303 56 [am_R x0, am_I x1] [] h = am_run am_ms 303 57 [am_R x0, am_I x1] [am_I 0] h :=
  (am_xs_run am_ms 303 [(.iconst 0, 1, [])] 56 _ _ h (by decide +kernel)).trans rfl
set_option maxHeartbeats 4000000 in
theorem bk_303_57 (x0 : Nat) (x1 : Int) (y0 : Int) (h : am_H) : am_run am_ms 303 57 [am_R x0, am_I x1] [am_I y0] h = some (some (am_I y0), h) :=
  (am_xs_run am_ms 303 [(.ireturn, 1, [0])] 57 _ _ h (by decide +kernel)).trans rfl
set_option maxHeartbeats 4000000 in
theorem bk_303_58 (x0 : Nat) (x1 : Int) (h : am_H) : am_run am_ms 303 58 [am_R x0, am_I x1] [] h = ((am_gfI h x0 9 12).bind fun f1 => some (some (am_I f1), h)) :=
  (am_xs_run am_ms 303 [(.aload_n 0, 1, []), (.getfield 150, 3, [9, 12, 5195, 0]), (.ireturn, 1, [0])] 58 _ _ h (by decide +kernel)).trans rfl
set_option maxHeartbeats 4000000 in
theorem bk_303_63 (x0 : Nat) (x1 : Int) (h : am_H) : am_run am_ms 303 63 [am_R x0, am_I x1] [] h = ((am_gfI h x0 9 2).bind fun f1 => some (some (am_I f1), h)) :=
  (am_xs_run am_ms 303 [(.aload_n 0, 1, []), (.getfield 57, 3, [9, 2, 5185, 0]), (.ireturn, 1, [0])] 63 _ _ h (by decide +kernel)).trans rfl
set_option maxHeartbeats 4000000 in
theorem bk_303_68 (x0 : Nat) (x1 : Int) (h : am_H) : am_run am_ms 303 68 [am_R x0, am_I x1] [] h = ((am_gfR h x0 9 15).bind fun f1 => ((am_rd h f1 0 428).bind fun v2 => some (some (am_I v2), h))) :=
  (am_xs_run am_ms 303 [(.aload_n 0, 1, []), (.getfield 32, 3, [9, 15, 5198, 3]), (.sipush 428, 3, []), (.iaload, 1, []), (.ireturn, 1, [0])] 68 _ _ h (by decide +kernel)).trans rfl
set_option maxHeartbeats 4000000 in
theorem bk_303_77 (x0 : Nat) (x1 : Int) (h : am_H) : am_run am_ms 303 77 [am_R x0, am_I x1] [] h = ((am_gfI h x0 9 21).bind fun f1 => some (some (am_I f1), h)) :=
  (am_xs_run am_ms 303 [(.aload_n 0, 1, []), (.getfield 165, 3, [9, 21, 5204, 0]), (.ireturn, 1, [0])] 77 _ _ h (by decide +kernel)).trans rfl
set_option maxHeartbeats 4000000 in
theorem bk_303_82 (x0 : Nat) (x1 : Int) (h : am_H) : am_run am_ms 303 82 [am_R x0, am_I x1] [] h = some (some (am_I (-1000000)), h) :=
  (am_xs_run am_ms 303 [(.ldc_w 350, 3, [0, -1000000, 7149]), (.ireturn, 1, [0])] 82 _ _ h (by decide +kernel)).trans rfl
