/-! ===== BLOCK LAWS: printed by a program of ours ===== -/
set_option maxHeartbeats 4000000 in
theorem bk_144_0 (x0 : Nat) (x1 : Int) (x2 : Int) (x3 : Int) (h : am_H) : am_run am_ms 144 0 [am_R x0, am_I x1, am_I x2, am_I x3, am_K 1] [] h = ((am_pf h x0 9 0 (am_I 0)).bind fun h1 => ((am_isc h1 x0 9).bind fun _ => ((am_cI 140 [am_R x0, am_I x1] h1).bind fun r2 => (bif decide (r2.1 = 0) then am_run am_ms 144 42 [am_R x0, am_I x1, am_I x2, am_I x3, am_K 1] [] r2.2 else (bif decide (x2 < 0) then am_run am_ms 144 42 [am_R x0, am_I x1, am_I x2, am_I x3, am_K 1] [] r2.2 else ((am_gfR r2.2 x0 9 15).bind fun f3 => am_run am_ms 144 25 [am_R x0, am_I x1, am_I x2, am_I x3, am_K 1] [am_I x1, am_I 8, am_R f3, am_I x2] r2.2)))))) :=
  (am_xs_run am_ms 144 [(.aload_n 0, 1, []), (.iconst 0, 1, []), (.putfield 53, 3, [9, 0, 5183, 0]), (.aload_n 0, 1, []), (.iload_n 1, 1, []), (.invokevirtual 295, 3, [0, 140, 2, 9, 1, 7052, 7054, 81]), (.ifCond .eq 32, 3, []), (.iload_n 2, 1, []), (.ifCond .lt 28, 3, []), (.iload_n 2, 1, []), (.aload_n 0, 1, []), (.getfield 32, 3, [9, 15, 5198, 3]), (.bipush 8, 2, []), (.iload_n 1, 1, [])] 0 _ _ h (by decide +kernel)).trans rfl
theorem en_144 (x0 : Nat) (x1 : Int) (x2 : Int) (x3 : Int) (h : am_H) : am_call am_ms 144 [am_R x0, am_I x1, am_I x2, am_I x3] h = am_run am_ms 144 0 [am_R x0, am_I x1, am_I x2, am_I x3, am_K 1] [] h := rfl
set_option maxHeartbeats 4000000 in
theorem bk_144_25 (x0 : Nat) (x1 : Int) (x2 : Int) (x3 : Int) (y0 : Int) (y1 : Int) (y2 : Nat) (y3 : Int) (h : am_H) : am_run am_ms 144 25 [am_R x0, am_I x1, am_I x2, am_I x3, am_K 1] [am_I y0, am_I y1, am_R y2, am_I y3] h = ((am_rd h y2 0 (am_w (y1 + y0))).bind fun v1 => (bif decide (v1 ≤ y3) then am_run am_ms 144 42 [am_R x0, am_I x1, am_I x2, am_I x3, am_K 1] [] h else ((am_cI 40 [am_L x3, am_L 0, am_L 3] h).bind fun r2 => (bif decide (¬ r2.1 = 0) then am_run am_ms 144 46 [am_R x0, am_I x1, am_I x2, am_I x3, am_K 1] [] r2.2 else am_run am_ms 144 42 [am_R x0, am_I x1, am_I x2, am_I x3, am_K 1] [] r2.2)))) :=
  (am_xs_run am_ms 144 [(.iadd, 1, []), (.iaload, 1, []), (.if_icmp .ge 15, 3, []), (.iload_n 3, 1, []), (.i2l, 1, []), (.lconst 0, 1, []), (.ldc2_w 298, 3, [0, 3, 7056]), (.invokestatic 96, 3, [1, 40, 3, 0, 1, 6060, 6061]), (.ifCond .ne 7, 3, [])] 25 _ _ h (by decide +kernel)).trans rfl
set_option maxHeartbeats 4000000 in
theorem bk_144_42 (x0 : Nat) (x1 : Int) (x2 : Int) (x3 : Int) (h : am_H) : am_run am_ms 144 42 [am_R x0, am_I x1, am_I x2, am_I x3, am_K 1] [] h = some (some (am_I (-1000000)), h) :=
  (am_xs_run am_ms 144 [(.ldc_w 350, 3, [0, -1000000, 7149]), (.ireturn, 1, [0])] 42 _ _ h (by decide +kernel)).trans rfl
set_option maxHeartbeats 4000000 in
theorem bk_144_46 (x0 : Nat) (x1 : Int) (x2 : Int) (x3 : Int) (h : am_H) : am_run am_ms 144 46 [am_R x0, am_I x1, am_I x2, am_I x3, am_K 1] [] h = am_run am_ms 144 55 [am_R x0, am_I x1, am_I x2, am_I x3, am_I (am_w ((am_w (16 * x1)) + x2))] [am_I x3] h :=
  (am_xs_run am_ms 144 [(.bipush 16, 2, []), (.iload_n 1, 1, []), (.imul, 1, []), (.iload_n 2, 1, []), (.iadd, 1, []), (.istore 4, 2, []), (.iload_n 3, 1, [])] 46 _ _ h (by decide +kernel)).trans rfl
theorem bk_144_55 (x0 : Nat) (x1 : Int) (x2 : Int) (x3 : Int) (x4 : Int) (y0 : Int) (h : am_H) : am_run am_ms 144 55 [am_R x0, am_I x1, am_I x2, am_I x3, am_I x4] [am_I y0] h = am_run am_ms 144 (am_tsw 55 60 0 2 #[25, 36, 48] y0) [am_R x0, am_I x1, am_I x2, am_I x3, am_I x4] [] h := by
  rw [am_run_eq, show am_code am_ms 144 55 = some (.tableswitch 60 0 2 #[25, 36, 48], 25, []) from by decide +kernel]
  rfl
set_option maxHeartbeats 4000000 in
theorem bk_144_80 (x0 : Nat) (x1 : Int) (x2 : Int) (x3 : Int) (x4 : Int) (h : am_H) : am_run am_ms 144 80 [am_R x0, am_I x1, am_I x2, am_I x3, am_I x4] [] h = ((am_gfR h x0 9 15).bind fun f1 => ((am_rd h f1 0 (am_w (32 + x4))).bind fun v2 => some (some (am_I v2), h))) :=
  (am_xs_run am_ms 144 [(.aload_n 0, 1, []), (.getfield 32, 3, [9, 15, 5198, 3]), (.bipush 32, 2, []), (.iload 4, 2, []), (.iadd, 1, []), (.iaload, 1, []), (.ireturn, 1, [0])] 80 _ _ h (by decide +kernel)).trans rfl
set_option maxHeartbeats 4000000 in
theorem bk_144_91 (x0 : Nat) (x1 : Int) (x2 : Int) (x3 : Int) (x4 : Int) (h : am_H) : am_run am_ms 144 91 [am_R x0, am_I x1, am_I x2, am_I x3, am_I x4] [] h = ((am_gfR h x0 9 15).bind fun f1 => ((am_rd h f1 0 (am_w (160 + x4))).bind fun v2 => some (some (am_I v2), h))) :=
  (am_xs_run am_ms 144 [(.aload_n 0, 1, []), (.getfield 32, 3, [9, 15, 5198, 3]), (.sipush 160, 3, []), (.iload 4, 2, []), (.iadd, 1, []), (.iaload, 1, []), (.ireturn, 1, [0])] 91 _ _ h (by decide +kernel)).trans rfl
set_option maxHeartbeats 4000000 in
theorem bk_144_103 (x0 : Nat) (x1 : Int) (x2 : Int) (x3 : Int) (x4 : Int) (h : am_H) : am_run am_ms 144 103 [am_R x0, am_I x1, am_I x2, am_I x3, am_I x4] [] h = ((am_gfR h x0 9 15).bind fun f1 => ((am_rd h f1 0 (am_w (288 + x4))).bind fun v2 => some (some (am_I v2), h))) :=
  (am_xs_run am_ms 144 [(.aload_n 0, 1, []), (.getfield 32, 3, [9, 15, 5198, 3]), (.sipush 288, 3, []), (.iload 4, 2, []), (.iadd, 1, []), (.iaload, 1, []), (.ireturn, 1, [0])] 103 _ _ h (by decide +kernel)).trans rfl
set_option maxHeartbeats 4000000 in
theorem bk_144_115 (x0 : Nat) (x1 : Int) (x2 : Int) (x3 : Int) (x4 : Int) (h : am_H) : am_run am_ms 144 115 [am_R x0, am_I x1, am_I x2, am_I x3, am_I x4] [] h = ((am_gfR h x0 9 15).bind fun f1 => ((am_isc h x0 9).bind fun _ => ((am_cI 114 [am_R x0, am_R f1, am_I x4] h).bind fun r2 => (bif decide (r2.1 = 0) then am_run am_ms 144 132 [am_R x0, am_I x1, am_I x2, am_I x3, am_I x4] [] r2.2 else am_run am_ms 144 133 [am_R x0, am_I x1, am_I x2, am_I x3, am_I x4] [am_I 1] r2.2)))) :=
  (am_xs_run am_ms 144 [(.aload_n 0, 1, []), (.aload_n 0, 1, []), (.getfield 32, 3, [9, 15, 5198, 3]), (.iload 4, 2, []), (.invokevirtual 188, 3, [0, 114, 3, 9, 1, 6190, 6192, 58]), (.ifCond .eq 7, 3, []), (.iconst 1, 1, []), (.goto 4, 3, [])] 115 _ _ h (by decide +kernel)).trans rfl
set_option maxHeartbeats 4000000 in
theorem bk_144_132 (x0 : Nat) (x1 : Int) (x2 : Int) (x3 : Int) (x4 : Int) (h : am_H) : am_run am_ms 144 132 [am_R x0, am_I x1, am_I x2, am_I x3, am_I x4] [] h = am_run am_ms 144 133 [am_R x0, am_I x1, am_I x2, am_I x3, am_I x4] [am_I 0] h :=
  (am_xs_run am_ms 144 [(.iconst 0, 1, [])] 132 _ _ h (by decide +kernel)).trans rfl
set_option maxHeartbeats 4000000 in
theorem bk_144_133 (x0 : Nat) (x1 : Int) (x2 : Int) (x3 : Int) (x4 : Int) (y0 : Int) (h : am_H) : am_run am_ms 144 133 [am_R x0, am_I x1, am_I x2, am_I x3, am_I x4] [am_I y0] h = some (some (am_I y0), h) :=
  (am_xs_run am_ms 144 [(.ireturn, 1, [0])] 133 _ _ h (by decide +kernel)).trans rfl
set_option maxHeartbeats 4000000 in
theorem bk_145_0 (x0 : Nat) (x1 : Int) (h : am_H) : am_run am_ms 145 0 [am_R x0, am_I x1] [] h = ((am_gfR h x0 8 4).bind fun f1 => ((am_isc h f1 1).bind fun _ => ((am_cI 70 [am_R f1, am_I x1] h).bind fun r2 => some (some (am_I r2.1), r2.2)))) :=
  (am_xs_run am_ms 145 [(.aload_n 0, 1, []), (.getfield 34, 3, [8, 4, 2041, 3]), (.iload_n 1, 1, []), (.invokevirtual 181, 3, [0, 70, 2, 1, 1, 3217, 3059, 3060]), (.ireturn, 1, [0])] 0 _ _ h (by decide +kernel)).trans rfl
theorem en_145 (x0 : Nat) (x1 : Int) (h : am_H) : am_call am_ms 145 [am_R x0, am_I x1] h = am_run am_ms 145 0 [am_R x0, am_I x1] [] h := rfl
set_option maxHeartbeats 4000000 in
theorem bk_146_0 (x0 : Nat) (x1 : Int) (h : am_H) : am_run am_ms 146 0 [am_R x0, am_I x1] [] h = ((am_gfI h x0 9 14).bind fun f1 => (bif decide (f1 = 0) then am_run am_ms 146 23 [am_R x0, am_I x1] [] h else ((am_cI 40 [am_L x1, am_L 0, am_L 31] h).bind fun r2 => (bif decide (r2.1 = 0) then am_run am_ms 146 23 [am_R x0, am_I x1] [] r2.2 else am_run am_ms 146 24 [am_R x0, am_I x1] [am_I 1] r2.2)))) :=
  (am_xs_run am_ms 146 [(.aload_n 0, 1, []), (.getfield 155, 3, [9, 14, 5197, 1]), (.ifCond .eq 19, 3, []), (.iload_n 1, 1, []), (.i2l, 1, []), (.lconst 0, 1, []), (.ldc2_w 284, 3, [0, 31, 7042]), (.invokestatic 96, 3, [1, 40, 3, 0, 1, 6060, 6061]), (.ifCond .eq 7, 3, []), (.iconst 1, 1, []), (.goto 4, 3, [])] 0 _ _ h (by decide +kernel)).trans rfl
theorem en_146 (x0 : Nat) (x1 : Int) (h : am_H) : am_call am_ms 146 [am_R x0, am_I x1] h = am_run am_ms 146 0 [am_R x0, am_I x1] [] h := rfl
set_option maxHeartbeats 4000000 in
theorem bk_146_23 (x0 : Nat) (x1 : Int) (h : am_H) : am_run am_ms 146 23 [am_R x0, am_I x1] [] h = am_run am_ms 146 24 [am_R x0, am_I x1] [am_I 0] h :=
  (am_xs_run am_ms 146 [(.iconst 0, 1, [])] 23 _ _ h (by decide +kernel)).trans rfl
set_option maxHeartbeats 4000000 in
theorem bk_146_24 (x0 : Nat) (x1 : Int) (y0 : Int) (h : am_H) : am_run am_ms 146 24 [am_R x0, am_I x1] [am_I y0] h = (bif am_rok 1 y0 then some (some (am_I y0), h) else none) :=
  (am_xs_run am_ms 146 [(.ireturn, 1, [1])] 24 _ _ h (by decide +kernel)).trans rfl
set_option maxHeartbeats 4000000 in
theorem bk_147_0 (x0 : Nat) (x1 : Nat) (x2 : Int) (h : am_H) : am_run am_ms 147 0 [am_R x0, am_R x1, am_I x2, am_K 1] [] h = ((am_isc h x0 9).bind fun _ => ((am_cI 109 [am_R x0, am_R x1, am_I x2] h).bind fun r1 => (bif decide (¬ r1.1 = (-1)) then am_run am_ms 147 16 [am_R x0, am_R x1, am_I x2, am_I r1.1] [] r1.2 else am_run am_ms 147 23 [am_R x0, am_R x1, am_I x2, am_I r1.1] [am_I (-1)] r1.2))) :=
  (am_xs_run am_ms 147 [(.aload_n 0, 1, []), (.aload_n 1, 1, []), (.iload_n 2, 1, []), (.invokevirtual 180, 3, [0, 109, 3, 9, 1, 6162, 6164, 51]), (.istore_n 3, 1, []), (.iload_n 3, 1, []), (.iconst (-1), 1, []), (.if_icmp .ne 7, 3, []), (.iconst (-1), 1, []), (.goto 10, 3, [])] 0 _ _ h (by decide +kernel)).trans rfl
theorem en_147 (x0 : Nat) (x1 : Nat) (x2 : Int) (h : am_H) : am_call am_ms 147 [am_R x0, am_R x1, am_I x2] h = am_run am_ms 147 0 [am_R x0, am_R x1, am_I x2, am_K 1] [] h := rfl
set_option maxHeartbeats 4000000 in
theorem bk_147_16 (x0 : Nat) (x1 : Nat) (x2 : Int) (x3 : Int) (h : am_H) : am_run am_ms 147 16 [am_R x0, am_R x1, am_I x2, am_I x3] [] h = ((am_rd h x1 0 (am_w (160 + x3))).bind fun v1 => am_run am_ms 147 23 [am_R x0, am_R x1, am_I x2, am_I x3] [am_I v1] h) :=
  (am_xs_run am_ms 147 [(.aload_n 1, 1, []), (.sipush 160, 3, []), (.iload_n 3, 1, []), (.iadd, 1, []), (.iaload, 1, [])] 16 _ _ h (by decide +kernel)).trans rfl
set_option maxHeartbeats 4000000 in
theorem bk_147_23 (x0 : Nat) (x1 : Nat) (x2 : Int) (x3 : Int) (y0 : Int) (h : am_H) : am_run am_ms 147 23 [am_R x0, am_R x1, am_I x2, am_I x3] [am_I y0] h = some (some (am_I y0), h) :=
  (am_xs_run am_ms 147 [(.ireturn, 1, [0])] 23 _ _ h (by decide +kernel)).trans rfl
set_option maxHeartbeats 4000000 in
theorem bk_148_0 (x0 : Nat) (x1 : Int) (h : am_H) : am_run am_ms 148 0 [am_R x0, am_I x1] [] h = ((am_pf h x0 9 0 (am_I 0)).bind fun h1 => ((am_isc h1 x0 9).bind fun _ => ((am_cI 146 [am_R x0, am_I x1] h1).bind fun r2 => (bif decide (r2.1 = 0) then am_run am_ms 148 25 [am_R x0, am_I x1] [] r2.2 else ((am_gfR r2.2 x0 9 15).bind fun f3 => ((am_isc r2.2 x0 9).bind fun _ => ((am_cI 147 [am_R x0, am_R f3, am_I x1] r2.2).bind fun r4 => am_run am_ms 148 26 [am_R x0, am_I x1] [am_I r4.1] r4.2))))))) :=
  (am_xs_run am_ms 148 [(.aload_n 0, 1, []), (.iconst 0, 1, []), (.putfield 53, 3, [9, 0, 5183, 0]), (.aload_n 0, 1, []), (.iload_n 1, 1, []), (.invokevirtual 286, 3, [0, 146, 2, 9, 1, 7038, 7040, 78]), (.ifCond .eq 15, 3, []), (.aload_n 0, 1, []), (.aload_n 0, 1, []), (.getfield 32, 3, [9, 15, 5198, 3]), (.iload_n 1, 1, []), (.invokevirtual 275, 3, [0, 147, 3, 9, 1, 7044, 7046, 79]), (.goto 4, 3, [])] 0 _ _ h (by decide +kernel)).trans rfl
theorem en_148 (x0 : Nat) (x1 : Int) (h : am_H) : am_call am_ms 148 [am_R x0, am_I x1] h = am_run am_ms 148 0 [am_R x0, am_I x1] [] h := rfl
set_option maxHeartbeats 4000000 in
theorem bk_148_25 (x0 : Nat) (x1 : Int) (h : am_H) : am_run am_ms 148 25 [am_R x0, am_I x1] [] h = am_run am_ms 148 26 [am_R x0, am_I x1] [am_I (-1)] h :=
  (am_xs_run am_ms 148 [(.iconst (-1), 1, [])] 25 _ _ h (by decide +kernel)).trans rfl
set_option maxHeartbeats 4000000 in
theorem bk_148_26 (x0 : Nat) (x1 : Int) (y0 : Int) (h : am_H) : am_run am_ms 148 26 [am_R x0, am_I x1] [am_I y0] h = some (some (am_I y0), h) :=
  (am_xs_run am_ms 148 [(.ireturn, 1, [0])] 26 _ _ h (by decide +kernel)).trans rfl
set_option maxHeartbeats 4000000 in
theorem bk_149_0 (x0 : Nat) (x1 : Int) (h : am_H) : am_run am_ms 149 0 [am_R x0, am_I x1] [] h = ((am_gfR h x0 1 10).bind fun f1 => ((am_rd h f1 0 x1).bind fun v2 => (bif decide (¬ v2 = (-1)) then am_run am_ms 149 14 [am_R x0, am_I x1] [] h else am_run am_ms 149 25 [am_R x0, am_I x1] [am_I (-1)] h))) :=
  (am_xs_run am_ms 149 [(.aload_n 0, 1, []), (.getfield 42, 3, [1, 10, 1171, 3]), (.iload_n 1, 1, []), (.iaload, 1, []), (.iconst (-1), 1, []), (.if_icmp .ne 7, 3, []), (.iconst (-1), 1, []), (.goto 14, 3, [])] 0 _ _ h (by decide +kernel)).trans rfl
theorem en_149 (x0 : Nat) (x1 : Int) (h : am_H) : am_call am_ms 149 [am_R x0, am_I x1] h = am_run am_ms 149 0 [am_R x0, am_I x1] [] h := rfl
set_option maxHeartbeats 4000000 in
theorem bk_149_14 (x0 : Nat) (x1 : Int) (h : am_H) : am_run am_ms 149 14 [am_R x0, am_I x1] [] h = ((am_gfR h x0 1 9).bind fun f1 => ((am_gfR h x0 1 10).bind fun f2 => ((am_rd h f2 0 x1).bind fun v3 => ((am_rd h f1 0 v3).bind fun v4 => am_run am_ms 149 25 [am_R x0, am_I x1] [am_I v4] h)))) :=
  (am_xs_run am_ms 149 [(.aload_n 0, 1, []), (.getfield 39, 3, [1, 9, 1168, 3]), (.aload_n 0, 1, []), (.getfield 42, 3, [1, 10, 1171, 3]), (.iload_n 1, 1, []), (.iaload, 1, []), (.iaload, 1, [])] 14 _ _ h (by decide +kernel)).trans rfl
set_option maxHeartbeats 4000000 in
theorem bk_149_25 (x0 : Nat) (x1 : Int) (y0 : Int) (h : am_H) : am_run am_ms 149 25 [am_R x0, am_I x1] [am_I y0] h = some (some (am_I y0), h) :=
  (am_xs_run am_ms 149 [(.ireturn, 1, [0])] 25 _ _ h (by decide +kernel)).trans rfl
set_option maxHeartbeats 4000000 in
theorem bk_150_0 (x0 : Nat) (x1 : Int) (x2 : Int) (h : am_H) : am_run am_ms 150 0 [am_R x0, am_I x1, am_I x2] [] h = ((am_gfR h x0 8 4).bind fun f1 => ((am_isc h f1 1).bind fun _ => ((am_cI 69 [am_R f1, am_I x1] h).bind fun r2 => (bif decide (¬ r2.1 = 0) then am_run am_ms 150 13 [am_R x0, am_I x1, am_I x2] [] r2.2 else some (some (am_I (-1)), r2.2))))) :=
  (am_xs_run am_ms 150 [(.aload_n 0, 1, []), (.getfield 34, 3, [8, 4, 2041, 3]), (.iload_n 1, 1, []), (.invokevirtual 184, 3, [0, 69, 2, 1, 1, 3222, 3055, 3056]), (.ifCond .ne 5, 3, []), (.iconst (-1), 1, []), (.ireturn, 1, [0])] 0 _ _ h (by decide +kernel)).trans rfl
theorem en_150 (x0 : Nat) (x1 : Int) (x2 : Int) (h : am_H) : am_call am_ms 150 [am_R x0, am_I x1, am_I x2] h = am_run am_ms 150 0 [am_R x0, am_I x1, am_I x2] [] h := rfl
set_option maxHeartbeats 4000000 in
theorem bk_150_13 (x0 : Nat) (x1 : Int) (x2 : Int) (h : am_H) : am_run am_ms 150 13 [am_R x0, am_I x1, am_I x2] [] h = am_run am_ms 150 14 [am_R x0, am_I x1, am_I x2] [am_I x2] h :=
  (am_xs_run am_ms 150 [(.iload_n 2, 1, [])] 13 _ _ h (by decide +kernel)).trans rfl
theorem bk_150_14 (x0 : Nat) (x1 : Int) (x2 : Int) (y0 : Int) (h : am_H) : am_run am_ms 150 14 [am_R x0, am_I x1, am_I x2] [am_I y0] h = am_run am_ms 150 (am_tsw 14 68 0 3 #[30, 40, 49, 58] y0) [am_R x0, am_I x1, am_I x2] [] h := by
  rw [am_run_eq, show am_code am_ms 150 14 = some (.tableswitch 68 0 3 #[30, 40, 49, 58], 30, []) from by decide +kernel]
  rfl
set_option maxHeartbeats 4000000 in
theorem bk_150_44 (x0 : Nat) (x1 : Int) (x2 : Int) (h : am_H) : am_run am_ms 150 44 [am_R x0, am_I x1, am_I x2] [] h = ((am_gfR h x0 8 4).bind fun f1 => ((am_gfR h f1 1 10).bind fun f2 => ((am_rd h f2 0 x1).bind fun v3 => some (some (am_I v3), h)))) :=
  (am_xs_run am_ms 150 [(.aload_n 0, 1, []), (.getfield 34, 3, [8, 4, 2041, 3]), (.getfield 187, 3, [1, 10, 1173, 3]), (.iload_n 1, 1, []), (.iaload, 1, []), (.ireturn, 1, [0])] 44 _ _ h (by decide +kernel)).trans rfl
set_option maxHeartbeats 4000000 in
theorem bk_150_54 (x0 : Nat) (x1 : Int) (x2 : Int) (h : am_H) : am_run am_ms 150 54 [am_R x0, am_I x1, am_I x2] [] h = ((am_gfR h x0 8 4).bind fun f1 => ((am_isc h f1 1).bind fun _ => ((am_cI 149 [am_R f1, am_I x1] h).bind fun r2 => some (some (am_I r2.1), r2.2)))) :=
  (am_xs_run am_ms 150 [(.aload_n 0, 1, []), (.getfield 34, 3, [8, 4, 2041, 3]), (.iload_n 1, 1, []), (.invokevirtual 190, 3, [0, 149, 2, 1, 1, 3223, 3224, 3225]), (.ireturn, 1, [0])] 54 _ _ h (by decide +kernel)).trans rfl
set_option maxHeartbeats 4000000 in
theorem bk_150_63 (x0 : Nat) (x1 : Int) (x2 : Int) (h : am_H) : am_run am_ms 150 63 [am_R x0, am_I x1, am_I x2] [] h = ((am_gfR h x0 8 4).bind fun f1 => ((am_isc h f1 1).bind fun _ => ((am_cI 71 [am_R f1, am_I x1] h).bind fun r2 => some (some (am_I r2.1), r2.2)))) :=
  (am_xs_run am_ms 150 [(.aload_n 0, 1, []), (.getfield 34, 3, [8, 4, 2041, 3]), (.iload_n 1, 1, []), (.invokevirtual 193, 3, [0, 71, 2, 1, 1, 3227, 3063, 3064]), (.ireturn, 1, [0])] 63 _ _ h (by decide +kernel)).trans rfl
set_option maxHeartbeats 4000000 in
theorem bk_150_72 (x0 : Nat) (x1 : Int) (x2 : Int) (h : am_H) : am_run am_ms 150 72 [am_R x0, am_I x1, am_I x2] [] h = ((am_gfR h x0 8 4).bind fun f1 => ((am_gfR h f1 1 12).bind fun f2 => ((am_rd h f2 0 x1).bind fun v3 => some (some (am_I v3), h)))) :=
  (am_xs_run am_ms 150 [(.aload_n 0, 1, []), (.getfield 34, 3, [8, 4, 2041, 3]), (.getfield 196, 3, [1, 12, 1176, 3]), (.iload_n 1, 1, []), (.iaload, 1, []), (.ireturn, 1, [0])] 72 _ _ h (by decide +kernel)).trans rfl
set_option maxHeartbeats 4000000 in
theorem bk_150_82 (x0 : Nat) (x1 : Int) (x2 : Int) (h : am_H) : am_run am_ms 150 82 [am_R x0, am_I x1, am_I x2] [] h = some (some (am_I (-1)), h) :=
  (am_xs_run am_ms 150 [(.iconst (-1), 1, []), (.ireturn, 1, [0])] 82 _ _ h (by decide +kernel)).trans rfl
set_option maxHeartbeats 4000000 in
theorem bk_151_0 (x0 : Nat) (x1 : Int) (x2 : Int) (h : am_H) : am_run am_ms 151 0 [am_R x0, am_I x1, am_I x2, am_K 1] [] h = ((am_pf h x0 9 0 (am_I 0)).bind fun h1 => ((am_isc h1 x0 9).bind fun _ => ((am_cI 146 [am_R x0, am_I x1] h1).bind fun r2 => (bif decide (r2.1 = 0) then am_run am_ms 151 25 [am_R x0, am_I x1, am_I x2, am_K 1] [] r2.2 else ((am_cI 40 [am_L x2, am_L 0, am_L 3] r2.2).bind fun r3 => (bif decide (¬ r3.1 = 0) then am_run am_ms 151 27 [am_R x0, am_I x1, am_I x2, am_K 1] [] r3.2 else am_run am_ms 151 25 [am_R x0, am_I x1, am_I x2, am_K 1] [] r3.2)))))) :=
  (am_xs_run am_ms 151 [(.aload_n 0, 1, []), (.iconst 0, 1, []), (.putfield 53, 3, [9, 0, 5183, 0]), (.aload_n 0, 1, []), (.iload_n 1, 1, []), (.invokevirtual 286, 3, [0, 146, 2, 9, 1, 7038, 7040, 78]), (.ifCond .eq 15, 3, []), (.iload_n 2, 1, []), (.i2l, 1, []), (.lconst 0, 1, []), (.ldc2_w 298, 3, [0, 3, 7056]), (.invokestatic 96, 3, [1, 40, 3, 0, 1, 6060, 6061]), (.ifCond .ne 5, 3, [])] 0 _ _ h (by decide +kernel)).trans rfl
theorem en_151 (x0 : Nat) (x1 : Int) (x2 : Int) (h : am_H) : am_call am_ms 151 [am_R x0, am_I x1, am_I x2] h = am_run am_ms 151 0 [am_R x0, am_I x1, am_I x2, am_K 1] [] h := rfl
set_option maxHeartbeats 4000000 in
theorem bk_151_25 (x0 : Nat) (x1 : Int) (x2 : Int) (h : am_H) : am_run am_ms 151 25 [am_R x0, am_I x1, am_I x2, am_K 1] [] h = some (some (am_I (-1)), h) :=
  (am_xs_run am_ms 151 [(.iconst (-1), 1, []), (.ireturn, 1, [0])] 25 _ _ h (by decide +kernel)).trans rfl
set_option maxHeartbeats 4000000 in
theorem bk_151_27 (x0 : Nat) (x1 : Int) (x2 : Int) (h : am_H) : am_run am_ms 151 27 [am_R x0, am_I x1, am_I x2, am_K 1] [] h = ((am_gfR h x0 9 15).bind fun f1 => ((am_isc h x0 9).bind fun _ => ((am_cI 109 [am_R x0, am_R f1, am_I x1] h).bind fun r2 => am_run am_ms 151 38 [am_R x0, am_I x1, am_I x2, am_I r2.1] [am_I x2] r2.2))) :=
  (am_xs_run am_ms 151 [(.aload_n 0, 1, []), (.aload_n 0, 1, []), (.getfield 32, 3, [9, 15, 5198, 3]), (.iload_n 1, 1, []), (.invokevirtual 180, 3, [0, 109, 3, 9, 1, 6162, 6164, 51]), (.istore_n 3, 1, []), (.iload_n 2, 1, [])] 27 _ _ h (by decide +kernel)).trans rfl
theorem bk_151_38 (x0 : Nat) (x1 : Int) (x2 : Int) (x3 : Int) (y0 : Int) (h : am_H) : am_run am_ms 151 38 [am_R x0, am_I x1, am_I x2, am_I x3] [am_I y0] h = am_run am_ms 151 (am_tsw 38 58 0 2 #[26, 28, 48] y0) [am_R x0, am_I x1, am_I x2, am_I x3] [] h := by
  rw [am_run_eq, show am_code am_ms 151 38 = some (.tableswitch 58 0 2 #[26, 28, 48], 26, []) from by decide +kernel]
  rfl
set_option maxHeartbeats 4000000 in
theorem bk_151_64 (x0 : Nat) (x1 : Int) (x2 : Int) (x3 : Int) (h : am_H) : am_run am_ms 151 64 [am_R x0, am_I x1, am_I x2, am_I x3] [] h = some (some (am_I x3), h) :=
  (am_xs_run am_ms 151 [(.iload_n 3, 1, []), (.ireturn, 1, [0])] 64 _ _ h (by decide +kernel)).trans rfl
set_option maxHeartbeats 4000000 in
theorem bk_151_66 (x0 : Nat) (x1 : Int) (x2 : Int) (x3 : Int) (h : am_H) : am_run am_ms 151 66 [am_R x0, am_I x1, am_I x2, am_I x3] [] h = (bif decide (¬ x3 = (-1)) then am_run am_ms 151 75 [am_R x0, am_I x1, am_I x2, am_I x3] [] h else am_run am_ms 151 85 [am_R x0, am_I x1, am_I x2, am_I x3] [am_I (-1)] h) :=
  (am_xs_run am_ms 151 [(.iload_n 3, 1, []), (.iconst (-1), 1, []), (.if_icmp .ne 7, 3, []), (.iconst (-1), 1, []), (.goto 13, 3, [])] 66 _ _ h (by decide +kernel)).trans rfl
set_option maxHeartbeats 4000000 in
theorem bk_151_75 (x0 : Nat) (x1 : Int) (x2 : Int) (x3 : Int) (h : am_H) : am_run am_ms 151 75 [am_R x0, am_I x1, am_I x2, am_I x3] [] h = ((am_gfR h x0 9 15).bind fun f1 => ((am_rd h f1 0 (am_w (288 + x3))).bind fun v2 => am_run am_ms 151 85 [am_R x0, am_I x1, am_I x2, am_I x3] [am_I v2] h)) :=
  (am_xs_run am_ms 151 [(.aload_n 0, 1, []), (.getfield 32, 3, [9, 15, 5198, 3]), (.sipush 288, 3, []), (.iload_n 3, 1, []), (.iadd, 1, []), (.iaload, 1, [])] 75 _ _ h (by decide +kernel)).trans rfl
set_option maxHeartbeats 4000000 in
theorem bk_151_85 (x0 : Nat) (x1 : Int) (x2 : Int) (x3 : Int) (y0 : Int) (h : am_H) : am_run am_ms 151 85 [am_R x0, am_I x1, am_I x2, am_I x3] [am_I y0] h = some (some (am_I y0), h) :=
  (am_xs_run am_ms 151 [(.ireturn, 1, [0])] 85 _ _ h (by decide +kernel)).trans rfl
set_option maxHeartbeats 4000000 in
theorem bk_151_86 (x0 : Nat) (x1 : Int) (x2 : Int) (x3 : Int) (h : am_H) : am_run am_ms 151 86 [am_R x0, am_I x1, am_I x2, am_I x3] [] h = ((am_gfR h x0 9 15).bind fun f1 => ((am_isc h x0 9).bind fun _ => ((am_cI 110 [am_R x0, am_R f1, am_I x1] h).bind fun r2 => some (some (am_I r2.1), r2.2)))) :=
  (am_xs_run am_ms 151 [(.aload_n 0, 1, []), (.aload_n 0, 1, []), (.getfield 32, 3, [9, 15, 5198, 3]), (.iload_n 1, 1, []), (.invokevirtual 263, 3, [0, 110, 3, 9, 1, 6158, 6160, 50]), (.ireturn, 1, [0])] 86 _ _ h (by decide +kernel)).trans rfl
set_option maxHeartbeats 4000000 in
theorem bk_151_96 (x0 : Nat) (x1 : Int) (x2 : Int) (x3 : Int) (h : am_H) : am_run am_ms 151 96 [am_R x0, am_I x1, am_I x2, am_I x3] [] h = ((am_gfR h x0 9 15).bind fun f1 => ((am_isc h x0 9).bind fun _ => ((am_cI 113 [am_R x0, am_R f1, am_I x1, am_I 2147483647] h).bind fun r2 => some (some (am_I r2.1), r2.2)))) :=
  (am_xs_run am_ms 151 [(.aload_n 0, 1, []), (.aload_n 0, 1, []), (.getfield 32, 3, [9, 15, 5198, 3]), (.iload_n 1, 1, []), (.ldc_w 357, 3, [0, 2147483647, 7172]), (.invokevirtual 184, 3, [0, 113, 4, 9, 1, 6194, 6196, 59]), (.ireturn, 1, [0])] 96 _ _ h (by decide +kernel)).trans rfl
set_option maxHeartbeats 4000000 in
theorem bk_152_0 (x0 : Nat) (x1 : Int) (h : am_H) : am_run am_ms 152 0 [am_R x0, am_I x1, am_K 1] [] h = (bif decide (0 ≤ x1) then am_run am_ms 152 6 [am_R x0, am_I x1, am_K 1] [] h else some (some (am_I (-1)), h)) :=
  (am_xs_run am_ms 152 [(.iload_n 1, 1, []), (.ifCond .ge 5, 3, []), (.iconst (-1), 1, []), (.ireturn, 1, [0])] 0 _ _ h (by decide +kernel)).trans rfl
theorem en_152 (x0 : Nat) (x1 : Int) (h : am_H) : am_call am_ms 152 [am_R x0, am_I x1] h = am_run am_ms 152 0 [am_R x0, am_I x1, am_K 1] [] h := rfl
set_option maxHeartbeats 4000000 in
theorem bk_152_6 (x0 : Nat) (x1 : Int) (h : am_H) : am_run am_ms 152 6 [am_R x0, am_I x1, am_K 1] [] h = am_run am_ms 152 8 [am_R x0, am_I x1, am_I x1] [] h :=
  (am_xs_run am_ms 152 [(.iload_n 1, 1, []), (.istore_n 2, 1, [])] 6 _ _ h (by decide +kernel)).trans rfl
set_option maxHeartbeats 4000000 in
theorem bk_152_8 (x0 : Nat) (x1 : Int) (x2 : Int) (h : am_H) : am_run am_ms 152 8 [am_R x0, am_I x1, am_I x2] [] h = (bif decide (32 ≤ x2) then am_run am_ms 152 34 [am_R x0, am_I x1, am_I x2] [] h else ((am_gfR h x0 8 4).bind fun f1 => ((am_isc h f1 1).bind fun _ => ((am_cI 70 [am_R f1, am_I x2] h).bind fun r2 => (bif decide (r2.1 = (-1)) then am_run am_ms 152 28 [am_R x0, am_I x1, am_I x2] [] r2.2 else some (some (am_I x2), r2.2)))))) :=
  (am_xs_run am_ms 152 [(.iload_n 2, 1, []), (.bipush 32, 2, []), (.if_icmp .ge 23, 3, []), (.aload_n 0, 1, []), (.getfield 34, 3, [8, 4, 2041, 3]), (.iload_n 2, 1, []), (.invokevirtual 181, 3, [0, 70, 2, 1, 1, 3217, 3059, 3060]), (.iconst (-1), 1, []), (.if_icmp .eq 5, 3, []), (.iload_n 2, 1, []), (.ireturn, 1, [0])] 8 _ _ h (by decide +kernel)).trans rfl
set_option maxHeartbeats 4000000 in
theorem bk_152_28 (x0 : Nat) (x1 : Int) (x2 : Int) (h : am_H) : am_run am_ms 152 28 [am_R x0, am_I x1, am_I x2] [] h = am_run am_ms 152 8 [am_R x0, am_I x1, am_I (am_w (x2 + 1))] [] h :=
  (am_xs_run am_ms 152 [(.iinc 2 1, 3, []), (.goto (-23), 3, [])] 28 _ _ h (by decide +kernel)).trans rfl
set_option maxHeartbeats 4000000 in
theorem bk_152_34 (x0 : Nat) (x1 : Int) (x2 : Int) (h : am_H) : am_run am_ms 152 34 [am_R x0, am_I x1, am_I x2] [] h = some (some (am_I (-1)), h) :=
  (am_xs_run am_ms 152 [(.iconst (-1), 1, []), (.ireturn, 1, [0])] 34 _ _ h (by decide +kernel)).trans rfl
set_option maxHeartbeats 4000000 in
theorem bk_153_0 (x0 : Nat) (x1 : Int) (h : am_H) : am_run am_ms 153 0 [am_R x0, am_I x1, am_K 1] [] h = ((am_pf h x0 9 0 (am_I 0)).bind fun h1 => ((am_isc h1 x0 9).bind fun _ => ((am_cI 146 [am_R x0, am_I x1] h1).bind fun r2 => (bif decide (¬ r2.1 = 0) then am_run am_ms 153 15 [am_R x0, am_I x1, am_K 1] [] r2.2 else some (some (am_I (-1)), r2.2))))) :=
  (am_xs_run am_ms 153 [(.aload_n 0, 1, []), (.iconst 0, 1, []), (.putfield 53, 3, [9, 0, 5183, 0]), (.aload_n 0, 1, []), (.iload_n 1, 1, []), (.invokevirtual 286, 3, [0, 146, 2, 9, 1, 7038, 7040, 78]), (.ifCond .ne 5, 3, []), (.iconst (-1), 1, []), (.ireturn, 1, [0])] 0 _ _ h (by decide +kernel)).trans rfl
theorem en_153 (x0 : Nat) (x1 : Int) (h : am_H) : am_call am_ms 153 [am_R x0, am_I x1] h = am_run am_ms 153 0 [am_R x0, am_I x1, am_K 1] [] h := rfl
set_option maxHeartbeats 4000000 in
theorem bk_153_15 (x0 : Nat) (x1 : Int) (h : am_H) : am_run am_ms 153 15 [am_R x0, am_I x1, am_K 1] [] h = am_run am_ms 153 17 [am_R x0, am_I x1, am_I x1] [] h :=
  (am_xs_run am_ms 153 [(.iload_n 1, 1, []), (.istore_n 2, 1, [])] 15 _ _ h (by decide +kernel)).trans rfl
set_option maxHeartbeats 4000000 in
theorem bk_153_17 (x0 : Nat) (x1 : Int) (x2 : Int) (h : am_H) : am_run am_ms 153 17 [am_R x0, am_I x1, am_I x2] [] h = (bif decide (32 ≤ x2) then am_run am_ms 153 44 [am_R x0, am_I x1, am_I x2] [] h else ((am_gfR h x0 9 15).bind fun f1 => ((am_isc h x0 9).bind fun _ => ((am_cI 147 [am_R x0, am_R f1, am_I x2] h).bind fun r2 => (bif decide (r2.1 = (-1)) then am_run am_ms 153 38 [am_R x0, am_I x1, am_I x2] [] r2.2 else some (some (am_I x2), r2.2)))))) :=
  (am_xs_run am_ms 153 [(.iload_n 2, 1, []), (.bipush 32, 2, []), (.if_icmp .ge 24, 3, []), (.aload_n 0, 1, []), (.aload_n 0, 1, []), (.getfield 32, 3, [9, 15, 5198, 3]), (.iload_n 2, 1, []), (.invokevirtual 275, 3, [0, 147, 3, 9, 1, 7044, 7046, 79]), (.iconst (-1), 1, []), (.if_icmp .eq 5, 3, []), (.iload_n 2, 1, []), (.ireturn, 1, [0])] 17 _ _ h (by decide +kernel)).trans rfl
set_option maxHeartbeats 4000000 in
theorem bk_153_38 (x0 : Nat) (x1 : Int) (x2 : Int) (h : am_H) : am_run am_ms 153 38 [am_R x0, am_I x1, am_I x2] [] h = am_run am_ms 153 17 [am_R x0, am_I x1, am_I (am_w (x2 + 1))] [] h :=
  (am_xs_run am_ms 153 [(.iinc 2 1, 3, []), (.goto (-24), 3, [])] 38 _ _ h (by decide +kernel)).trans rfl
set_option maxHeartbeats 4000000 in
theorem bk_153_44 (x0 : Nat) (x1 : Int) (x2 : Int) (h : am_H) : am_run am_ms 153 44 [am_R x0, am_I x1, am_I x2] [] h = some (some (am_I (-1)), h) :=
  (am_xs_run am_ms 153 [(.iconst (-1), 1, []), (.ireturn, 1, [0])] 44 _ _ h (by decide +kernel)).trans rfl
set_option maxHeartbeats 4000000 in
theorem bk_154_0 (x0 : Nat) (x1 : Int) (x2 : Int) (x3 : Int) (h : am_H) : am_run am_ms 154 0 [am_R x0, am_I x1, am_I x2, am_I x3, am_K 1, am_K 1, am_K 1, am_K 1] [] h = ((am_gfR h x0 8 4).bind fun f1 => ((am_isc h f1 1).bind fun _ => ((am_cI 69 [am_R f1, am_I x1] h).bind fun r2 => (bif decide (r2.1 = 0) then am_run am_ms 154 36 [am_R x0, am_I x1, am_I x2, am_I x3, am_K 1, am_K 1, am_K 1, am_K 1] [] r2.2 else ((am_gfR r2.2 x0 8 4).bind fun f3 => ((am_isc r2.2 f3 1).bind fun _ => ((am_cI 69 [am_R f3, am_I x2] r2.2).bind fun r4 => (bif decide (r4.1 = 0) then am_run am_ms 154 36 [am_R x0, am_I x1, am_I x2, am_I x3, am_K 1, am_K 1, am_K 1, am_K 1] [] r4.2 else (bif decide (x2 < x1) then am_run am_ms 154 36 [am_R x0, am_I x1, am_I x2, am_I x3, am_K 1, am_K 1, am_K 1, am_K 1] [] r4.2 else am_run am_ms 154 28 [am_R x0, am_I x1, am_I x2, am_I x3, am_K 1, am_K 1, am_K 1, am_K 1] [am_I x3] r4.2))))))))) :=
  (am_xs_run am_ms 154 [(.aload_n 0, 1, []), (.getfield 34, 3, [8, 4, 2041, 3]), (.iload_n 1, 1, []), (.invokevirtual 184, 3, [0, 69, 2, 1, 1, 3222, 3055, 3056]), (.ifCond .eq 28, 3, []), (.aload_n 0, 1, []), (.getfield 34, 3, [8, 4, 2041, 3]), (.iload_n 2, 1, []), (.invokevirtual 184, 3, [0, 69, 2, 1, 1, 3222, 3055, 3056]), (.ifCond .eq 17, 3, []), (.iload_n 2, 1, []), (.iload_n 1, 1, []), (.if_icmp .lt 12, 3, []), (.iload_n 3, 1, [])] 0 _ _ h (by decide +kernel)).trans rfl
theorem en_154 (x0 : Nat) (x1 : Int) (x2 : Int) (x3 : Int) (h : am_H) : am_call am_ms 154 [am_R x0, am_I x1, am_I x2, am_I x3] h = am_run am_ms 154 0 [am_R x0, am_I x1, am_I x2, am_I x3, am_K 1, am_K 1, am_K 1, am_K 1] [] h := rfl
set_option maxHeartbeats 4000000 in
theorem bk_154_28 (x0 : Nat) (x1 : Int) (x2 : Int) (x3 : Int) (y0 : Int) (h : am_H) : am_run am_ms 154 28 [am_R x0, am_I x1, am_I x2, am_I x3, am_K 1, am_K 1, am_K 1, am_K 1] [am_I y0] h = (bif decide (y0 < 0) then am_run am_ms 154 36 [am_R x0, am_I x1, am_I x2, am_I x3, am_K 1, am_K 1, am_K 1, am_K 1] [] h else (bif decide (x3 ≤ 1) then am_run am_ms 154 38 [am_R x0, am_I x1, am_I x2, am_I x3, am_K 1, am_K 1, am_K 1, am_K 1] [] h else am_run am_ms 154 36 [am_R x0, am_I x1, am_I x2, am_I x3, am_K 1, am_K 1, am_K 1, am_K 1] [] h)) :=
  (am_xs_run am_ms 154 [(.ifCond .lt 8, 3, []), (.iload_n 3, 1, []), (.iconst 1, 1, []), (.if_icmp .le 5, 3, [])] 28 _ _ h (by decide +kernel)).trans rfl
set_option maxHeartbeats 4000000 in
theorem bk_154_36 (x0 : Nat) (x1 : Int) (x2 : Int) (x3 : Int) (h : am_H) : am_run am_ms 154 36 [am_R x0, am_I x1, am_I x2, am_I x3, am_K 1, am_K 1, am_K 1, am_K 1] [] h = some (some (am_I (-1)), h) :=
  (am_xs_run am_ms 154 [(.iconst (-1), 1, []), (.ireturn, 1, [0])] 36 _ _ h (by decide +kernel)).trans rfl
set_option maxHeartbeats 4000000 in
theorem bk_154_38 (x0 : Nat) (x1 : Int) (x2 : Int) (x3 : Int) (h : am_H) : am_run am_ms 154 38 [am_R x0, am_I x1, am_I x2, am_I x3, am_K 1, am_K 1, am_K 1, am_K 1] [] h = am_run am_ms 154 47 [am_R x0, am_I x1, am_I x2, am_I x3, am_I 0, am_I 0, am_I x1, am_K 1] [] h :=
  (am_xs_run am_ms 154 [(.iconst 0, 1, []), (.istore 4, 2, []), (.iconst 0, 1, []), (.istore 5, 2, []), (.iload_n 1, 1, []), (.istore 6, 2, [])] 38 _ _ h (by decide +kernel)).trans rfl
set_option maxHeartbeats 4000000 in
theorem bk_154_47 (x0 : Nat) (x1 : Int) (x2 : Int) (x3 : Int) (x4 : Int) (x5 : Int) (x6 : Int) (x7 : am_V) (h : am_H) : am_run am_ms 154 47 [am_R x0, am_I x1, am_I x2, am_I x3, am_I x4, am_I x5, am_I x6, x7] [] h = (bif decide (x2 < x6) then am_run am_ms 154 86 [am_R x0, am_I x1, am_I x2, am_I x3, am_I x4, am_I x5, am_I x6, x7] [] h else ((am_gfR h x0 8 4).bind fun f1 => ((am_isc h f1 1).bind fun _ => ((am_cI 70 [am_R f1, am_I x6] h).bind fun r2 => (bif decide (r2.1 = (-1)) then am_run am_ms 154 80 [am_R x0, am_I x1, am_I x2, am_I x3, am_I x4, am_I x5, am_I x6, am_I r2.1] [] r2.2 else am_run am_ms 154 77 [am_R x0, am_I x1, am_I x2, am_I x3, am_I (am_w (x4 + 1)), am_I x5, am_I x6, am_I r2.1] [am_I r2.1, am_I x5] r2.2))))) :=
  (am_xs_run am_ms 154 [(.iload 6, 2, []), (.iload_n 2, 1, []), (.if_icmp .gt 36, 3, []), (.aload_n 0, 1, []), (.getfield 34, 3, [8, 4, 2041, 3]), (.iload 6, 2, []), (.invokevirtual 181, 3, [0, 70, 2, 1, 1, 3217, 3059, 3060]), (.istore 7, 2, []), (.iload 7, 2, []), (.iconst (-1), 1, []), (.if_icmp .eq 13, 3, []), (.iinc 4 1, 3, []), (.iload 5, 2, []), (.iload 7, 2, [])] 47 _ _ h (by decide +kernel)).trans rfl
set_option maxHeartbeats 4000000 in
theorem bk_154_77 (x0 : Nat) (x1 : Int) (x2 : Int) (x3 : Int) (x4 : Int) (x5 : Int) (x6 : Int) (x7 : Int) (y0 : Int) (y1 : Int) (h : am_H) : am_run am_ms 154 77 [am_R x0, am_I x1, am_I x2, am_I x3, am_I x4, am_I x5, am_I x6, am_I x7] [am_I y0, am_I y1] h = am_run am_ms 154 80 [am_R x0, am_I x1, am_I x2, am_I x3, am_I x4, am_I (am_w (y1 + y0)), am_I x6, am_I x7] [] h :=
  (am_xs_run am_ms 154 [(.iadd, 1, []), (.istore 5, 2, [])] 77 _ _ h (by decide +kernel)).trans rfl
set_option maxHeartbeats 4000000 in
theorem bk_154_80 (x0 : Nat) (x1 : Int) (x2 : Int) (x3 : Int) (x4 : Int) (x5 : Int) (x6 : Int) (x7 : Int) (h : am_H) : am_run am_ms 154 80 [am_R x0, am_I x1, am_I x2, am_I x3, am_I x4, am_I x5, am_I x6, am_I x7] [] h = am_run am_ms 154 47 [am_R x0, am_I x1, am_I x2, am_I x3, am_I x4, am_I x5, am_I (am_w (x6 + 1)), am_I x7] [] h :=
  (am_xs_run am_ms 154 [(.iinc 6 1, 3, []), (.goto (-36), 3, [])] 80 _ _ h (by decide +kernel)).trans rfl
set_option maxHeartbeats 4000000 in
theorem bk_154_86 (x0 : Nat) (x1 : Int) (x2 : Int) (x3 : Int) (x4 : Int) (x5 : Int) (x6 : Int) (x7 : am_V) (h : am_H) : am_run am_ms 154 86 [am_R x0, am_I x1, am_I x2, am_I x3, am_I x4, am_I x5, am_I x6, x7] [] h = (bif decide (¬ x3 = 0) then am_run am_ms 154 95 [am_R x0, am_I x1, am_I x2, am_I x3, am_I x4, am_I x5, am_I x6, x7] [] h else am_run am_ms 154 97 [am_R x0, am_I x1, am_I x2, am_I x3, am_I x4, am_I x5, am_I x6, x7] [am_I x4] h) :=
  (am_xs_run am_ms 154 [(.iload_n 3, 1, []), (.ifCond .ne 8, 3, []), (.iload 4, 2, []), (.goto 5, 3, [])] 86 _ _ h (by decide +kernel)).trans rfl
set_option maxHeartbeats 4000000 in
theorem bk_154_95 (x0 : Nat) (x1 : Int) (x2 : Int) (x3 : Int) (x4 : Int) (x5 : Int) (x6 : Int) (x7 : am_V) (h : am_H) : am_run am_ms 154 95 [am_R x0, am_I x1, am_I x2, am_I x3, am_I x4, am_I x5, am_I x6, x7] [] h = am_run am_ms 154 97 [am_R x0, am_I x1, am_I x2, am_I x3, am_I x4, am_I x5, am_I x6, x7] [am_I x5] h :=
  (am_xs_run am_ms 154 [(.iload 5, 2, [])] 95 _ _ h (by decide +kernel)).trans rfl
set_option maxHeartbeats 4000000 in
theorem bk_154_97 (x0 : Nat) (x1 : Int) (x2 : Int) (x3 : Int) (x4 : Int) (x5 : Int) (x6 : Int) (x7 : am_V) (y0 : Int) (h : am_H) : am_run am_ms 154 97 [am_R x0, am_I x1, am_I x2, am_I x3, am_I x4, am_I x5, am_I x6, x7] [am_I y0] h = some (some (am_I y0), h) :=
  (am_xs_run am_ms 154 [(.ireturn, 1, [0])] 97 _ _ h (by decide +kernel)).trans rfl
set_option maxHeartbeats 4000000 in
theorem bk_155_0 (x0 : Nat) (x1 : Int) (x2 : Int) (x3 : Int) (h : am_H) : am_run am_ms 155 0 [am_R x0, am_I x1, am_I x2, am_I x3, am_K 1, am_K 1, am_K 1, am_K 1] [] h = ((am_pf h x0 9 0 (am_I 0)).bind fun h1 => ((am_isc h1 x0 9).bind fun _ => ((am_cI 146 [am_R x0, am_I x1] h1).bind fun r2 => (bif decide (r2.1 = 0) then am_run am_ms 155 36 [am_R x0, am_I x1, am_I x2, am_I x3, am_K 1, am_K 1, am_K 1, am_K 1] [] r2.2 else ((am_isc r2.2 x0 9).bind fun _ => ((am_cI 146 [am_R x0, am_I x2] r2.2).bind fun r3 => (bif decide (r3.1 = 0) then am_run am_ms 155 36 [am_R x0, am_I x1, am_I x2, am_I x3, am_K 1, am_K 1, am_K 1, am_K 1] [] r3.2 else (bif decide (x2 < x1) then am_run am_ms 155 36 [am_R x0, am_I x1, am_I x2, am_I x3, am_K 1, am_K 1, am_K 1, am_K 1] [] r3.2 else am_run am_ms 155 26 [am_R x0, am_I x1, am_I x2, am_I x3, am_K 1, am_K 1, am_K 1, am_K 1] [] r3.2)))))))) :=
  (am_xs_run am_ms 155 [(.aload_n 0, 1, []), (.iconst 0, 1, []), (.putfield 53, 3, [9, 0, 5183, 0]), (.aload_n 0, 1, []), (.iload_n 1, 1, []), (.invokevirtual 286, 3, [0, 146, 2, 9, 1, 7038, 7040, 78]), (.ifCond .eq 26, 3, []), (.aload_n 0, 1, []), (.iload_n 2, 1, []), (.invokevirtual 286, 3, [0, 146, 2, 9, 1, 7038, 7040, 78]), (.ifCond .eq 18, 3, []), (.iload_n 2, 1, []), (.iload_n 1, 1, []), (.if_icmp .lt 13, 3, [])] 0 _ _ h (by decide +kernel)).trans rfl
theorem en_155 (x0 : Nat) (x1 : Int) (x2 : Int) (x3 : Int) (h : am_H) : am_call am_ms 155 [am_R x0, am_I x1, am_I x2, am_I x3] h = am_run am_ms 155 0 [am_R x0, am_I x1, am_I x2, am_I x3, am_K 1, am_K 1, am_K 1, am_K 1] [] h := rfl
set_option maxHeartbeats 4000000 in
theorem bk_155_26 (x0 : Nat) (x1 : Int) (x2 : Int) (x3 : Int) (h : am_H) : am_run am_ms 155 26 [am_R x0, am_I x1, am_I x2, am_I x3, am_K 1, am_K 1, am_K 1, am_K 1] [] h = ((am_cI 40 [am_L x3, am_L 0, am_L 1] h).bind fun r1 => (bif decide (¬ r1.1 = 0) then am_run am_ms 155 38 [am_R x0, am_I x1, am_I x2, am_I x3, am_K 1, am_K 1, am_K 1, am_K 1] [] r1.2 else am_run am_ms 155 36 [am_R x0, am_I x1, am_I x2, am_I x3, am_K 1, am_K 1, am_K 1, am_K 1] [] r1.2)) :=
  (am_xs_run am_ms 155 [(.iload_n 3, 1, []), (.i2l, 1, []), (.lconst 0, 1, []), (.lconst 1, 1, []), (.invokestatic 96, 3, [1, 40, 3, 0, 1, 6060, 6061]), (.ifCond .ne 5, 3, [])] 26 _ _ h (by decide +kernel)).trans rfl
set_option maxHeartbeats 4000000 in
theorem bk_155_36 (x0 : Nat) (x1 : Int) (x2 : Int) (x3 : Int) (h : am_H) : am_run am_ms 155 36 [am_R x0, am_I x1, am_I x2, am_I x3, am_K 1, am_K 1, am_K 1, am_K 1] [] h = some (some (am_I (-1)), h) :=
  (am_xs_run am_ms 155 [(.iconst (-1), 1, []), (.ireturn, 1, [0])] 36 _ _ h (by decide +kernel)).trans rfl
set_option maxHeartbeats 4000000 in
theorem bk_155_38 (x0 : Nat) (x1 : Int) (x2 : Int) (x3 : Int) (h : am_H) : am_run am_ms 155 38 [am_R x0, am_I x1, am_I x2, am_I x3, am_K 1, am_K 1, am_K 1, am_K 1] [] h = am_run am_ms 155 47 [am_R x0, am_I x1, am_I x2, am_I x3, am_I 0, am_I 0, am_I x1, am_K 1] [] h :=
  (am_xs_run am_ms 155 [(.iconst 0, 1, []), (.istore 4, 2, []), (.iconst 0, 1, []), (.istore 5, 2, []), (.iload_n 1, 1, []), (.istore 6, 2, [])] 38 _ _ h (by decide +kernel)).trans rfl
set_option maxHeartbeats 4000000 in
theorem bk_155_47 (x0 : Nat) (x1 : Int) (x2 : Int) (x3 : Int) (x4 : Int) (x5 : Int) (x6 : Int) (x7 : am_V) (h : am_H) : am_run am_ms 155 47 [am_R x0, am_I x1, am_I x2, am_I x3, am_I x4, am_I x5, am_I x6, x7] [] h = (bif decide (x2 < x6) then am_run am_ms 155 90 [am_R x0, am_I x1, am_I x2, am_I x3, am_I x4, am_I x5, am_I x6, x7] [] h else ((am_gfR h x0 9 15).bind fun f1 => ((am_isc h x0 9).bind fun _ => ((am_cI 147 [am_R x0, am_R f1, am_I x6] h).bind fun r2 => (bif decide (¬ r2.1 = (-1)) then am_run am_ms 155 74 [am_R x0, am_I x1, am_I x2, am_I x3, am_I x4, am_I x5, am_I x6, am_I r2.1] [] r2.2 else am_run am_ms 155 84 [am_R x0, am_I x1, am_I x2, am_I x3, am_I x4, am_I x5, am_I x6, am_I r2.1] [] r2.2))))) :=
  (am_xs_run am_ms 155 [(.iload 6, 2, []), (.iload_n 2, 1, []), (.if_icmp .gt 40, 3, []), (.aload_n 0, 1, []), (.aload_n 0, 1, []), (.getfield 32, 3, [9, 15, 5198, 3]), (.iload 6, 2, []), (.invokevirtual 275, 3, [0, 147, 3, 9, 1, 7044, 7046, 79]), (.istore 7, 2, []), (.iload 7, 2, []), (.iconst (-1), 1, []), (.if_icmp .ne 6, 3, []), (.goto 13, 3, [])] 47 _ _ h (by decide +kernel)).trans rfl
set_option maxHeartbeats 4000000 in
theorem bk_155_74 (x0 : Nat) (x1 : Int) (x2 : Int) (x3 : Int) (x4 : Int) (x5 : Int) (x6 : Int) (x7 : Int) (h : am_H) : am_run am_ms 155 74 [am_R x0, am_I x1, am_I x2, am_I x3, am_I x4, am_I x5, am_I x6, am_I x7] [] h = am_run am_ms 155 84 [am_R x0, am_I x1, am_I x2, am_I x3, am_I (am_w (x4 + 1)), am_I (am_w (x5 + x7)), am_I x6, am_I x7] [] h :=
  (am_xs_run am_ms 155 [(.iinc 4 1, 3, []), (.iload 5, 2, []), (.iload 7, 2, []), (.iadd, 1, []), (.istore 5, 2, [])] 74 _ _ h (by decide +kernel)).trans rfl
set_option maxHeartbeats 4000000 in
theorem bk_155_84 (x0 : Nat) (x1 : Int) (x2 : Int) (x3 : Int) (x4 : Int) (x5 : Int) (x6 : Int) (x7 : Int) (h : am_H) : am_run am_ms 155 84 [am_R x0, am_I x1, am_I x2, am_I x3, am_I x4, am_I x5, am_I x6, am_I x7] [] h = am_run am_ms 155 47 [am_R x0, am_I x1, am_I x2, am_I x3, am_I x4, am_I x5, am_I (am_w (x6 + 1)), am_I x7] [] h :=
  (am_xs_run am_ms 155 [(.iinc 6 1, 3, []), (.goto (-40), 3, [])] 84 _ _ h (by decide +kernel)).trans rfl
set_option maxHeartbeats 4000000 in
theorem bk_155_90 (x0 : Nat) (x1 : Int) (x2 : Int) (x3 : Int) (x4 : Int) (x5 : Int) (x6 : Int) (x7 : am_V) (h : am_H) : am_run am_ms 155 90 [am_R x0, am_I x1, am_I x2, am_I x3, am_I x4, am_I x5, am_I x6, x7] [] h = (bif decide (¬ x3 = 0) then am_run am_ms 155 99 [am_R x0, am_I x1, am_I x2, am_I x3, am_I x4, am_I x5, am_I x6, x7] [] h else am_run am_ms 155 101 [am_R x0, am_I x1, am_I x2, am_I x3, am_I x4, am_I x5, am_I x6, x7] [am_I x4] h) :=
  (am_xs_run am_ms 155 [(.iload_n 3, 1, []), (.ifCond .ne 8, 3, []), (.iload 4, 2, []), (.goto 5, 3, [])] 90 _ _ h (by decide +kernel)).trans rfl
set_option maxHeartbeats 4000000 in
theorem bk_155_99 (x0 : Nat) (x1 : Int) (x2 : Int) (x3 : Int) (x4 : Int) (x5 : Int) (x6 : Int) (x7 : am_V) (h : am_H) : am_run am_ms 155 99 [am_R x0, am_I x1, am_I x2, am_I x3, am_I x4, am_I x5, am_I x6, x7] [] h = am_run am_ms 155 101 [am_R x0, am_I x1, am_I x2, am_I x3, am_I x4, am_I x5, am_I x6, x7] [am_I x5] h :=
  (am_xs_run am_ms 155 [(.iload 5, 2, [])] 99 _ _ h (by decide +kernel)).trans rfl
set_option maxHeartbeats 4000000 in
theorem bk_155_101 (x0 : Nat) (x1 : Int) (x2 : Int) (x3 : Int) (x4 : Int) (x5 : Int) (x6 : Int) (x7 : am_V) (y0 : Int) (h : am_H) : am_run am_ms 155 101 [am_R x0, am_I x1, am_I x2, am_I x3, am_I x4, am_I x5, am_I x6, x7] [am_I y0] h = some (some (am_I y0), h) :=
  (am_xs_run am_ms 155 [(.ireturn, 1, [0])] 101 _ _ h (by decide +kernel)).trans rfl
set_option maxHeartbeats 4000000 in
theorem bk_156_0 (x0 : Nat) (x1 : Int) (h : am_H) : am_run am_ms 156 0 [am_R x0, am_I x1] [] h = ((am_gfR h x0 8 4).bind fun f1 => ((am_isc h f1 1).bind fun _ => ((am_cI 72 [am_R f1, am_I x1] h).bind fun r2 => (bif decide (r2.1 = 0) then am_run am_ms 156 23 [am_R x0, am_I x1] [] r2.2 else ((am_gfR r2.2 x0 8 4).bind fun f3 => ((am_gfR r2.2 f3 1 6).bind fun f4 => ((am_rd r2.2 f4 0 x1).bind fun v5 => am_run am_ms 156 24 [am_R x0, am_I x1] [am_I v5] r2.2))))))) :=
  (am_xs_run am_ms 156 [(.aload_n 0, 1, []), (.getfield 34, 3, [8, 4, 2041, 3]), (.iload_n 1, 1, []), (.invokevirtual 199, 3, [0, 72, 2, 1, 1, 4000, 3075, 3076]), (.ifCond .eq 15, 3, []), (.aload_n 0, 1, []), (.getfield 34, 3, [8, 4, 2041, 3]), (.getfield 202, 3, [1, 6, 1162, 3]), (.iload_n 1, 1, []), (.iaload, 1, []), (.goto 4, 3, [])] 0 _ _ h (by decide +kernel)).trans rfl
theorem en_156 (x0 : Nat) (x1 : Int) (h : am_H) : am_call am_ms 156 [am_R x0, am_I x1] h = am_run am_ms 156 0 [am_R x0, am_I x1] [] h := rfl
set_option maxHeartbeats 4000000 in
theorem bk_156_23 (x0 : Nat) (x1 : Int) (h : am_H) : am_run am_ms 156 23 [am_R x0, am_I x1] [] h = am_run am_ms 156 24 [am_R x0, am_I x1] [am_I (-1)] h :=
  (am_xs_run am_ms 156 [(.iconst (-1), 1, [])] 23 _ _ h (by decide +kernel)).trans rfl
set_option maxHeartbeats 4000000 in
theorem bk_156_24 (x0 : Nat) (x1 : Int) (y0 : Int) (h : am_H) : am_run am_ms 156 24 [am_R x0, am_I x1] [am_I y0] h = some (some (am_I y0), h) :=
  (am_xs_run am_ms 156 [(.ireturn, 1, [0])] 24 _ _ h (by decide +kernel)).trans rfl
set_option maxHeartbeats 4000000 in
theorem bk_157_0 (x0 : Nat) (x1 : Int) (h : am_H) : am_run am_ms 157 0 [am_R x0, am_I x1] [] h = ((am_pf h x0 9 0 (am_I 0)).bind fun h1 => ((am_gfI h1 x0 9 14).bind fun f2 => (bif decide (f2 = 0) then am_run am_ms 157 41 [am_R x0, am_I x1] [] h1 else ((am_gfI h1 x0 9 25).bind fun f3 => am_run am_ms 157 22 [am_R x0, am_I x1] [am_L (am_w (f3 - 1)), am_L 0, am_L x1] h1)))) :=
  (am_xs_run am_ms 157 [(.aload_n 0, 1, []), (.iconst 0, 1, []), (.putfield 53, 3, [9, 0, 5183, 0]), (.aload_n 0, 1, []), (.getfield 155, 3, [9, 14, 5197, 1]), (.ifCond .eq 32, 3, []), (.iload_n 1, 1, []), (.i2l, 1, []), (.lconst 0, 1, []), (.aload_n 0, 1, []), (.getfield 177, 3, [9, 25, 5208, 0]), (.iconst 1, 1, []), (.isub, 1, []), (.i2l, 1, [])] 0 _ _ h (by decide +kernel)).trans rfl
theorem en_157 (x0 : Nat) (x1 : Int) (h : am_H) : am_call am_ms 157 [am_R x0, am_I x1] h = am_run am_ms 157 0 [am_R x0, am_I x1] [] h := rfl
set_option maxHeartbeats 4000000 in
theorem bk_157_22 (x0 : Nat) (x1 : Int) (y0 : Int) (y1 : Int) (y2 : Int) (h : am_H) : am_run am_ms 157 22 [am_R x0, am_I x1] [am_L y0, am_L y1, am_L y2] h = ((am_cI 40 [am_L y2, am_L y1, am_L y0] h).bind fun r1 => (bif decide (r1.1 = 0) then am_run am_ms 157 41 [am_R x0, am_I x1] [] r1.2 else ((am_gfR r1.2 x0 9 15).bind fun f2 => ((am_rd r1.2 f2 0 (am_w (416 + x1))).bind fun v3 => am_run am_ms 157 42 [am_R x0, am_I x1] [am_I v3] r1.2)))) :=
  (am_xs_run am_ms 157 [(.invokestatic 96, 3, [1, 40, 3, 0, 1, 6060, 6061]), (.ifCond .eq 16, 3, []), (.aload_n 0, 1, []), (.getfield 32, 3, [9, 15, 5198, 3]), (.sipush 416, 3, []), (.iload_n 1, 1, []), (.iadd, 1, []), (.iaload, 1, []), (.goto 4, 3, [])] 22 _ _ h (by decide +kernel)).trans rfl
set_option maxHeartbeats 4000000 in
theorem bk_157_41 (x0 : Nat) (x1 : Int) (h : am_H) : am_run am_ms 157 41 [am_R x0, am_I x1] [] h = am_run am_ms 157 42 [am_R x0, am_I x1] [am_I (-1)] h :=
  (am_xs_run am_ms 157 [(.iconst (-1), 1, [])] 41 _ _ h (by decide +kernel)).trans rfl
set_option maxHeartbeats 4000000 in
theorem bk_157_42 (x0 : Nat) (x1 : Int) (y0 : Int) (h : am_H) : am_run am_ms 157 42 [am_R x0, am_I x1] [am_I y0] h = some (some (am_I y0), h) :=
  (am_xs_run am_ms 157 [(.ireturn, 1, [0])] 42 _ _ h (by decide +kernel)).trans rfl
set_option maxHeartbeats 4000000 in
theorem bk_158_0 (x0 : Nat) (x1 : Int) (h : am_H) : am_run am_ms 158 0 [am_R x0, am_I x1] [] h = ((am_gfI h x0 2 1).bind fun f1 => (if 41 = 0 then none else some (some (am_I (am_rem (am_w (f1 + x1)) 41)), h))) :=
  (am_xs_run am_ms 158 [(.aload_n 0, 1, []), (.getfield 15, 3, [2, 1, 2024, 0]), (.iload_n 1, 1, []), (.iadd, 1, []), (.bipush 41, 2, []), (.irem, 1, []), (.ireturn, 1, [0])] 0 _ _ h (by decide +kernel)).trans rfl
theorem en_158 (x0 : Nat) (x1 : Int) (h : am_H) : am_call am_ms 158 [am_R x0, am_I x1] h = am_run am_ms 158 0 [am_R x0, am_I x1] [] h := rfl
set_option maxHeartbeats 4000000 in
theorem bk_159_0 (x0 : Nat) (h : am_H) : am_run am_ms 159 0 [am_R x0] [] h = ((am_gfI h x0 2 2).bind fun f1 => (bif decide (40 ≤ f1) then am_run am_ms 159 22 [am_R x0] [] h else ((am_gfI h x0 2 2).bind fun f2 => ((am_pf h x0 2 2 (am_I (am_w (f2 + 1)))).bind fun h3 => am_run am_ms 159 31 [am_R x0] [] h3)))) :=
  (am_xs_run am_ms 159 [(.aload_n 0, 1, []), (.getfield 19, 3, [2, 2, 2025, 0]), (.bipush 40, 2, []), (.if_icmp .ge 16, 3, []), (.aload_n 0, 1, []), (.dup, 1, []), (.getfield 19, 3, [2, 2, 2025, 0]), (.iconst 1, 1, []), (.iadd, 1, []), (.putfield 19, 3, [2, 2, 2025, 0]), (.goto 12, 3, [])] 0 _ _ h (by decide +kernel)).trans rfl
theorem en_159 (x0 : Nat) (h : am_H) : am_call am_ms 159 [am_R x0] h = am_run am_ms 159 0 [am_R x0] [] h := rfl
set_option maxHeartbeats 4000000 in
theorem bk_159_22 (x0 : Nat) (h : am_H) : am_run am_ms 159 22 [am_R x0] [] h = ((am_isc h x0 2).bind fun _ => ((am_cI 158 [am_R x0, am_I 1] h).bind fun r1 => ((am_pf r1.2 x0 2 1 (am_I r1.1)).bind fun h2 => am_run am_ms 159 31 [am_R x0] [] h2))) :=
  (am_xs_run am_ms 159 [(.aload_n 0, 1, []), (.aload_n 0, 1, []), (.iconst 1, 1, []), (.invokevirtual 22, 3, [0, 158, 2, 2, 1, 4013, 4015, 29]), (.putfield 15, 3, [2, 1, 2024, 0])] 22 _ _ h (by decide +kernel)).trans rfl
set_option maxHeartbeats 4000000 in
theorem bk_159_31 (x0 : Nat) (h : am_H) : am_run am_ms 159 31 [am_R x0] [] h = some (none, h) :=
  (am_xs_run am_ms 159 [(.return_, 1, [])] 31 _ _ h (by decide +kernel)).trans rfl
set_option maxHeartbeats 4000000 in
theorem bk_160_0 (x0 : Nat) (x1 : Int) (h : am_H) : am_run am_ms 160 0 [am_R x0, am_I x1, am_K 1] [] h = (bif decide (x1 < 0) then am_run am_ms 160 13 [am_R x0, am_I x1, am_K 1] [] h else ((am_gfR h x0 8 9).bind fun f1 => ((am_isc h f1 2).bind fun _ => ((am_cV 159 [am_R f1] h).bind fun h2 => some (some (am_I x1), h2))))) :=
  (am_xs_run am_ms 160 [(.iload_n 1, 1, []), (.ifCond .lt 12, 3, []), (.aload_n 0, 1, []), (.getfield 56, 3, [8, 9, 2046, 3]), (.invokevirtual 205, 3, [0, 159, 1, 2, 0, 4009, 4010, 4011]), (.iload_n 1, 1, []), (.ireturn, 1, [0])] 0 _ _ h (by decide +kernel)).trans rfl
theorem en_160 (x0 : Nat) (x1 : Int) (h : am_H) : am_call am_ms 160 [am_R x0, am_I x1] h = am_run am_ms 160 0 [am_R x0, am_I x1, am_K 1] [] h := rfl
set_option maxHeartbeats 4000000 in
theorem bk_160_13 (x0 : Nat) (x1 : Int) (h : am_H) : am_run am_ms 160 13 [am_R x0, am_I x1, am_K 1] [] h = ((am_gfR h x0 8 11).bind fun f1 => ((am_len h f1).bind fun n2 => (bif decide (n2 ≤ (am_w ((-1) - x1))) then am_run am_ms 160 36 [am_R x0, am_I x1, am_I (am_w ((-1) - x1))] [] h else ((am_gfR h x0 8 11).bind fun f3 => ((am_rd h f3 0 (am_w ((-1) - x1))).bind fun v4 => am_run am_ms 160 33 [am_R x0, am_I x1, am_I (am_w ((-1) - x1))] [am_I v4, am_I (am_w ((-1) - x1)), am_R f3] h))))) :=
  (am_xs_run am_ms 160 [(.iconst (-1), 1, []), (.iload_n 1, 1, []), (.isub, 1, []), (.istore_n 2, 1, []), (.iload_n 2, 1, []), (.aload_n 0, 1, []), (.getfield 67, 3, [8, 11, 2048, 3]), (.arraylength, 1, []), (.if_icmp .ge 13, 3, []), (.aload_n 0, 1, []), (.getfield 67, 3, [8, 11, 2048, 3]), (.iload_n 2, 1, []), (.dup2, 1, []), (.iaload, 1, [])] 13 _ _ h (by decide +kernel)).trans rfl
set_option maxHeartbeats 4000000 in
theorem bk_160_33 (x0 : Nat) (x1 : Int) (x2 : Int) (y0 : Int) (y1 : Int) (y2 : Nat) (h : am_H) : am_run am_ms 160 33 [am_R x0, am_I x1, am_I x2] [am_I y0, am_I y1, am_R y2] h = ((am_wr h y2 0 y1 (am_w (y0 + 1))).bind fun h1 => am_run am_ms 160 36 [am_R x0, am_I x1, am_I x2] [] h1) :=
  (am_xs_run am_ms 160 [(.iconst 1, 1, []), (.iadd, 1, []), (.iastore, 1, [])] 33 _ _ h (by decide +kernel)).trans rfl
set_option maxHeartbeats 4000000 in
theorem bk_160_36 (x0 : Nat) (x1 : Int) (x2 : Int) (h : am_H) : am_run am_ms 160 36 [am_R x0, am_I x1, am_I x2] [] h = some (some (am_I (-1)), h) :=
  (am_xs_run am_ms 160 [(.iconst (-1), 1, []), (.ireturn, 1, [0])] 36 _ _ h (by decide +kernel)).trans rfl
set_option maxHeartbeats 4000000 in
theorem bk_161_0 (x0 : Nat) (x1 : Nat) (h : am_H) : am_run am_ms 161 0 [am_R x0, am_R x1, am_K 1] [] h = ((am_gfI h x0 2 2).bind fun f1 => ((am_isc h x0 2).bind fun _ => ((am_cI 158 [am_R x0, am_I f1] h).bind fun r2 => ((am_gfR r2.2 x0 2 0).bind fun f3 => ((am_rr r2.2 f3 r2.1).bind fun r4 => match r4 with
      | none => ((am_gfR r2.2 x0 2 0).bind fun f6 => am_run am_ms 161 26 [am_R x0, am_R x1, am_I r2.1] [am_R r2.2.2.1, am_I r2.1, am_R f6] (am_push r2.2 (am_ob 1 (am_dfl 1)) 14))
      | some b5 => am_run am_ms 161 31 [am_R x0, am_R x1, am_I r2.1] [] r2.2))))) :=
  (am_xs_run am_ms 161 [(.aload_n 0, 1, []), (.aload_n 0, 1, []), (.getfield 19, 3, [2, 2, 2025, 0]), (.invokevirtual 22, 3, [0, 158, 2, 2, 1, 4013, 4015, 29]), (.istore_n 2, 1, []), (.aload_n 0, 1, []), (.getfield 11, 3, [2, 0, 2023, 3]), (.iload_n 2, 1, []), (.aaload, 1, []), (.ifnonnull 16, 3, []), (.aload_n 0, 1, []), (.getfield 11, 3, [2, 0, 2023, 3]), (.iload_n 2, 1, []), (.new 9, 3, [1, 14, 2021, 1118, 1005])] 0 _ _ h (by decide +kernel)).trans rfl
theorem en_161 (x0 : Nat) (x1 : Nat) (h : am_H) : am_call am_ms 161 [am_R x0, am_R x1] h = am_run am_ms 161 0 [am_R x0, am_R x1, am_K 1] [] h := rfl
set_option maxHeartbeats 4000000 in
theorem bk_161_26 (x0 : Nat) (x1 : Nat) (x2 : Int) (y0 : Nat) (y1 : Int) (y2 : Nat) (h : am_H) : am_run am_ms 161 26 [am_R x0, am_R x1, am_I x2] [am_R y0, am_I y1, am_R y2] h = ((am_cV 4 [am_R y0] h).bind fun h1 => ((am_wrr h1 y2 y1 y0).bind fun h2 => am_run am_ms 161 31 [am_R x0, am_R x1, am_I x2] [] h2)) :=
  (am_xs_run am_ms 161 [(.dup, 1, []), (.invokespecial 26, 3, [3, 4, 1, 0, 0, 4021, 1120]), (.aastore, 1, [])] 26 _ _ h (by decide +kernel)).trans rfl
set_option maxHeartbeats 4000000 in
theorem bk_161_31 (x0 : Nat) (x1 : Nat) (x2 : Int) (h : am_H) : am_run am_ms 161 31 [am_R x0, am_R x1, am_I x2] [] h = ((am_gfR h x0 2 0).bind fun f1 => ((am_rr h f1 x2).bind fun r2 => match r2 with
      | none => none
      | some b3 => ((am_isc h b3 1).bind fun _ => ((am_cV 77 [am_R b3, am_R x1] h).bind fun h4 => some (none, h4))))) :=
  (am_xs_run am_ms 161 [(.aload_n 0, 1, []), (.getfield 11, 3, [2, 0, 2023, 3]), (.iload_n 2, 1, []), (.aaload, 1, []), (.aload_n 1, 1, []), (.invokevirtual 27, 3, [0, 77, 2, 1, 0, 4022, 3083, 3084]), (.return_, 1, [])] 31 _ _ h (by decide +kernel)).trans rfl
set_option maxHeartbeats 4000000 in
theorem bk_162_0 (x0 : Nat) (x1 : Int) (x2 : Int) (h : am_H) : am_run am_ms 162 0 [am_R x0, am_I x1, am_I x2] [] h = ((am_gfR h x0 8 4).bind fun f1 => ((am_isc h f1 1).bind fun _ => ((am_cI 69 [am_R f1, am_I x1] h).bind fun r2 => (bif decide (r2.1 = 0) then am_run am_ms 162 29 [am_R x0, am_I x1, am_I x2] [] r2.2 else (bif decide (x2 < 0) then am_run am_ms 162 22 [am_R x0, am_I x1, am_I x2] [] r2.2 else (bif decide (x2 < 1000) then am_run am_ms 162 29 [am_R x0, am_I x1, am_I x2] [] r2.2 else am_run am_ms 162 22 [am_R x0, am_I x1, am_I x2] [] r2.2)))))) :=
  (am_xs_run am_ms 162 [(.aload_n 0, 1, []), (.getfield 34, 3, [8, 4, 2041, 3]), (.iload_n 1, 1, []), (.invokevirtual 184, 3, [0, 69, 2, 1, 1, 3222, 3055, 3056]), (.ifCond .eq 21, 3, []), (.iload_n 2, 1, []), (.ifCond .lt 10, 3, []), (.iload_n 2, 1, []), (.sipush 1000, 3, []), (.if_icmp .lt 10, 3, [])] 0 _ _ h (by decide +kernel)).trans rfl
theorem en_162 (x0 : Nat) (x1 : Int) (x2 : Int) (h : am_H) : am_call am_ms 162 [am_R x0, am_I x1, am_I x2] h = am_run am_ms 162 0 [am_R x0, am_I x1, am_I x2] [] h := rfl
set_option maxHeartbeats 4000000 in
theorem bk_162_22 (x0 : Nat) (x1 : Int) (x2 : Int) (h : am_H) : am_run am_ms 162 22 [am_R x0, am_I x1, am_I x2] [] h = ((am_isc h x0 8).bind fun _ => ((am_cI 160 [am_R x0, am_I (-2)] h).bind fun r1 => some (some (am_I r1.1), r1.2))) :=
  (am_xs_run am_ms 162 [(.aload_n 0, 1, []), (.bipush (-2), 2, []), (.invokevirtual 208, 3, [0, 160, 2, 8, 1, 4005, 4007, 28]), (.ireturn, 1, [0])] 22 _ _ h (by decide +kernel)).trans rfl
set_option maxHeartbeats 4000000 in
theorem bk_162_29 (x0 : Nat) (x1 : Int) (x2 : Int) (h : am_H) : am_run am_ms 162 29 [am_R x0, am_I x1, am_I x2] [] h = ((am_gfR h x0 8 9).bind fun f1 => ((am_gfR h x0 8 4).bind fun f2 => ((am_isc h f1 2).bind fun _ => ((am_cV 161 [am_R f1, am_R f2] h).bind fun h3 => ((am_gfR h3 x0 8 4).bind fun f4 => ((am_gfR h3 x0 8 5).bind fun f5 => ((am_isc h3 f4 1).bind fun _ => ((am_cI 102 [am_R f4, am_I x1, am_I x2, am_R f5] h3).bind fun r6 => ((am_isc r6.2 x0 8).bind fun _ => ((am_cI 160 [am_R x0, am_I r6.1] r6.2).bind fun r7 => am_run am_ms 162 57 [am_R x0, am_I x1, am_I x2] [am_I r7.1] r7.2)))))))))) :=
  (am_xs_run am_ms 162 [(.aload_n 0, 1, []), (.getfield 56, 3, [8, 9, 2046, 3]), (.aload_n 0, 1, []), (.getfield 34, 3, [8, 4, 2041, 3]), (.invokevirtual 211, 3, [0, 161, 2, 2, 0, 4017, 4018, 4019]), (.aload_n 0, 1, []), (.aload_n 0, 1, []), (.getfield 34, 3, [8, 4, 2041, 3]), (.iload_n 1, 1, []), (.iload_n 2, 1, []), (.aload_n 0, 1, []), (.getfield 38, 3, [8, 5, 2042, 3]), (.invokevirtual 120, 3, [0, 102, 4, 1, 1, 3050, 3051, 3052]), (.invokevirtual 208, 3, [0, 160, 2, 8, 1, 4005, 4007, 28])] 29 _ _ h (by decide +kernel)).trans rfl
set_option maxHeartbeats 4000000 in
theorem bk_162_57 (x0 : Nat) (x1 : Int) (x2 : Int) (y0 : Int) (h : am_H) : am_run am_ms 162 57 [am_R x0, am_I x1, am_I x2] [am_I y0] h = some (some (am_I y0), h) :=
  (am_xs_run am_ms 162 [(.ireturn, 1, [0])] 57 _ _ h (by decide +kernel)).trans rfl
set_option maxHeartbeats 4000000 in
theorem bk_163_0 (x0 : Nat) (x1 : Nat) (x2 : Int) (h : am_H) : am_run am_ms 163 0 [am_R x0, am_R x1, am_I x2] [] h = ((am_isc h x0 9).bind fun _ => ((am_cI 140 [am_R x0, am_I x2] h).bind fun r1 => (bif decide (¬ r1.1 = 0) then am_run am_ms 163 10 [am_R x0, am_R x1, am_I x2] [] r1.2 else some (some (am_I 0), r1.2)))) :=
  (am_xs_run am_ms 163 [(.aload_n 0, 1, []), (.iload_n 2, 1, []), (.invokevirtual 295, 3, [0, 140, 2, 9, 1, 7052, 7054, 81]), (.ifCond .ne 5, 3, []), (.iconst 0, 1, []), (.ireturn, 1, [0])] 0 _ _ h (by decide +kernel)).trans rfl
theorem en_163 (x0 : Nat) (x1 : Nat) (x2 : Int) (h : am_H) : am_call am_ms 163 [am_R x0, am_R x1, am_I x2] h = am_run am_ms 163 0 [am_R x0, am_R x1, am_I x2] [] h := rfl
set_option maxHeartbeats 4000000 in
theorem bk_163_10 (x0 : Nat) (x1 : Nat) (x2 : Int) (h : am_H) : am_run am_ms 163 10 [am_R x0, am_R x1, am_I x2] [] h = ((am_rd h x1 0 (am_w (0 + x2))).bind fun v1 => (bif decide (v1 = 1) then am_run am_ms 163 28 [am_R x0, am_R x1, am_I x2] [] h else ((am_rd h x1 0 (am_w (0 + x2))).bind fun v2 => (bif decide (¬ v2 = 3) then am_run am_ms 163 30 [am_R x0, am_R x1, am_I x2] [] h else am_run am_ms 163 28 [am_R x0, am_R x1, am_I x2] [] h)))) :=
  (am_xs_run am_ms 163 [(.aload_n 1, 1, []), (.iconst 0, 1, []), (.iload_n 2, 1, []), (.iadd, 1, []), (.iaload, 1, []), (.iconst 1, 1, []), (.if_icmp .eq 12, 3, []), (.aload_n 1, 1, []), (.iconst 0, 1, []), (.iload_n 2, 1, []), (.iadd, 1, []), (.iaload, 1, []), (.iconst 3, 1, []), (.if_icmp .ne 5, 3, [])] 10 _ _ h (by decide +kernel)).trans rfl
set_option maxHeartbeats 4000000 in
theorem bk_163_28 (x0 : Nat) (x1 : Nat) (x2 : Int) (h : am_H) : am_run am_ms 163 28 [am_R x0, am_R x1, am_I x2] [] h = some (some (am_I 2), h) :=
  (am_xs_run am_ms 163 [(.iconst 2, 1, []), (.ireturn, 1, [0])] 28 _ _ h (by decide +kernel)).trans rfl
set_option maxHeartbeats 4000000 in
theorem bk_163_30 (x0 : Nat) (x1 : Nat) (x2 : Int) (h : am_H) : am_run am_ms 163 30 [am_R x0, am_R x1, am_I x2] [] h = ((am_isc h x0 9).bind fun _ => ((am_cI 112 [am_R x0, am_R x1, am_I 1] h).bind fun r1 => ((am_gfI r1.2 x0 9 23).bind fun f2 => (bif decide (f2 ≤ r1.1) then am_run am_ms 163 63 [am_R x0, am_R x1, am_I x2] [] r1.2 else ((am_rd r1.2 x1 0 (am_w (0 + x2))).bind fun v3 => (bif decide (¬ v3 = 0) then am_run am_ms 163 67 [am_R x0, am_R x1, am_I x2] [] r1.2 else am_run am_ms 163 52 [am_R x0, am_R x1, am_I x2] [am_R x0] r1.2)))))) :=
  (am_xs_run am_ms 163 [(.aload_n 0, 1, []), (.aload_n 1, 1, []), (.iconst 1, 1, []), (.invokevirtual 200, 3, [0, 112, 3, 9, 1, 6170, 6172, 53]), (.aload_n 0, 1, []), (.getfield 171, 3, [9, 23, 5206, 0]), (.if_icmp .ge 23, 3, []), (.aload_n 1, 1, []), (.iconst 0, 1, []), (.iload_n 2, 1, []), (.iadd, 1, []), (.iaload, 1, []), (.ifCond .ne 19, 3, []), (.aload_n 0, 1, [])] 30 _ _ h (by decide +kernel)).trans rfl
set_option maxHeartbeats 4000000 in
theorem bk_163_52 (x0 : Nat) (x1 : Nat) (x2 : Int) (y0 : Nat) (h : am_H) : am_run am_ms 163 52 [am_R x0, am_R x1, am_I x2] [am_R y0] h = ((am_isc h y0 9).bind fun _ => ((am_cI 123 [am_R y0, am_R x1] h).bind fun r1 => ((am_gfI r1.2 x0 9 24).bind fun f2 => (bif decide (r1.1 < f2) then am_run am_ms 163 67 [am_R x0, am_R x1, am_I x2] [] r1.2 else am_run am_ms 163 63 [am_R x0, am_R x1, am_I x2] [] r1.2)))) :=
  (am_xs_run am_ms 163 [(.aload_n 1, 1, []), (.invokevirtual 227, 3, [0, 123, 2, 9, 1, 6223, 6225, 66]), (.aload_n 0, 1, []), (.getfield 174, 3, [9, 24, 5207, 0]), (.if_icmp .lt 7, 3, [])] 52 _ _ h (by decide +kernel)).trans rfl
set_option maxHeartbeats 4000000 in
theorem bk_163_63 (x0 : Nat) (x1 : Nat) (x2 : Int) (h : am_H) : am_run am_ms 163 63 [am_R x0, am_R x1, am_I x2] [] h = am_run am_ms 163 68 [am_R x0, am_R x1, am_I x2] [am_I 3] h :=
  (am_xs_run am_ms 163 [(.iconst 3, 1, []), (.goto 4, 3, [])] 63 _ _ h (by decide +kernel)).trans rfl
set_option maxHeartbeats 4000000 in
theorem bk_163_67 (x0 : Nat) (x1 : Nat) (x2 : Int) (h : am_H) : am_run am_ms 163 67 [am_R x0, am_R x1, am_I x2] [] h = am_run am_ms 163 68 [am_R x0, am_R x1, am_I x2] [am_I (-1)] h :=
  (am_xs_run am_ms 163 [(.iconst (-1), 1, [])] 67 _ _ h (by decide +kernel)).trans rfl
set_option maxHeartbeats 4000000 in
theorem bk_163_68 (x0 : Nat) (x1 : Nat) (x2 : Int) (y0 : Int) (h : am_H) : am_run am_ms 163 68 [am_R x0, am_R x1, am_I x2] [am_I y0] h = some (some (am_I y0), h) :=
  (am_xs_run am_ms 163 [(.ireturn, 1, [0])] 68 _ _ h (by decide +kernel)).trans rfl
set_option maxHeartbeats 4000000 in
theorem bk_164_0 (x0 : Nat) (x1 : Nat) (x2 : Int) (x3 : Int) (x4 : Int) (h : am_H) : am_run am_ms 164 0 [am_R x0, am_R x1, am_I x2, am_I x3, am_I x4] [] h = am_run am_ms 164 1 [am_R x0, am_R x1, am_I x2, am_I x3, am_I x4] [am_I x2] h :=
  (am_xs_run am_ms 164 [(.iload_n 2, 1, [])] 0 _ _ h (by decide +kernel)).trans rfl
theorem en_164 (x0 : Nat) (x1 : Nat) (x2 : Int) (x3 : Int) (x4 : Int) (h : am_H) : am_call am_ms 164 [am_R x0, am_R x1, am_I x2, am_I x3, am_I x4] h = am_run am_ms 164 0 [am_R x0, am_R x1, am_I x2, am_I x3, am_I x4] [] h := rfl
theorem bk_164_1 (x0 : Nat) (x1 : Nat) (x2 : Int) (x3 : Int) (x4 : Int) (y0 : Int) (h : am_H) : am_run am_ms 164 1 [am_R x0, am_R x1, am_I x2, am_I x3, am_I x4] [am_I y0] h = am_run am_ms 164 (am_tsw 1 235 0 7 #[47, 78, 106, 123, 136, 143, 170, 196] y0) [am_R x0, am_R x1, am_I x2, am_I x3, am_I x4] [] h := by
  rw [am_run_eq, show am_code am_ms 164 1 = some (.tableswitch 235 0 7 #[47, 78, 106, 123, 136, 143, 170, 196], 47, []) from by decide +kernel]
  rfl
set_option maxHeartbeats 4000000 in
theorem bk_164_48 (x0 : Nat) (x1 : Nat) (x2 : Int) (x3 : Int) (x4 : Int) (h : am_H) : am_run am_ms 164 48 [am_R x0, am_R x1, am_I x2, am_I x3, am_I x4] [] h = ((am_isc h x0 9).bind fun _ => ((am_cI 146 [am_R x0, am_I x3] h).bind fun r1 => (bif decide (¬ r1.1 = 0) then am_run am_ms 164 60 [am_R x0, am_R x1, am_I x2, am_I x3, am_I x4] [] r1.2 else am_run am_ms 164 78 [am_R x0, am_R x1, am_I x2, am_I x3, am_I x4] [am_I 0] r1.2))) :=
  (am_xs_run am_ms 164 [(.aload_n 0, 1, []), (.iload_n 3, 1, []), (.invokevirtual 286, 3, [0, 146, 2, 9, 1, 7038, 7040, 78]), (.ifCond .ne 7, 3, []), (.iconst 0, 1, []), (.goto 21, 3, [])] 48 _ _ h (by decide +kernel)).trans rfl
set_option maxHeartbeats 4000000 in
theorem bk_164_60 (x0 : Nat) (x1 : Nat) (x2 : Int) (x3 : Int) (x4 : Int) (h : am_H) : am_run am_ms 164 60 [am_R x0, am_R x1, am_I x2, am_I x3, am_I x4] [] h = ((am_cI 40 [am_L x4, am_L 0, am_L 999] h).bind fun r1 => (bif decide (¬ r1.1 = 0) then am_run am_ms 164 77 [am_R x0, am_R x1, am_I x2, am_I x3, am_I x4] [] r1.2 else am_run am_ms 164 78 [am_R x0, am_R x1, am_I x2, am_I x3, am_I x4] [am_I 1] r1.2)) :=
  (am_xs_run am_ms 164 [(.iload 4, 2, []), (.i2l, 1, []), (.lconst 0, 1, []), (.ldc2_w 290, 3, [0, 999, 7043]), (.invokestatic 96, 3, [1, 40, 3, 0, 1, 6060, 6061]), (.ifCond .ne 7, 3, []), (.iconst 1, 1, []), (.goto 4, 3, [])] 60 _ _ h (by decide +kernel)).trans rfl
set_option maxHeartbeats 4000000 in
theorem bk_164_77 (x0 : Nat) (x1 : Nat) (x2 : Int) (x3 : Int) (x4 : Int) (h : am_H) : am_run am_ms 164 77 [am_R x0, am_R x1, am_I x2, am_I x3, am_I x4] [] h = am_run am_ms 164 78 [am_R x0, am_R x1, am_I x2, am_I x3, am_I x4] [am_I (-1)] h :=
  (am_xs_run am_ms 164 [(.iconst (-1), 1, [])] 77 _ _ h (by decide +kernel)).trans rfl
set_option maxHeartbeats 4000000 in
theorem bk_164_78 (x0 : Nat) (x1 : Nat) (x2 : Int) (x3 : Int) (x4 : Int) (y0 : Int) (h : am_H) : am_run am_ms 164 78 [am_R x0, am_R x1, am_I x2, am_I x3, am_I x4] [am_I y0] h = some (some (am_I y0), h) :=
  (am_xs_run am_ms 164 [(.ireturn, 1, [0])] 78 _ _ h (by decide +kernel)).trans rfl
set_option maxHeartbeats 4000000 in
theorem bk_164_79 (x0 : Nat) (x1 : Nat) (x2 : Int) (x3 : Int) (x4 : Int) (h : am_H) : am_run am_ms 164 79 [am_R x0, am_R x1, am_I x2, am_I x3, am_I x4] [] h = ((am_isc h x0 9).bind fun _ => ((am_cI 146 [am_R x0, am_I x3] h).bind fun r1 => (bif decide (¬ r1.1 = 0) then am_run am_ms 164 91 [am_R x0, am_R x1, am_I x2, am_I x3, am_I x4] [] r1.2 else am_run am_ms 164 106 [am_R x0, am_R x1, am_I x2, am_I x3, am_I x4] [am_I 0] r1.2))) :=
  (am_xs_run am_ms 164 [(.aload_n 0, 1, []), (.iload_n 3, 1, []), (.invokevirtual 286, 3, [0, 146, 2, 9, 1, 7038, 7040, 78]), (.ifCond .ne 7, 3, []), (.iconst 0, 1, []), (.goto 18, 3, [])] 79 _ _ h (by decide +kernel)).trans rfl
set_option maxHeartbeats 4000000 in
theorem bk_164_91 (x0 : Nat) (x1 : Nat) (x2 : Int) (x3 : Int) (x4 : Int) (h : am_H) : am_run am_ms 164 91 [am_R x0, am_R x1, am_I x2, am_I x3, am_I x4] [] h = ((am_isc h x0 9).bind fun _ => ((am_cI 147 [am_R x0, am_R x1, am_I x3] h).bind fun r1 => (bif decide (¬ r1.1 = (-1)) then am_run am_ms 164 105 [am_R x0, am_R x1, am_I x2, am_I x3, am_I x4] [] r1.2 else am_run am_ms 164 106 [am_R x0, am_R x1, am_I x2, am_I x3, am_I x4] [am_I 2] r1.2))) :=
  (am_xs_run am_ms 164 [(.aload_n 0, 1, []), (.aload_n 1, 1, []), (.iload_n 3, 1, []), (.invokevirtual 275, 3, [0, 147, 3, 9, 1, 7044, 7046, 79]), (.iconst (-1), 1, []), (.if_icmp .ne 7, 3, []), (.iconst 2, 1, []), (.goto 4, 3, [])] 91 _ _ h (by decide +kernel)).trans rfl
set_option maxHeartbeats 4000000 in
theorem bk_164_105 (x0 : Nat) (x1 : Nat) (x2 : Int) (x3 : Int) (x4 : Int) (h : am_H) : am_run am_ms 164 105 [am_R x0, am_R x1, am_I x2, am_I x3, am_I x4] [] h = am_run am_ms 164 106 [am_R x0, am_R x1, am_I x2, am_I x3, am_I x4] [am_I (-1)] h :=
  (am_xs_run am_ms 164 [(.iconst (-1), 1, [])] 105 _ _ h (by decide +kernel)).trans rfl
set_option maxHeartbeats 4000000 in
theorem bk_164_106 (x0 : Nat) (x1 : Nat) (x2 : Int) (x3 : Int) (x4 : Int) (y0 : Int) (h : am_H) : am_run am_ms 164 106 [am_R x0, am_R x1, am_I x2, am_I x3, am_I x4] [am_I y0] h = some (some (am_I y0), h) :=
  (am_xs_run am_ms 164 [(.ireturn, 1, [0])] 106 _ _ h (by decide +kernel)).trans rfl
set_option maxHeartbeats 4000000 in
theorem bk_164_107 (x0 : Nat) (x1 : Nat) (x2 : Int) (x3 : Int) (x4 : Int) (h : am_H) : am_run am_ms 164 107 [am_R x0, am_R x1, am_I x2, am_I x3, am_I x4] [] h = ((am_gfI h x0 9 14).bind fun f1 => (bif decide (¬ f1 = 0) then am_run am_ms 164 118 [am_R x0, am_R x1, am_I x2, am_I x3, am_I x4] [] h else am_run am_ms 164 123 [am_R x0, am_R x1, am_I x2, am_I x3, am_I x4] [am_I 0] h)) :=
  (am_xs_run am_ms 164 [(.aload_n 0, 1, []), (.getfield 155, 3, [9, 14, 5197, 1]), (.ifCond .ne 7, 3, []), (.iconst 0, 1, []), (.goto 8, 3, [])] 107 _ _ h (by decide +kernel)).trans rfl
set_option maxHeartbeats 4000000 in
theorem bk_164_118 (x0 : Nat) (x1 : Nat) (x2 : Int) (x3 : Int) (x4 : Int) (h : am_H) : am_run am_ms 164 118 [am_R x0, am_R x1, am_I x2, am_I x3, am_I x4] [] h = ((am_isc h x0 9).bind fun _ => ((am_cI 121 [am_R x0, am_R x1] h).bind fun r1 => am_run am_ms 164 123 [am_R x0, am_R x1, am_I x2, am_I x3, am_I x4] [am_I r1.1] r1.2)) :=
  (am_xs_run am_ms 164 [(.aload_n 0, 1, []), (.aload_n 1, 1, []), (.invokevirtual 266, 3, [0, 121, 2, 9, 1, 6174, 6176, 54])] 118 _ _ h (by decide +kernel)).trans rfl
set_option maxHeartbeats 4000000 in
theorem bk_164_123 (x0 : Nat) (x1 : Nat) (x2 : Int) (x3 : Int) (x4 : Int) (y0 : Int) (h : am_H) : am_run am_ms 164 123 [am_R x0, am_R x1, am_I x2, am_I x3, am_I x4] [am_I y0] h = some (some (am_I y0), h) :=
  (am_xs_run am_ms 164 [(.ireturn, 1, [0])] 123 _ _ h (by decide +kernel)).trans rfl
set_option maxHeartbeats 4000000 in
theorem bk_164_124 (x0 : Nat) (x1 : Nat) (x2 : Int) (x3 : Int) (x4 : Int) (h : am_H) : am_run am_ms 164 124 [am_R x0, am_R x1, am_I x2, am_I x3, am_I x4] [] h = ((am_gfI h x0 9 14).bind fun f1 => (bif decide (f1 = 0) then am_run am_ms 164 135 [am_R x0, am_R x1, am_I x2, am_I x3, am_I x4] [] h else am_run am_ms 164 136 [am_R x0, am_R x1, am_I x2, am_I x3, am_I x4] [am_I (-1)] h)) :=
  (am_xs_run am_ms 164 [(.aload_n 0, 1, []), (.getfield 155, 3, [9, 14, 5197, 1]), (.ifCond .eq 7, 3, []), (.iconst (-1), 1, []), (.goto 4, 3, [])] 124 _ _ h (by decide +kernel)).trans rfl
set_option maxHeartbeats 4000000 in
theorem bk_164_135 (x0 : Nat) (x1 : Nat) (x2 : Int) (x3 : Int) (x4 : Int) (h : am_H) : am_run am_ms 164 135 [am_R x0, am_R x1, am_I x2, am_I x3, am_I x4] [] h = am_run am_ms 164 136 [am_R x0, am_R x1, am_I x2, am_I x3, am_I x4] [am_I 0] h :=
  (am_xs_run am_ms 164 [(.iconst 0, 1, [])] 135 _ _ h (by decide +kernel)).trans rfl
set_option maxHeartbeats 4000000 in
theorem bk_164_136 (x0 : Nat) (x1 : Nat) (x2 : Int) (x3 : Int) (x4 : Int) (y0 : Int) (h : am_H) : am_run am_ms 164 136 [am_R x0, am_R x1, am_I x2, am_I x3, am_I x4] [am_I y0] h = some (some (am_I y0), h) :=
  (am_xs_run am_ms 164 [(.ireturn, 1, [0])] 136 _ _ h (by decide +kernel)).trans rfl
set_option maxHeartbeats 4000000 in
theorem bk_164_137 (x0 : Nat) (x1 : Nat) (x2 : Int) (x3 : Int) (x4 : Int) (h : am_H) : am_run am_ms 164 137 [am_R x0, am_R x1, am_I x2, am_I x3, am_I x4] [] h = ((am_isc h x0 9).bind fun _ => ((am_cI 163 [am_R x0, am_R x1, am_I x3] h).bind fun r1 => some (some (am_I r1.1), r1.2))) :=
  (am_xs_run am_ms 164 [(.aload_n 0, 1, []), (.aload_n 1, 1, []), (.iload_n 3, 1, []), (.invokevirtual 292, 3, [0, 163, 3, 9, 1, 7048, 7050, 80]), (.ireturn, 1, [0])] 137 _ _ h (by decide +kernel)).trans rfl
set_option maxHeartbeats 4000000 in
theorem bk_164_144 (x0 : Nat) (x1 : Nat) (x2 : Int) (x3 : Int) (x4 : Int) (h : am_H) : am_run am_ms 164 144 [am_R x0, am_R x1, am_I x2, am_I x3, am_I x4] [] h = ((am_isc h x0 9).bind fun _ => ((am_cI 140 [am_R x0, am_I x3] h).bind fun r1 => (bif decide (¬ r1.1 = 0) then am_run am_ms 164 156 [am_R x0, am_R x1, am_I x2, am_I x3, am_I x4] [] r1.2 else am_run am_ms 164 170 [am_R x0, am_R x1, am_I x2, am_I x3, am_I x4] [am_I 0] r1.2))) :=
  (am_xs_run am_ms 164 [(.aload_n 0, 1, []), (.iload_n 3, 1, []), (.invokevirtual 295, 3, [0, 140, 2, 9, 1, 7052, 7054, 81]), (.ifCond .ne 7, 3, []), (.iconst 0, 1, []), (.goto 17, 3, [])] 144 _ _ h (by decide +kernel)).trans rfl
set_option maxHeartbeats 4000000 in
theorem bk_164_156 (x0 : Nat) (x1 : Nat) (x2 : Int) (x3 : Int) (x4 : Int) (h : am_H) : am_run am_ms 164 156 [am_R x0, am_R x1, am_I x2, am_I x3, am_I x4] [] h = ((am_rd h x1 0 (am_w (0 + x3))).bind fun v1 => (bif decide (v1 = 1) then am_run am_ms 164 169 [am_R x0, am_R x1, am_I x2, am_I x3, am_I x4] [] h else am_run am_ms 164 170 [am_R x0, am_R x1, am_I x2, am_I x3, am_I x4] [am_I 2] h)) :=
  (am_xs_run am_ms 164 [(.aload_n 1, 1, []), (.iconst 0, 1, []), (.iload_n 3, 1, []), (.iadd, 1, []), (.iaload, 1, []), (.iconst 1, 1, []), (.if_icmp .eq 7, 3, []), (.iconst 2, 1, []), (.goto 4, 3, [])] 156 _ _ h (by decide +kernel)).trans rfl
set_option maxHeartbeats 4000000 in
theorem bk_164_169 (x0 : Nat) (x1 : Nat) (x2 : Int) (x3 : Int) (x4 : Int) (h : am_H) : am_run am_ms 164 169 [am_R x0, am_R x1, am_I x2, am_I x3, am_I x4] [] h = am_run am_ms 164 170 [am_R x0, am_R x1, am_I x2, am_I x3, am_I x4] [am_I (-1)] h :=
  (am_xs_run am_ms 164 [(.iconst (-1), 1, [])] 169 _ _ h (by decide +kernel)).trans rfl
set_option maxHeartbeats 4000000 in
theorem bk_164_170 (x0 : Nat) (x1 : Nat) (x2 : Int) (x3 : Int) (x4 : Int) (y0 : Int) (h : am_H) : am_run am_ms 164 170 [am_R x0, am_R x1, am_I x2, am_I x3, am_I x4] [am_I y0] h = some (some (am_I y0), h) :=
  (am_xs_run am_ms 164 [(.ireturn, 1, [0])] 170 _ _ h (by decide +kernel)).trans rfl
set_option maxHeartbeats 4000000 in
theorem bk_164_171 (x0 : Nat) (x1 : Nat) (x2 : Int) (x3 : Int) (x4 : Int) (h : am_H) : am_run am_ms 164 171 [am_R x0, am_R x1, am_I x2, am_I x3, am_I x4] [] h = ((am_isc h x0 9).bind fun _ => ((am_cI 140 [am_R x0, am_I x3] h).bind fun r1 => (bif decide (¬ r1.1 = 0) then am_run am_ms 164 183 [am_R x0, am_R x1, am_I x2, am_I x3, am_I x4] [] r1.2 else am_run am_ms 164 196 [am_R x0, am_R x1, am_I x2, am_I x3, am_I x4] [am_I 0] r1.2))) :=
  (am_xs_run am_ms 164 [(.aload_n 0, 1, []), (.iload_n 3, 1, []), (.invokevirtual 295, 3, [0, 140, 2, 9, 1, 7052, 7054, 81]), (.ifCond .ne 7, 3, []), (.iconst 0, 1, []), (.goto 16, 3, [])] 171 _ _ h (by decide +kernel)).trans rfl
set_option maxHeartbeats 4000000 in
theorem bk_164_183 (x0 : Nat) (x1 : Nat) (x2 : Int) (x3 : Int) (x4 : Int) (h : am_H) : am_run am_ms 164 183 [am_R x0, am_R x1, am_I x2, am_I x3, am_I x4] [] h = ((am_cI 124 [am_R x1, am_I x3] h).bind fun r1 => (bif decide (¬ r1.1 = 0) then am_run am_ms 164 195 [am_R x0, am_R x1, am_I x2, am_I x3, am_I x4] [] r1.2 else am_run am_ms 164 196 [am_R x0, am_R x1, am_I x2, am_I x3, am_I x4] [am_I 2] r1.2)) :=
  (am_xs_run am_ms 164 [(.aload_n 1, 1, []), (.iload_n 3, 1, []), (.invokestatic 215, 3, [1, 124, 2, 0, 1, 6231, 6232]), (.ifCond .ne 7, 3, []), (.iconst 2, 1, []), (.goto 4, 3, [])] 183 _ _ h (by decide +kernel)).trans rfl
set_option maxHeartbeats 4000000 in
theorem bk_164_195 (x0 : Nat) (x1 : Nat) (x2 : Int) (x3 : Int) (x4 : Int) (h : am_H) : am_run am_ms 164 195 [am_R x0, am_R x1, am_I x2, am_I x3, am_I x4] [] h = am_run am_ms 164 196 [am_R x0, am_R x1, am_I x2, am_I x3, am_I x4] [am_I (-1)] h :=
  (am_xs_run am_ms 164 [(.iconst (-1), 1, [])] 195 _ _ h (by decide +kernel)).trans rfl
set_option maxHeartbeats 4000000 in
theorem bk_164_196 (x0 : Nat) (x1 : Nat) (x2 : Int) (x3 : Int) (x4 : Int) (y0 : Int) (h : am_H) : am_run am_ms 164 196 [am_R x0, am_R x1, am_I x2, am_I x3, am_I x4] [am_I y0] h = some (some (am_I y0), h) :=
  (am_xs_run am_ms 164 [(.ireturn, 1, [0])] 196 _ _ h (by decide +kernel)).trans rfl
set_option maxHeartbeats 4000000 in
theorem bk_164_197 (x0 : Nat) (x1 : Nat) (x2 : Int) (x3 : Int) (x4 : Int) (h : am_H) : am_run am_ms 164 197 [am_R x0, am_R x1, am_I x2, am_I x3, am_I x4] [] h = ((am_isc h x0 9).bind fun _ => ((am_cI 140 [am_R x0, am_I x3] h).bind fun r1 => (bif decide (¬ r1.1 = 0) then am_run am_ms 164 209 [am_R x0, am_R x1, am_I x2, am_I x3, am_I x4] [] r1.2 else am_run am_ms 164 235 [am_R x0, am_R x1, am_I x2, am_I x3, am_I x4] [am_I 0] r1.2))) :=
  (am_xs_run am_ms 164 [(.aload_n 0, 1, []), (.iload_n 3, 1, []), (.invokevirtual 295, 3, [0, 140, 2, 9, 1, 7052, 7054, 81]), (.ifCond .ne 7, 3, []), (.iconst 0, 1, []), (.goto 29, 3, [])] 197 _ _ h (by decide +kernel)).trans rfl
set_option maxHeartbeats 4000000 in
theorem bk_164_209 (x0 : Nat) (x1 : Nat) (x2 : Int) (x3 : Int) (x4 : Int) (h : am_H) : am_run am_ms 164 209 [am_R x0, am_R x1, am_I x2, am_I x3, am_I x4] [] h = ((am_rd h x1 0 (am_w (0 + x3))).bind fun v1 => (bif decide (¬ v1 = 0) then am_run am_ms 164 221 [am_R x0, am_R x1, am_I x2, am_I x3, am_I x4] [] h else am_run am_ms 164 235 [am_R x0, am_R x1, am_I x2, am_I x3, am_I x4] [am_I 2] h)) :=
  (am_xs_run am_ms 164 [(.aload_n 1, 1, []), (.iconst 0, 1, []), (.iload_n 3, 1, []), (.iadd, 1, []), (.iaload, 1, []), (.ifCond .ne 7, 3, []), (.iconst 2, 1, []), (.goto 17, 3, [])] 209 _ _ h (by decide +kernel)).trans rfl
set_option maxHeartbeats 4000000 in
theorem bk_164_221 (x0 : Nat) (x1 : Nat) (x2 : Int) (x3 : Int) (x4 : Int) (h : am_H) : am_run am_ms 164 221 [am_R x0, am_R x1, am_I x2, am_I x3, am_I x4] [] h = ((am_isc h x0 9).bind fun _ => ((am_cI 115 [am_R x0, am_R x1, am_I x3] h).bind fun r1 => (bif decide (r1.1 ≤ 0) then am_run am_ms 164 234 [am_R x0, am_R x1, am_I x2, am_I x3, am_I x4] [] r1.2 else am_run am_ms 164 235 [am_R x0, am_R x1, am_I x2, am_I x3, am_I x4] [am_I 3] r1.2))) :=
  (am_xs_run am_ms 164 [(.aload_n 0, 1, []), (.aload_n 1, 1, []), (.iload_n 3, 1, []), (.invokevirtual 192, 3, [0, 115, 3, 9, 1, 6186, 6188, 57]), (.ifCond .le 7, 3, []), (.iconst 3, 1, []), (.goto 4, 3, [])] 221 _ _ h (by decide +kernel)).trans rfl
set_option maxHeartbeats 4000000 in
theorem bk_164_234 (x0 : Nat) (x1 : Nat) (x2 : Int) (x3 : Int) (x4 : Int) (h : am_H) : am_run am_ms 164 234 [am_R x0, am_R x1, am_I x2, am_I x3, am_I x4] [] h = am_run am_ms 164 235 [am_R x0, am_R x1, am_I x2, am_I x3, am_I x4] [am_I (-1)] h :=
  (am_xs_run am_ms 164 [(.iconst (-1), 1, [])] 234 _ _ h (by decide +kernel)).trans rfl
set_option maxHeartbeats 4000000 in
theorem bk_164_235 (x0 : Nat) (x1 : Nat) (x2 : Int) (x3 : Int) (x4 : Int) (y0 : Int) (h : am_H) : am_run am_ms 164 235 [am_R x0, am_R x1, am_I x2, am_I x3, am_I x4] [am_I y0] h = some (some (am_I y0), h) :=
  (am_xs_run am_ms 164 [(.ireturn, 1, [0])] 235 _ _ h (by decide +kernel)).trans rfl
set_option maxHeartbeats 4000000 in
theorem bk_164_236 (x0 : Nat) (x1 : Nat) (x2 : Int) (x3 : Int) (x4 : Int) (h : am_H) : am_run am_ms 164 236 [am_R x0, am_R x1, am_I x2, am_I x3, am_I x4] [] h = ((am_gfI h x0 9 14).bind fun f1 => (bif decide (¬ f1 = 0) then am_run am_ms 164 247 [am_R x0, am_R x1, am_I x2, am_I x3, am_I x4] [] h else am_run am_ms 164 277 [am_R x0, am_R x1, am_I x2, am_I x3, am_I x4] [am_I 0] h)) :=
  (am_xs_run am_ms 164 [(.aload_n 0, 1, []), (.getfield 155, 3, [9, 14, 5197, 1]), (.ifCond .ne 7, 3, []), (.iconst 0, 1, []), (.goto 33, 3, [])] 236 _ _ h (by decide +kernel)).trans rfl
set_option maxHeartbeats 4000000 in
theorem bk_164_247 (x0 : Nat) (x1 : Nat) (x2 : Int) (x3 : Int) (x4 : Int) (h : am_H) : am_run am_ms 164 247 [am_R x0, am_R x1, am_I x2, am_I x3, am_I x4] [] h = ((am_cI 40 [am_L x3, am_L 0, am_L 3] h).bind fun r1 => (bif decide (¬ r1.1 = 0) then am_run am_ms 164 263 [am_R x0, am_R x1, am_I x2, am_I x3, am_I x4] [] r1.2 else am_run am_ms 164 277 [am_R x0, am_R x1, am_I x2, am_I x3, am_I x4] [am_I 1] r1.2)) :=
  (am_xs_run am_ms 164 [(.iload_n 3, 1, []), (.i2l, 1, []), (.lconst 0, 1, []), (.ldc2_w 298, 3, [0, 3, 7056]), (.invokestatic 96, 3, [1, 40, 3, 0, 1, 6060, 6061]), (.ifCond .ne 7, 3, []), (.iconst 1, 1, []), (.goto 17, 3, [])] 247 _ _ h (by decide +kernel)).trans rfl
set_option maxHeartbeats 4000000 in
theorem bk_164_263 (x0 : Nat) (x1 : Nat) (x2 : Int) (x3 : Int) (x4 : Int) (h : am_H) : am_run am_ms 164 263 [am_R x0, am_R x1, am_I x2, am_I x3, am_I x4] [] h = ((am_rd h x1 0 420).bind fun v1 => (bif decide (¬ v1 = x3) then am_run am_ms 164 276 [am_R x0, am_R x1, am_I x2, am_I x3, am_I x4] [] h else am_run am_ms 164 277 [am_R x0, am_R x1, am_I x2, am_I x3, am_I x4] [am_I 2] h)) :=
  (am_xs_run am_ms 164 [(.aload_n 1, 1, []), (.sipush 420, 3, []), (.iaload, 1, []), (.iload_n 3, 1, []), (.if_icmp .ne 7, 3, []), (.iconst 2, 1, []), (.goto 4, 3, [])] 263 _ _ h (by decide +kernel)).trans rfl
set_option maxHeartbeats 4000000 in
theorem bk_164_276 (x0 : Nat) (x1 : Nat) (x2 : Int) (x3 : Int) (x4 : Int) (h : am_H) : am_run am_ms 164 276 [am_R x0, am_R x1, am_I x2, am_I x3, am_I x4] [] h = am_run am_ms 164 277 [am_R x0, am_R x1, am_I x2, am_I x3, am_I x4] [am_I (-1)] h :=
  (am_xs_run am_ms 164 [(.iconst (-1), 1, [])] 276 _ _ h (by decide +kernel)).trans rfl
set_option maxHeartbeats 4000000 in
theorem bk_164_277 (x0 : Nat) (x1 : Nat) (x2 : Int) (x3 : Int) (x4 : Int) (y0 : Int) (h : am_H) : am_run am_ms 164 277 [am_R x0, am_R x1, am_I x2, am_I x3, am_I x4] [am_I y0] h = some (some (am_I y0), h) :=
  (am_xs_run am_ms 164 [(.ireturn, 1, [0])] 277 _ _ h (by decide +kernel)).trans rfl
set_option maxHeartbeats 4000000 in
theorem bk_165_0 (x0 : Nat) (x1 : Nat) (h : am_H) : am_run am_ms 165 0 [am_R x0, am_R x1, am_K 1, am_K 1] [] h = am_run am_ms 165 4 [am_R x0, am_R x1, am_I 0, am_I 0] [] h :=
  (am_xs_run am_ms 165 [(.iconst 0, 1, []), (.istore_n 2, 1, []), (.iconst 0, 1, []), (.istore_n 3, 1, [])] 0 _ _ h (by decide +kernel)).trans rfl
theorem en_165 (x0 : Nat) (x1 : Nat) (h : am_H) : am_call am_ms 165 [am_R x0, am_R x1] h = am_run am_ms 165 0 [am_R x0, am_R x1, am_K 1, am_K 1] [] h := rfl
set_option maxHeartbeats 4000000 in
theorem bk_165_4 (x0 : Nat) (x1 : Nat) (x2 : Int) (x3 : Int) (h : am_H) : am_run am_ms 165 4 [am_R x0, am_R x1, am_I x2, am_I x3] [] h = (bif decide (32 ≤ x3) then am_run am_ms 165 34 [am_R x0, am_R x1, am_I x2, am_I x3] [] h else ((am_isc h x0 9).bind fun _ => ((am_cI 147 [am_R x0, am_R x1, am_I x3] h).bind fun r1 => (bif decide (¬ r1.1 = (-1)) then am_run am_ms 165 25 [am_R x0, am_R x1, am_I x2, am_I x3] [am_I x2] r1.2 else am_run am_ms 165 26 [am_R x0, am_R x1, am_I x2, am_I x3] [am_I 0, am_I x2] r1.2)))) :=
  (am_xs_run am_ms 165 [(.iload_n 3, 1, []), (.bipush 32, 2, []), (.if_icmp .ge 27, 3, []), (.iload_n 2, 1, []), (.aload_n 0, 1, []), (.aload_n 1, 1, []), (.iload_n 3, 1, []), (.invokevirtual 275, 3, [0, 147, 3, 9, 1, 7044, 7046, 79]), (.iconst (-1), 1, []), (.if_icmp .ne 7, 3, []), (.iconst 0, 1, []), (.goto 4, 3, [])] 4 _ _ h (by decide +kernel)).trans rfl
set_option maxHeartbeats 4000000 in
theorem bk_165_25 (x0 : Nat) (x1 : Nat) (x2 : Int) (x3 : Int) (y0 : Int) (h : am_H) : am_run am_ms 165 25 [am_R x0, am_R x1, am_I x2, am_I x3] [am_I y0] h = am_run am_ms 165 26 [am_R x0, am_R x1, am_I x2, am_I x3] [am_I 1, am_I y0] h :=
  (am_xs_run am_ms 165 [(.iconst 1, 1, [])] 25 _ _ h (by decide +kernel)).trans rfl
set_option maxHeartbeats 4000000 in
theorem bk_165_26 (x0 : Nat) (x1 : Nat) (x2 : Int) (x3 : Int) (y0 : Int) (y1 : Int) (h : am_H) : am_run am_ms 165 26 [am_R x0, am_R x1, am_I x2, am_I x3] [am_I y0, am_I y1] h = am_run am_ms 165 4 [am_R x0, am_R x1, am_I (am_w (y1 + y0)), am_I (am_w (x3 + 1))] [] h :=
  (am_xs_run am_ms 165 [(.iadd, 1, []), (.istore_n 2, 1, []), (.iinc 3 1, 3, []), (.goto (-27), 3, [])] 26 _ _ h (by decide +kernel)).trans rfl
set_option maxHeartbeats 4000000 in
theorem bk_165_34 (x0 : Nat) (x1 : Nat) (x2 : Int) (x3 : Int) (h : am_H) : am_run am_ms 165 34 [am_R x0, am_R x1, am_I x2, am_I x3] [] h = some (some (am_I x2), h) :=
  (am_xs_run am_ms 165 [(.iload_n 2, 1, []), (.ireturn, 1, [0])] 34 _ _ h (by decide +kernel)).trans rfl
set_option maxHeartbeats 4000000 in
theorem bk_166_0 (x0 : Nat) (x1 : Nat) (h : am_H) : am_run am_ms 166 0 [am_R x0, am_R x1, am_K 1, am_K 1, am_K 1] [] h = am_run am_ms 166 2 [am_R x0, am_R x1, am_I 0, am_K 1, am_K 1] [] h :=
  (am_xs_run am_ms 166 [(.iconst 0, 1, []), (.istore_n 2, 1, [])] 0 _ _ h (by decide +kernel)).trans rfl
theorem en_166 (x0 : Nat) (x1 : Nat) (h : am_H) : am_call am_ms 166 [am_R x0, am_R x1] h = am_run am_ms 166 0 [am_R x0, am_R x1, am_K 1, am_K 1, am_K 1] [] h := rfl
set_option maxHeartbeats 4000000 in
theorem bk_166_2 (x0 : Nat) (x1 : Nat) (x2 : Int) (h : am_H) : am_run am_ms 166 2 [am_R x0, am_R x1, am_I x2, am_K 1, am_K 1] [] h = ((am_gfR h x0 9 6).bind fun f1 => ((am_rd h f1 0 0).bind fun v2 => (bif decide (v2 ≤ x2) then am_run am_ms 166 46 [am_R x0, am_R x1, am_I x2, am_K 1, am_K 1] [] h else ((am_rd h x1 0 (am_w (0 + x2))).bind fun v3 => (bif decide (¬ v3 = 1) then am_run am_ms 166 40 [am_R x0, am_R x1, am_I x2, am_K 1, am_K 1] [] h else am_run am_ms 166 22 [am_R x0, am_R x1, am_I x2, am_K 1, am_K 1] [am_R x1] h))))) :=
  (am_xs_run am_ms 166 [(.iload_n 2, 1, []), (.aload_n 0, 1, []), (.getfield 17, 3, [9, 6, 5189, 3]), (.iconst 0, 1, []), (.iaload, 1, []), (.if_icmp .ge 37, 3, []), (.aload_n 1, 1, []), (.iconst 0, 1, []), (.iload_n 2, 1, []), (.iadd, 1, []), (.iaload, 1, []), (.iconst 1, 1, []), (.if_icmp .ne 22, 3, []), (.aload_n 1, 1, [])] 2 _ _ h (by decide +kernel)).trans rfl
set_option maxHeartbeats 4000000 in
theorem bk_166_22 (x0 : Nat) (x1 : Nat) (x2 : Int) (y0 : Nat) (h : am_H) : am_run am_ms 166 22 [am_R x0, am_R x1, am_I x2, am_K 1, am_K 1] [am_R y0] h = ((am_rd h x1 0 (am_w (8 + x2))).bind fun v1 => (bif decide (¬ v1 = 0) then am_run am_ms 166 38 [am_R x0, am_R x1, am_I x2, am_K 1, am_K 1] [am_I (am_w (0 + x2)), am_R y0] h else am_run am_ms 166 39 [am_R x0, am_R x1, am_I x2, am_K 1, am_K 1] [am_I 0, am_I (am_w (0 + x2)), am_R y0] h)) :=
  (am_xs_run am_ms 166 [(.iconst 0, 1, []), (.iload_n 2, 1, []), (.iadd, 1, []), (.aload_n 1, 1, []), (.bipush 8, 2, []), (.iload_n 2, 1, []), (.iadd, 1, []), (.iaload, 1, []), (.ifCond .ne 7, 3, []), (.iconst 0, 1, []), (.goto 4, 3, [])] 22 _ _ h (by decide +kernel)).trans rfl
set_option maxHeartbeats 4000000 in
theorem bk_166_38 (x0 : Nat) (x1 : Nat) (x2 : Int) (y0 : Int) (y1 : Nat) (h : am_H) : am_run am_ms 166 38 [am_R x0, am_R x1, am_I x2, am_K 1, am_K 1] [am_I y0, am_R y1] h = am_run am_ms 166 39 [am_R x0, am_R x1, am_I x2, am_K 1, am_K 1] [am_I 2, am_I y0, am_R y1] h :=
  (am_xs_run am_ms 166 [(.iconst 2, 1, [])] 38 _ _ h (by decide +kernel)).trans rfl
set_option maxHeartbeats 4000000 in
theorem bk_166_39 (x0 : Nat) (x1 : Nat) (x2 : Int) (y0 : Int) (y1 : Int) (y2 : Nat) (h : am_H) : am_run am_ms 166 39 [am_R x0, am_R x1, am_I x2, am_K 1, am_K 1] [am_I y0, am_I y1, am_R y2] h = ((am_wr h y2 0 y1 y0).bind fun h1 => am_run am_ms 166 40 [am_R x0, am_R x1, am_I x2, am_K 1, am_K 1] [] h1) :=
  (am_xs_run am_ms 166 [(.iastore, 1, [])] 39 _ _ h (by decide +kernel)).trans rfl
set_option maxHeartbeats 4000000 in
theorem bk_166_40 (x0 : Nat) (x1 : Nat) (x2 : Int) (h : am_H) : am_run am_ms 166 40 [am_R x0, am_R x1, am_I x2, am_K 1, am_K 1] [] h = am_run am_ms 166 2 [am_R x0, am_R x1, am_I (am_w (x2 + 1)), am_K 1, am_K 1] [] h :=
  (am_xs_run am_ms 166 [(.iinc 2 1, 3, []), (.goto (-41), 3, [])] 40 _ _ h (by decide +kernel)).trans rfl
set_option maxHeartbeats 4000000 in
theorem bk_166_46 (x0 : Nat) (x1 : Nat) (x2 : Int) (h : am_H) : am_run am_ms 166 46 [am_R x0, am_R x1, am_I x2, am_K 1, am_K 1] [] h = am_run am_ms 166 50 [am_R x0, am_R x1, am_I 0, am_I 0, am_K 1] [] h :=
  (am_xs_run am_ms 166 [(.iconst 0, 1, []), (.istore_n 2, 1, []), (.iconst 0, 1, []), (.istore_n 3, 1, [])] 46 _ _ h (by decide +kernel)).trans rfl
set_option maxHeartbeats 4000000 in
theorem bk_166_50 (x0 : Nat) (x1 : Nat) (x2 : Int) (x3 : Int) (x4 : am_V) (h : am_H) : am_run am_ms 166 50 [am_R x0, am_R x1, am_I x2, am_I x3, x4] [] h = ((am_gfR h x0 9 6).bind fun f1 => ((am_rd h f1 0 0).bind fun v2 => (bif decide (v2 ≤ x3) then am_run am_ms 166 121 [am_R x0, am_R x1, am_I x2, am_I x3, x4] [] h else am_run am_ms 166 63 [am_R x0, am_R x1, am_I x2, am_I x3, am_I 0] [] h))) :=
  (am_xs_run am_ms 166 [(.iload_n 3, 1, []), (.aload_n 0, 1, []), (.getfield 17, 3, [9, 6, 5189, 3]), (.iconst 0, 1, []), (.iaload, 1, []), (.if_icmp .ge 64, 3, []), (.iconst 0, 1, []), (.istore 4, 2, [])] 50 _ _ h (by decide +kernel)).trans rfl
set_option maxHeartbeats 4000000 in
theorem bk_166_63 (x0 : Nat) (x1 : Nat) (x2 : Int) (x3 : Int) (x4 : Int) (h : am_H) : am_run am_ms 166 63 [am_R x0, am_R x1, am_I x2, am_I x3, am_I x4] [] h = ((am_rd h x1 0 (am_w (8 + x3))).bind fun v1 => (bif decide (v1 ≤ x4) then am_run am_ms 166 115 [am_R x0, am_R x1, am_I x2, am_I x3, am_I x4] [] h else am_run am_ms 166 85 [am_R x0, am_R x1, am_I x2, am_I x3, am_I x4] [am_I x4, am_I (am_w (288 + (am_w (16 * x3)))), am_R x1] h)) :=
  (am_xs_run am_ms 166 [(.iload 4, 2, []), (.aload_n 1, 1, []), (.bipush 8, 2, []), (.iload_n 3, 1, []), (.iadd, 1, []), (.iaload, 1, []), (.if_icmp .ge 44, 3, []), (.aload_n 1, 1, []), (.sipush 288, 3, []), (.bipush 16, 2, []), (.iload_n 3, 1, []), (.imul, 1, []), (.iadd, 1, []), (.iload 4, 2, [])] 63 _ _ h (by decide +kernel)).trans rfl
set_option maxHeartbeats 4000000 in
theorem bk_166_85 (x0 : Nat) (x1 : Nat) (x2 : Int) (x3 : Int) (x4 : Int) (y0 : Int) (y1 : Int) (y2 : Nat) (h : am_H) : am_run am_ms 166 85 [am_R x0, am_R x1, am_I x2, am_I x3, am_I x4] [am_I y0, am_I y1, am_R y2] h = ((am_rd h y2 0 (am_w (y1 + y0))).bind fun v1 => (bif decide (v1 ≤ x2) then am_run am_ms 166 107 [am_R x0, am_R x1, am_I x2, am_I x3, am_I x4] [] h else ((am_rd h x1 0 (am_w ((am_w (288 + (am_w (16 * x3)))) + x4))).bind fun v2 => am_run am_ms 166 108 [am_R x0, am_R x1, am_I x2, am_I x3, am_I x4] [am_I v2] h))) :=
  (am_xs_run am_ms 166 [(.iadd, 1, []), (.iaload, 1, []), (.iload_n 2, 1, []), (.if_icmp .le 19, 3, []), (.aload_n 1, 1, []), (.sipush 288, 3, []), (.bipush 16, 2, []), (.iload_n 3, 1, []), (.imul, 1, []), (.iadd, 1, []), (.iload 4, 2, []), (.iadd, 1, []), (.iaload, 1, []), (.goto 4, 3, [])] 85 _ _ h (by decide +kernel)).trans rfl
set_option maxHeartbeats 4000000 in
theorem bk_166_107 (x0 : Nat) (x1 : Nat) (x2 : Int) (x3 : Int) (x4 : Int) (h : am_H) : am_run am_ms 166 107 [am_R x0, am_R x1, am_I x2, am_I x3, am_I x4] [] h = am_run am_ms 166 108 [am_R x0, am_R x1, am_I x2, am_I x3, am_I x4] [am_I x2] h :=
  (am_xs_run am_ms 166 [(.iload_n 2, 1, [])] 107 _ _ h (by decide +kernel)).trans rfl
set_option maxHeartbeats 4000000 in
theorem bk_166_108 (x0 : Nat) (x1 : Nat) (x2 : Int) (x3 : Int) (x4 : Int) (y0 : Int) (h : am_H) : am_run am_ms 166 108 [am_R x0, am_R x1, am_I x2, am_I x3, am_I x4] [am_I y0] h = am_run am_ms 166 63 [am_R x0, am_R x1, am_I y0, am_I x3, am_I (am_w (x4 + 1))] [] h :=
  (am_xs_run am_ms 166 [(.istore_n 2, 1, []), (.iinc 4 1, 3, []), (.goto (-49), 3, [])] 108 _ _ h (by decide +kernel)).trans rfl
set_option maxHeartbeats 4000000 in
theorem bk_166_115 (x0 : Nat) (x1 : Nat) (x2 : Int) (x3 : Int) (x4 : Int) (h : am_H) : am_run am_ms 166 115 [am_R x0, am_R x1, am_I x2, am_I x3, am_I x4] [] h = am_run am_ms 166 50 [am_R x0, am_R x1, am_I x2, am_I (am_w (x3 + 1)), am_I x4] [] h :=
  (am_xs_run am_ms 166 [(.iinc 3 1, 3, []), (.goto (-68), 3, [])] 115 _ _ h (by decide +kernel)).trans rfl
set_option maxHeartbeats 4000000 in
theorem bk_166_121 (x0 : Nat) (x1 : Nat) (x2 : Int) (x3 : Int) (x4 : am_V) (h : am_H) : am_run am_ms 166 121 [am_R x0, am_R x1, am_I x2, am_I x3, x4] [] h = ((am_wr h x1 0 419 x2).bind fun h1 => am_run am_ms 166 129 [am_R x0, am_R x1, am_I x2, am_I 0, x4] [] h1) :=
  (am_xs_run am_ms 166 [(.aload_n 1, 1, []), (.sipush 419, 3, []), (.iload_n 2, 1, []), (.iastore, 1, []), (.iconst 0, 1, []), (.istore_n 3, 1, [])] 121 _ _ h (by decide +kernel)).trans rfl
set_option maxHeartbeats 4000000 in
theorem bk_166_129 (x0 : Nat) (x1 : Nat) (x2 : Int) (x3 : Int) (x4 : am_V) (h : am_H) : am_run am_ms 166 129 [am_R x0, am_R x1, am_I x2, am_I x3, x4] [] h = (bif decide (3 ≤ x3) then am_run am_ms 166 148 [am_R x0, am_R x1, am_I x2, am_I x3, x4] [] h else ((am_wr h x1 0 (am_w (416 + x3)) (-1)).bind fun h1 => am_run am_ms 166 129 [am_R x0, am_R x1, am_I x2, am_I (am_w (x3 + 1)), x4] [] h1)) :=
  (am_xs_run am_ms 166 [(.iload_n 3, 1, []), (.iconst 3, 1, []), (.if_icmp .ge 17, 3, []), (.aload_n 1, 1, []), (.sipush 416, 3, []), (.iload_n 3, 1, []), (.iadd, 1, []), (.iconst (-1), 1, []), (.iastore, 1, []), (.iinc 3 1, 3, []), (.goto (-16), 3, [])] 129 _ _ h (by decide +kernel)).trans rfl
set_option maxHeartbeats 4000000 in
theorem bk_166_148 (x0 : Nat) (x1 : Nat) (x2 : Int) (x3 : Int) (x4 : am_V) (h : am_H) : am_run am_ms 166 148 [am_R x0, am_R x1, am_I x2, am_I x3, x4] [] h = am_run am_ms 166 153 [am_R x0, am_R x1, am_I x2, am_I 0, am_I 0] [] h :=
  (am_xs_run am_ms 166 [(.iconst 0, 1, []), (.istore_n 3, 1, []), (.iconst 0, 1, []), (.istore 4, 2, [])] 148 _ _ h (by decide +kernel)).trans rfl
set_option maxHeartbeats 4000000 in
theorem bk_166_153 (x0 : Nat) (x1 : Nat) (x2 : Int) (x3 : Int) (x4 : Int) (h : am_H) : am_run am_ms 166 153 [am_R x0, am_R x1, am_I x2, am_I x3, am_I x4] [] h = ((am_gfR h x0 9 6).bind fun f1 => ((am_rd h f1 0 0).bind fun v2 => (bif decide (v2 ≤ x4) then am_run am_ms 166 202 [am_R x0, am_R x1, am_I x2, am_I x3, am_I x4] [] h else ((am_gfI h x0 9 25).bind fun f3 => (bif decide (f3 ≤ x3) then am_run am_ms 166 202 [am_R x0, am_R x1, am_I x2, am_I x3, am_I x4] [] h else ((am_cI 124 [am_R x1, am_I x4] h).bind fun r4 => (bif decide (¬ r4.1 = 0) then am_run am_ms 166 184 [am_R x0, am_R x1, am_I x2, am_I x3, am_I x4] [] r4.2 else am_run am_ms 166 181 [am_R x0, am_R x1, am_I x2, am_I x3, am_I x4] [] r4.2))))))) :=
  (am_xs_run am_ms 166 [(.iload 4, 2, []), (.aload_n 0, 1, []), (.getfield 17, 3, [9, 6, 5189, 3]), (.iconst 0, 1, []), (.iaload, 1, []), (.if_icmp .ge 41, 3, []), (.iload_n 3, 1, []), (.aload_n 0, 1, []), (.getfield 177, 3, [9, 25, 5208, 0]), (.if_icmp .ge 33, 3, []), (.aload_n 1, 1, []), (.iload 4, 2, []), (.invokestatic 215, 3, [1, 124, 2, 0, 1, 6231, 6232]), (.ifCond .ne 6, 3, [])] 153 _ _ h (by decide +kernel)).trans rfl
set_option maxHeartbeats 4000000 in
theorem bk_166_181 (x0 : Nat) (x1 : Nat) (x2 : Int) (x3 : Int) (x4 : Int) (h : am_H) : am_run am_ms 166 181 [am_R x0, am_R x1, am_I x2, am_I x3, am_I x4] [] h = am_run am_ms 166 196 [am_R x0, am_R x1, am_I x2, am_I x3, am_I x4] [] h :=
  (am_xs_run am_ms 166 [(.goto 15, 3, [])] 181 _ _ h (by decide +kernel)).trans rfl
set_option maxHeartbeats 4000000 in
theorem bk_166_184 (x0 : Nat) (x1 : Nat) (x2 : Int) (x3 : Int) (x4 : Int) (h : am_H) : am_run am_ms 166 184 [am_R x0, am_R x1, am_I x2, am_I x3, am_I x4] [] h = ((am_wr h x1 0 (am_w (416 + x3)) x4).bind fun h1 => am_run am_ms 166 196 [am_R x0, am_R x1, am_I x2, am_I (am_w (x3 + 1)), am_I x4] [] h1) :=
  (am_xs_run am_ms 166 [(.aload_n 1, 1, []), (.sipush 416, 3, []), (.iload_n 3, 1, []), (.iadd, 1, []), (.iload 4, 2, []), (.iastore, 1, []), (.iinc 3 1, 3, [])] 184 _ _ h (by decide +kernel)).trans rfl
set_option maxHeartbeats 4000000 in
theorem bk_166_196 (x0 : Nat) (x1 : Nat) (x2 : Int) (x3 : Int) (x4 : Int) (h : am_H) : am_run am_ms 166 196 [am_R x0, am_R x1, am_I x2, am_I x3, am_I x4] [] h = am_run am_ms 166 153 [am_R x0, am_R x1, am_I x2, am_I x3, am_I (am_w (x4 + 1))] [] h :=
  (am_xs_run am_ms 166 [(.iinc 4 1, 3, []), (.goto (-46), 3, [])] 196 _ _ h (by decide +kernel)).trans rfl
set_option maxHeartbeats 4000000 in
theorem bk_166_202 (x0 : Nat) (x1 : Nat) (x2 : Int) (x3 : Int) (x4 : Int) (h : am_H) : am_run am_ms 166 202 [am_R x0, am_R x1, am_I x2, am_I x3, am_I x4] [] h = ((am_rd h x1 0 425).bind fun v1 => ((am_wr h x1 0 425 (am_w (v1 + 1))).bind fun h2 => ((am_isc h2 x0 9).bind fun _ => ((am_cI 165 [am_R x0, am_R x1] h2).bind fun r3 => am_run am_ms 166 221 [am_R x0, am_R x1, am_I x2, am_I x3, am_I x4] [am_I r3.1, am_I (-1), am_I 6, am_R x1, am_R x0] r3.2)))) :=
  (am_xs_run am_ms 166 [(.aload_n 1, 1, []), (.sipush 425, 3, []), (.dup2, 1, []), (.iaload, 1, []), (.iconst 1, 1, []), (.iadd, 1, []), (.iastore, 1, []), (.aload_n 0, 1, []), (.aload_n 1, 1, []), (.bipush 6, 2, []), (.iconst (-1), 1, []), (.aload_n 0, 1, []), (.aload_n 1, 1, []), (.invokevirtual 278, 3, [0, 165, 2, 9, 1, 7065, 7067, 84])] 202 _ _ h (by decide +kernel)).trans rfl
set_option maxHeartbeats 4000000 in
theorem bk_166_221 (x0 : Nat) (x1 : Nat) (x2 : Int) (x3 : Int) (x4 : Int) (y0 : Int) (y1 : Int) (y2 : Int) (y3 : Nat) (y4 : Nat) (h : am_H) : am_run am_ms 166 221 [am_R x0, am_R x1, am_I x2, am_I x3, am_I x4] [am_I y0, am_I y1, am_I y2, am_R y3, am_R y4] h = ((am_isc h y4 9).bind fun _ => ((am_cV 127 [am_R y4, am_R y3, am_I y2, am_I y1, am_I y0] h).bind fun h1 => some (none, h1))) :=
  (am_xs_run am_ms 166 [(.invokevirtual 203, 3, [0, 127, 5, 9, 0, 7002, 7004, 70]), (.return_, 1, [])] 221 _ _ h (by decide +kernel)).trans rfl
set_option maxHeartbeats 4000000 in
theorem bk_167_0 (x0 : Nat) (x1 : Nat) (x2 : Int) (x3 : Int) (h : am_H) : am_run am_ms 167 0 [am_R x0, am_R x1, am_I x2, am_I x3] [] h = am_run am_ms 167 1 [am_R x0, am_R x1, am_I x2, am_I x3] [am_I x2] h :=
  (am_xs_run am_ms 167 [(.iload_n 2, 1, [])] 0 _ _ h (by decide +kernel)).trans rfl
theorem en_167 (x0 : Nat) (x1 : Nat) (x2 : Int) (x3 : Int) (h : am_H) : am_call am_ms 167 [am_R x0, am_R x1, am_I x2, am_I x3] h = am_run am_ms 167 0 [am_R x0, am_R x1, am_I x2, am_I x3] [] h := rfl
theorem bk_167_1 (x0 : Nat) (x1 : Nat) (x2 : Int) (x3 : Int) (y0 : Int) (h : am_H) : am_run am_ms 167 1 [am_R x0, am_R x1, am_I x2, am_I x3] [am_I y0] h = am_run am_ms 167 (am_tsw 1 122 4 7 #[31, 65, 84, 103] y0) [am_R x0, am_R x1, am_I x2, am_I x3] [] h := by
  rw [am_run_eq, show am_code am_ms 167 1 = some (.tableswitch 122 4 7 #[31, 65, 84, 103], 31, []) from by decide +kernel]
  rfl
set_option maxHeartbeats 4000000 in
theorem bk_167_32 (x0 : Nat) (x1 : Nat) (x2 : Int) (x3 : Int) (h : am_H) : am_run am_ms 167 32 [am_R x0, am_R x1, am_I x2, am_I x3] [] h = ((am_wr h x1 0 (am_w (0 + x3)) 1).bind fun h1 => ((am_wr h1 x1 0 (am_w (24 + x3)) 0).bind fun h2 => am_run am_ms 167 47 [am_R x0, am_R x1, am_I x2, am_I x3] [am_R x1, am_R x0] h2)) :=
  (am_xs_run am_ms 167 [(.aload_n 1, 1, []), (.iconst 0, 1, []), (.iload_n 3, 1, []), (.iadd, 1, []), (.iconst 1, 1, []), (.iastore, 1, []), (.aload_n 1, 1, []), (.bipush 24, 2, []), (.iload_n 3, 1, []), (.iadd, 1, []), (.iconst 0, 1, []), (.iastore, 1, []), (.aload_n 0, 1, []), (.aload_n 1, 1, [])] 32 _ _ h (by decide +kernel)).trans rfl
set_option maxHeartbeats 4000000 in
theorem bk_167_47 (x0 : Nat) (x1 : Nat) (x2 : Int) (x3 : Int) (y0 : Nat) (y1 : Nat) (h : am_H) : am_run am_ms 167 47 [am_R x0, am_R x1, am_I x2, am_I x3] [am_R y0, am_R y1] h = ((am_isc h y1 9).bind fun _ => ((am_cV 127 [am_R y1, am_R y0, am_I 4, am_I x3, am_I 0] h).bind fun h1 => ((am_isc h1 x0 9).bind fun _ => ((am_cI 112 [am_R x0, am_R x1, am_I 1] h1).bind fun r2 => ((am_pf r2.2 x0 9 28 (am_I r2.1)).bind fun h3 => am_run am_ms 167 138 [am_R x0, am_R x1, am_I x2, am_I x3] [] h3))))) :=
  (am_xs_run am_ms 167 [(.iconst 4, 1, []), (.iload_n 3, 1, []), (.iconst 0, 1, []), (.invokevirtual 203, 3, [0, 127, 5, 9, 0, 7002, 7004, 70]), (.aload_n 0, 1, []), (.aload_n 0, 1, []), (.aload_n 1, 1, []), (.iconst 1, 1, []), (.invokevirtual 200, 3, [0, 112, 3, 9, 1, 6170, 6172, 53]), (.putfield 300, 3, [9, 28, 5211, 0]), (.goto 75, 3, [])] 47 _ _ h (by decide +kernel)).trans rfl
set_option maxHeartbeats 4000000 in
theorem bk_167_66 (x0 : Nat) (x1 : Nat) (x2 : Int) (x3 : Int) (h : am_H) : am_run am_ms 167 66 [am_R x0, am_R x1, am_I x2, am_I x3] [] h = ((am_isc h x0 9).bind fun _ => ((am_cV 130 [am_R x0, am_R x1, am_I x3] h).bind fun h1 => ((am_isc h1 x0 9).bind fun _ => ((am_cI 112 [am_R x0, am_R x1, am_I 1] h1).bind fun r2 => ((am_pf r2.2 x0 9 28 (am_I r2.1)).bind fun h3 => am_run am_ms 167 138 [am_R x0, am_R x1, am_I x2, am_I x3] [] h3))))) :=
  (am_xs_run am_ms 167 [(.aload_n 0, 1, []), (.aload_n 1, 1, []), (.iload_n 3, 1, []), (.invokevirtual 211, 3, [0, 130, 3, 9, 0, 7014, 7016, 73]), (.aload_n 0, 1, []), (.aload_n 0, 1, []), (.aload_n 1, 1, []), (.iconst 1, 1, []), (.invokevirtual 200, 3, [0, 112, 3, 9, 1, 6170, 6172, 53]), (.putfield 300, 3, [9, 28, 5211, 0]), (.goto 56, 3, [])] 66 _ _ h (by decide +kernel)).trans rfl
set_option maxHeartbeats 4000000 in
theorem bk_167_85 (x0 : Nat) (x1 : Nat) (x2 : Int) (x3 : Int) (h : am_H) : am_run am_ms 167 85 [am_R x0, am_R x1, am_I x2, am_I x3] [] h = ((am_isc h x0 9).bind fun _ => ((am_cV 128 [am_R x0, am_R x1, am_I x3] h).bind fun h1 => ((am_rd h1 x1 0 (am_w (8 + x3))).bind fun v2 => ((am_pf h1 x0 9 28 (am_I v2)).bind fun h3 => am_run am_ms 167 138 [am_R x0, am_R x1, am_I x2, am_I x3] [] h3)))) :=
  (am_xs_run am_ms 167 [(.aload_n 0, 1, []), (.aload_n 1, 1, []), (.iload_n 3, 1, []), (.invokevirtual 233, 3, [0, 128, 3, 9, 0, 6238, 7000, 69]), (.aload_n 0, 1, []), (.aload_n 1, 1, []), (.bipush 8, 2, []), (.iload_n 3, 1, []), (.iadd, 1, []), (.iaload, 1, []), (.putfield 300, 3, [9, 28, 5211, 0]), (.goto 37, 3, [])] 85 _ _ h (by decide +kernel)).trans rfl
set_option maxHeartbeats 4000000 in
theorem bk_167_104 (x0 : Nat) (x1 : Nat) (x2 : Int) (x3 : Int) (h : am_H) : am_run am_ms 167 104 [am_R x0, am_R x1, am_I x2, am_I x3] [] h = ((am_isc h x0 9).bind fun _ => ((am_cV 133 [am_R x0, am_R x1, am_I x3] h).bind fun h1 => ((am_rd h1 x1 0 (am_w (16 + x3))).bind fun v2 => ((am_pf h1 x0 9 28 (am_I v2)).bind fun h3 => am_run am_ms 167 138 [am_R x0, am_R x1, am_I x2, am_I x3] [] h3)))) :=
  (am_xs_run am_ms 167 [(.aload_n 0, 1, []), (.aload_n 1, 1, []), (.iload_n 3, 1, []), (.invokevirtual 256, 3, [0, 133, 3, 9, 0, 7018, 7020, 74]), (.aload_n 0, 1, []), (.aload_n 1, 1, []), (.bipush 16, 2, []), (.iload_n 3, 1, []), (.iadd, 1, []), (.iaload, 1, []), (.putfield 300, 3, [9, 28, 5211, 0]), (.goto 18, 3, [])] 104 _ _ h (by decide +kernel)).trans rfl
set_option maxHeartbeats 4000000 in
theorem bk_167_123 (x0 : Nat) (x1 : Nat) (x2 : Int) (x3 : Int) (h : am_H) : am_run am_ms 167 123 [am_R x0, am_R x1, am_I x2, am_I x3] [] h = ((am_rd h x1 0 420).bind fun v1 => ((am_pf h x0 9 28 (am_I v1)).bind fun h2 => ((am_wr h2 x1 0 420 x3).bind fun h3 => am_run am_ms 167 138 [am_R x0, am_R x1, am_I x2, am_I x3] [] h3))) :=
  (am_xs_run am_ms 167 [(.aload_n 0, 1, []), (.aload_n 1, 1, []), (.sipush 420, 3, []), (.iaload, 1, []), (.putfield 300, 3, [9, 28, 5211, 0]), (.aload_n 1, 1, []), (.sipush 420, 3, []), (.iload_n 3, 1, []), (.iastore, 1, [])] 123 _ _ h (by decide +kernel)).trans rfl
set_option maxHeartbeats 4000000 in
theorem bk_167_138 (x0 : Nat) (x1 : Nat) (x2 : Int) (x3 : Int) (h : am_H) : am_run am_ms 167 138 [am_R x0, am_R x1, am_I x2, am_I x3] [] h = some (none, h) :=
  (am_xs_run am_ms 167 [(.return_, 1, [])] 138 _ _ h (by decide +kernel)).trans rfl
set_option maxHeartbeats 4000000 in
theorem bk_168_0 (x0 : Nat) (x1 : Nat) (x2 : Int) (x3 : Int) (x4 : Int) (h : am_H) : am_run am_ms 168 0 [am_R x0, am_R x1, am_I x2, am_I x3, am_I x4] [] h = am_run am_ms 168 1 [am_R x0, am_R x1, am_I x2, am_I x3, am_I x4] [am_I x2] h :=
  (am_xs_run am_ms 168 [(.iload_n 2, 1, [])] 0 _ _ h (by decide +kernel)).trans rfl
theorem en_168 (x0 : Nat) (x1 : Nat) (x2 : Int) (x3 : Int) (x4 : Int) (h : am_H) : am_call am_ms 168 [am_R x0, am_R x1, am_I x2, am_I x3, am_I x4] h = am_run am_ms 168 0 [am_R x0, am_R x1, am_I x2, am_I x3, am_I x4] [] h := rfl
theorem bk_168_1 (x0 : Nat) (x1 : Nat) (x2 : Int) (x3 : Int) (x4 : Int) (y0 : Int) (h : am_H) : am_run am_ms 168 1 [am_R x0, am_R x1, am_I x2, am_I x3, am_I x4] [am_I y0] h = am_run am_ms 168 (am_tsw 1 91 0 3 #[31, 31, 62, 75] y0) [am_R x0, am_R x1, am_I x2, am_I x3, am_I x4] [] h := by
  rw [am_run_eq, show am_code am_ms 168 1 = some (.tableswitch 91 0 3 #[31, 31, 62, 75], 31, []) from by decide +kernel]
  rfl
set_option maxHeartbeats 4000000 in
theorem bk_168_32 (x0 : Nat) (x1 : Nat) (x2 : Int) (x3 : Int) (x4 : Int) (h : am_H) : am_run am_ms 168 32 [am_R x0, am_R x1, am_I x2, am_I x3, am_I x4] [] h = (bif decide (¬ x2 = 0) then am_run am_ms 168 44 [am_R x0, am_R x1, am_I x2, am_I x3, am_I x4] [am_I x3, am_R x1, am_R x0] h else am_run am_ms 168 45 [am_R x0, am_R x1, am_I x2, am_I x3, am_I x4] [am_I x4, am_I x3, am_R x1, am_R x0] h) :=
  (am_xs_run am_ms 168 [(.aload_n 0, 1, []), (.aload_n 1, 1, []), (.iload_n 3, 1, []), (.iload_n 2, 1, []), (.ifCond .ne 8, 3, []), (.iload 4, 2, []), (.goto 4, 3, [])] 32 _ _ h (by decide +kernel)).trans rfl
set_option maxHeartbeats 4000000 in
theorem bk_168_44 (x0 : Nat) (x1 : Nat) (x2 : Int) (x3 : Int) (x4 : Int) (y0 : Int) (y1 : Nat) (y2 : Nat) (h : am_H) : am_run am_ms 168 44 [am_R x0, am_R x1, am_I x2, am_I x3, am_I x4] [am_I y0, am_R y1, am_R y2] h = am_run am_ms 168 45 [am_R x0, am_R x1, am_I x2, am_I x3, am_I x4] [am_I (-1), am_I y0, am_R y1, am_R y2] h :=
  (am_xs_run am_ms 168 [(.iconst (-1), 1, [])] 44 _ _ h (by decide +kernel)).trans rfl
set_option maxHeartbeats 4000000 in
theorem bk_168_45 (x0 : Nat) (x1 : Nat) (x2 : Int) (x3 : Int) (x4 : Int) (y0 : Int) (y1 : Int) (y2 : Nat) (y3 : Nat) (h : am_H) : am_run am_ms 168 45 [am_R x0, am_R x1, am_I x2, am_I x3, am_I x4] [am_I y0, am_I y1, am_R y2, am_R y3] h = ((am_isc h y3 9).bind fun _ => ((am_cI 135 [am_R y3, am_R y2, am_I y1, am_I y0] h).bind fun r1 => (bif decide (¬ r1.1 = 0) then am_run am_ms 168 53 [am_R x0, am_R x1, am_I x2, am_I x3, am_I x4] [] r1.2 else some (some (am_I 0), r1.2)))) :=
  (am_xs_run am_ms 168 [(.invokevirtual 161, 3, [0, 135, 4, 9, 1, 6151, 6153, 49]), (.ifCond .ne 5, 3, []), (.iconst 0, 1, []), (.ireturn, 1, [1])] 45 _ _ h (by decide +kernel)).trans rfl
set_option maxHeartbeats 4000000 in
theorem bk_168_53 (x0 : Nat) (x1 : Nat) (x2 : Int) (x3 : Int) (x4 : Int) (h : am_H) : am_run am_ms 168 53 [am_R x0, am_R x1, am_I x2, am_I x3, am_I x4] [] h = ((am_gfI h x0 9 27).bind fun f1 => ((am_pf h x0 9 28 (am_I f1)).bind fun h2 => some (some (am_I 1), h2))) :=
  (am_xs_run am_ms 168 [(.aload_n 0, 1, []), (.aload_n 0, 1, []), (.getfield 272, 3, [9, 27, 5210, 0]), (.putfield 300, 3, [9, 28, 5211, 0]), (.iconst 1, 1, []), (.ireturn, 1, [1])] 53 _ _ h (by decide +kernel)).trans rfl
set_option maxHeartbeats 4000000 in
theorem bk_168_63 (x0 : Nat) (x1 : Nat) (x2 : Int) (x3 : Int) (x4 : Int) (h : am_H) : am_run am_ms 168 63 [am_R x0, am_R x1, am_I x2, am_I x3, am_I x4] [] h = ((am_isc h x0 9).bind fun _ => ((am_cI 134 [am_R x0, am_R x1, am_I 17] h).bind fun r1 => ((am_pf r1.2 x0 9 28 (am_I r1.1)).bind fun h2 => some (some (am_I 1), h2)))) :=
  (am_xs_run am_ms 168 [(.aload_n 0, 1, []), (.aload_n 0, 1, []), (.aload_n 1, 1, []), (.bipush 17, 2, []), (.invokevirtual 269, 3, [0, 134, 3, 9, 1, 6211, 6213, 63]), (.putfield 300, 3, [9, 28, 5211, 0]), (.iconst 1, 1, []), (.ireturn, 1, [1])] 63 _ _ h (by decide +kernel)).trans rfl
set_option maxHeartbeats 4000000 in
theorem bk_168_76 (x0 : Nat) (x1 : Nat) (x2 : Int) (x3 : Int) (x4 : Int) (h : am_H) : am_run am_ms 168 76 [am_R x0, am_R x1, am_I x2, am_I x3, am_I x4] [] h = ((am_isc h x0 9).bind fun _ => ((am_cV 166 [am_R x0, am_R x1] h).bind fun h1 => ((am_isc h1 x0 9).bind fun _ => ((am_cI 165 [am_R x0, am_R x1] h1).bind fun r2 => ((am_pf r2.2 x0 9 28 (am_I r2.1)).bind fun h3 => some (some (am_I 1), h3)))))) :=
  (am_xs_run am_ms 168 [(.aload_n 0, 1, []), (.aload_n 1, 1, []), (.invokevirtual 303, 3, [0, 166, 2, 9, 0, 7061, 7063, 83]), (.aload_n 0, 1, []), (.aload_n 0, 1, []), (.aload_n 1, 1, []), (.invokevirtual 278, 3, [0, 165, 2, 9, 1, 7065, 7067, 84]), (.putfield 300, 3, [9, 28, 5211, 0]), (.iconst 1, 1, []), (.ireturn, 1, [1])] 76 _ _ h (by decide +kernel)).trans rfl
set_option maxHeartbeats 4000000 in
theorem bk_168_92 (x0 : Nat) (x1 : Nat) (x2 : Int) (x3 : Int) (x4 : Int) (h : am_H) : am_run am_ms 168 92 [am_R x0, am_R x1, am_I x2, am_I x3, am_I x4] [] h = ((am_isc h x0 9).bind fun _ => ((am_cV 167 [am_R x0, am_R x1, am_I x2, am_I x3] h).bind fun h1 => some (some (am_I 1), h1))) :=
  (am_xs_run am_ms 168 [(.aload_n 0, 1, []), (.aload_n 1, 1, []), (.iload_n 2, 1, []), (.iload_n 3, 1, []), (.invokevirtual 307, 3, [0, 167, 4, 9, 0, 7069, 7071, 85]), (.iconst 1, 1, []), (.ireturn, 1, [1])] 92 _ _ h (by decide +kernel)).trans rfl
set_option maxHeartbeats 4000000 in
theorem bk_169_0 (x0 : Nat) (h : am_H) : am_run am_ms 169 0 [am_R x0] [] h = ((am_gfI h x0 9 21).bind fun f1 => (bif decide (¬ f1 = 40) then am_run am_ms 169 25 [am_R x0] [] h else ((am_gfI h x0 9 20).bind fun f2 => (if 40 = 0 then none else ((am_pf h x0 9 20 (am_I (am_rem (am_w (f2 + 1)) 40))).bind fun h3 => am_run am_ms 169 35 [am_R x0] [] h3))))) :=
  (am_xs_run am_ms 169 [(.aload_n 0, 1, []), (.getfield 165, 3, [9, 21, 5204, 0]), (.bipush 40, 2, []), (.if_icmp .ne 19, 3, []), (.aload_n 0, 1, []), (.aload_n 0, 1, []), (.getfield 281, 3, [9, 20, 5203, 0]), (.iconst 1, 1, []), (.iadd, 1, []), (.bipush 40, 2, []), (.irem, 1, []), (.putfield 281, 3, [9, 20, 5203, 0]), (.goto 13, 3, [])] 0 _ _ h (by decide +kernel)).trans rfl
theorem en_169 (x0 : Nat) (h : am_H) : am_call am_ms 169 [am_R x0] h = am_run am_ms 169 0 [am_R x0] [] h := rfl
set_option maxHeartbeats 4000000 in
theorem bk_169_25 (x0 : Nat) (h : am_H) : am_run am_ms 169 25 [am_R x0] [] h = ((am_gfI h x0 9 21).bind fun f1 => ((am_pf h x0 9 21 (am_I (am_w (f1 + 1)))).bind fun h2 => am_run am_ms 169 35 [am_R x0] [] h2)) :=
  (am_xs_run am_ms 169 [(.aload_n 0, 1, []), (.dup, 1, []), (.getfield 165, 3, [9, 21, 5204, 0]), (.iconst 1, 1, []), (.iadd, 1, []), (.putfield 165, 3, [9, 21, 5204, 0])] 25 _ _ h (by decide +kernel)).trans rfl
set_option maxHeartbeats 4000000 in
theorem bk_169_35 (x0 : Nat) (h : am_H) : am_run am_ms 169 35 [am_R x0] [] h = ((am_gfR h x0 9 15).bind fun f1 => ((am_gfR h x0 9 19).bind fun f2 => ((am_gfI h x0 9 20).bind fun f3 => ((am_gfI h x0 9 21).bind fun f4 => am_run am_ms 169 60 [am_R x0] [am_I 40, am_I (am_w ((am_w (f3 + f4)) - 1)), am_I 609, am_R f2, am_I 0, am_R f1] h)))) :=
  (am_xs_run am_ms 169 [(.aload_n 0, 1, []), (.getfield 32, 3, [9, 15, 5198, 3]), (.iconst 0, 1, []), (.aload_n 0, 1, []), (.getfield 44, 3, [9, 19, 5202, 3]), (.sipush 609, 3, []), (.aload_n 0, 1, []), (.getfield 281, 3, [9, 20, 5203, 0]), (.aload_n 0, 1, []), (.getfield 165, 3, [9, 21, 5204, 0]), (.iadd, 1, []), (.iconst 1, 1, []), (.isub, 1, []), (.bipush 40, 2, [])] 35 _ _ h (by decide +kernel)).trans rfl
set_option maxHeartbeats 4000000 in
theorem bk_169_60 (x0 : Nat) (y0 : Int) (y1 : Int) (y2 : Int) (y3 : Nat) (y4 : Int) (y5 : Nat) (h : am_H) : am_run am_ms 169 60 [am_R x0] [am_I y0, am_I y1, am_I y2, am_R y3, am_I y4, am_R y5] h = (if y0 = 0 then none else ((am_cV 108 [am_R y5, am_I y4, am_R y3, am_I (am_w (y2 * (am_rem y1 y0)))] h).bind fun h1 => some (none, h1))) :=
  (am_xs_run am_ms 169 [(.irem, 1, []), (.imul, 1, []), (.invokestatic 259, 3, [1, 108, 4, 0, 0, 6155, 6156]), (.return_, 1, [])] 60 _ _ h (by decide +kernel)).trans rfl
set_option maxHeartbeats 4000000 in
theorem bk_170_0 (x0 : Nat) (x1 : Int) (x2 : Int) (x3 : Int) (h : am_H) : am_run am_ms 170 0 [am_R x0, am_I x1, am_I x2, am_I x3, am_K 1] [] h = ((am_gfR h x0 9 15).bind fun f1 => ((am_isc h x0 9).bind fun _ => ((am_cI 164 [am_R x0, am_R f1, am_I x1, am_I x2, am_I x3] h).bind fun r2 => (bif decide (r2.1 = (-1)) then am_run am_ms 170 22 [am_R x0, am_I x1, am_I x2, am_I x3, am_I r2.1] [] r2.2 else some (some (am_I r2.1), r2.2))))) :=
  (am_xs_run am_ms 170 [(.aload_n 0, 1, []), (.aload_n 0, 1, []), (.getfield 32, 3, [9, 15, 5198, 3]), (.iload_n 1, 1, []), (.iload_n 2, 1, []), (.iload_n 3, 1, []), (.invokevirtual 311, 3, [0, 164, 5, 9, 1, 7034, 7036, 77]), (.istore 4, 2, []), (.iload 4, 2, []), (.iconst (-1), 1, []), (.if_icmp .eq 6, 3, []), (.iload 4, 2, []), (.ireturn, 1, [0])] 0 _ _ h (by decide +kernel)).trans rfl
theorem en_170 (x0 : Nat) (x1 : Int) (x2 : Int) (x3 : Int) (h : am_H) : am_call am_ms 170 [am_R x0, am_I x1, am_I x2, am_I x3] h = am_run am_ms 170 0 [am_R x0, am_I x1, am_I x2, am_I x3, am_K 1] [] h := rfl
set_option maxHeartbeats 4000000 in
theorem bk_170_22 (x0 : Nat) (x1 : Int) (x2 : Int) (x3 : Int) (x4 : Int) (h : am_H) : am_run am_ms 170 22 [am_R x0, am_I x1, am_I x2, am_I x3, am_I x4] [] h = ((am_gfR h x0 9 15).bind fun f1 => ((am_gfR h x0 9 16).bind fun f2 => ((am_cV 108 [am_R f1, am_I 0, am_R f2, am_I 0] h).bind fun h3 => ((am_gfR h3 x0 9 16).bind fun f4 => ((am_isc h3 x0 9).bind fun _ => ((am_cI 168 [am_R x0, am_R f4, am_I x1, am_I x2, am_I x3] h3).bind fun r5 => am_run am_ms 170 46 [am_R x0, am_I x1, am_I x2, am_I x3, am_I x4] [am_I r5.1] r5.2)))))) :=
  (am_xs_run am_ms 170 [(.aload_n 0, 1, []), (.getfield 32, 3, [9, 15, 5198, 3]), (.iconst 0, 1, []), (.aload_n 0, 1, []), (.getfield 35, 3, [9, 16, 5199, 3]), (.iconst 0, 1, []), (.invokestatic 259, 3, [1, 108, 4, 0, 0, 6155, 6156]), (.aload_n 0, 1, []), (.aload_n 0, 1, []), (.getfield 35, 3, [9, 16, 5199, 3]), (.iload_n 1, 1, []), (.iload_n 2, 1, []), (.iload_n 3, 1, []), (.invokevirtual 315, 3, [0, 168, 5, 9, 1, 7057, 7059, 82])] 22 _ _ h (by decide +kernel)).trans rfl
set_option maxHeartbeats 4000000 in
theorem bk_170_46 (x0 : Nat) (x1 : Int) (x2 : Int) (x3 : Int) (x4 : Int) (y0 : Int) (h : am_H) : am_run am_ms 170 46 [am_R x0, am_I x1, am_I x2, am_I x3, am_I x4] [am_I y0] h = (bif decide (¬ y0 = 0) then am_run am_ms 170 51 [am_R x0, am_I x1, am_I x2, am_I x3, am_I x4] [] h else some (some (am_I 3), h)) :=
  (am_xs_run am_ms 170 [(.ifCond .ne 5, 3, []), (.iconst 3, 1, []), (.ireturn, 1, [0])] 46 _ _ h (by decide +kernel)).trans rfl
set_option maxHeartbeats 4000000 in
theorem bk_170_51 (x0 : Nat) (x1 : Int) (x2 : Int) (x3 : Int) (x4 : Int) (h : am_H) : am_run am_ms 170 51 [am_R x0, am_I x1, am_I x2, am_I x3, am_I x4] [] h = ((am_isc h x0 9).bind fun _ => ((am_cV 169 [am_R x0] h).bind fun h1 => ((am_gfR h1 x0 9 16).bind fun f2 => ((am_gfR h1 x0 9 15).bind fun f3 => ((am_cV 108 [am_R f2, am_I 0, am_R f3, am_I 0] h1).bind fun h4 => some (some (am_I (-1)), h4)))))) :=
  (am_xs_run am_ms 170 [(.aload_n 0, 1, []), (.invokevirtual 319, 3, [0, 169, 1, 9, 0, 7073, 7075, 86]), (.aload_n 0, 1, []), (.getfield 35, 3, [9, 16, 5199, 3]), (.iconst 0, 1, []), (.aload_n 0, 1, []), (.getfield 32, 3, [9, 15, 5198, 3]), (.iconst 0, 1, []), (.invokestatic 259, 3, [1, 108, 4, 0, 0, 6155, 6156]), (.iconst (-1), 1, []), (.ireturn, 1, [0])] 51 _ _ h (by decide +kernel)).trans rfl
set_option maxHeartbeats 4000000 in
theorem bk_171_0 (x0 : Nat) (x1 : Int) (h : am_H) : am_run am_ms 171 0 [am_R x0, am_I x1] [] h = ((am_gfR h x0 9 10).bind fun f1 => ((am_rd h f1 0 x1).bind fun v2 => ((am_wr h f1 0 x1 (am_w (v2 + 1))).bind fun h3 => some (some (am_I (-1)), h3)))) :=
  (am_xs_run am_ms 171 [(.aload_n 0, 1, []), (.getfield 29, 3, [9, 10, 5193, 3]), (.iload_n 1, 1, []), (.dup2, 1, []), (.iaload, 1, []), (.iconst 1, 1, []), (.iadd, 1, []), (.iastore, 1, []), (.iconst (-1), 1, []), (.ireturn, 1, [0])] 0 _ _ h (by decide +kernel)).trans rfl
theorem en_171 (x0 : Nat) (x1 : Int) (h : am_H) : am_call am_ms 171 [am_R x0, am_I x1] h = am_run am_ms 171 0 [am_R x0, am_I x1] [] h := rfl
set_option maxHeartbeats 4000000 in
theorem bk_172_0 (x0 : Nat) (x1 : Int) (x2 : Int) (x3 : Int) (h : am_H) : am_run am_ms 172 0 [am_R x0, am_I x1, am_I x2, am_I x3, am_K 1] [] h = ((am_pf h x0 9 0 (am_I 0)).bind fun h1 => ((am_isc h1 x0 9).bind fun _ => ((am_cI 170 [am_R x0, am_I x1, am_I x2, am_I x3] h1).bind fun r2 => (bif decide (¬ r2.1 = (-1)) then am_run am_ms 172 27 [am_R x0, am_I x1, am_I x2, am_I x3, am_I r2.1] [] r2.2 else ((am_gfI r2.2 x0 9 28).bind fun f3 => am_run am_ms 172 24 [am_R x0, am_I x1, am_I x2, am_I x3, am_I r2.1] [am_I f3] r2.2))))) :=
  (am_xs_run am_ms 172 [(.aload_n 0, 1, []), (.iconst 0, 1, []), (.putfield 53, 3, [9, 0, 5183, 0]), (.aload_n 0, 1, []), (.iload_n 1, 1, []), (.iload_n 2, 1, []), (.iload_n 3, 1, []), (.invokevirtual 322, 3, [0, 170, 4, 9, 1, 7030, 7032, 76]), (.istore 4, 2, []), (.iload 4, 2, []), (.iconst (-1), 1, []), (.if_icmp .ne 10, 3, []), (.aload_n 0, 1, []), (.getfield 300, 3, [9, 28, 5211, 0])] 0 _ _ h (by decide +kernel)).trans rfl
theorem en_172 (x0 : Nat) (x1 : Int) (x2 : Int) (x3 : Int) (h : am_H) : am_call am_ms 172 [am_R x0, am_I x1, am_I x2, am_I x3] h = am_run am_ms 172 0 [am_R x0, am_I x1, am_I x2, am_I x3, am_K 1] [] h := rfl
set_option maxHeartbeats 4000000 in
theorem bk_172_24 (x0 : Nat) (x1 : Int) (x2 : Int) (x3 : Int) (x4 : Int) (y0 : Int) (h : am_H) : am_run am_ms 172 24 [am_R x0, am_I x1, am_I x2, am_I x3, am_I x4] [am_I y0] h = am_run am_ms 172 33 [am_R x0, am_I x1, am_I x2, am_I x3, am_I x4] [am_I y0] h :=
  (am_xs_run am_ms 172 [(.goto 9, 3, [])] 24 _ _ h (by decide +kernel)).trans rfl
set_option maxHeartbeats 4000000 in
theorem bk_172_27 (x0 : Nat) (x1 : Int) (x2 : Int) (x3 : Int) (x4 : Int) (h : am_H) : am_run am_ms 172 27 [am_R x0, am_I x1, am_I x2, am_I x3, am_I x4] [] h = ((am_isc h x0 9).bind fun _ => ((am_cI 171 [am_R x0, am_I x4] h).bind fun r1 => am_run am_ms 172 33 [am_R x0, am_I x1, am_I x2, am_I x3, am_I x4] [am_I r1.1] r1.2)) :=
  (am_xs_run am_ms 172 [(.aload_n 0, 1, []), (.iload 4, 2, []), (.invokevirtual 326, 3, [0, 171, 2, 9, 1, 7077, 7079, 87])] 27 _ _ h (by decide +kernel)).trans rfl
set_option maxHeartbeats 4000000 in
theorem bk_172_33 (x0 : Nat) (x1 : Int) (x2 : Int) (x3 : Int) (x4 : Int) (y0 : Int) (h : am_H) : am_run am_ms 172 33 [am_R x0, am_I x1, am_I x2, am_I x3, am_I x4] [am_I y0] h = some (some (am_I y0), h) :=
  (am_xs_run am_ms 172 [(.ireturn, 1, [0])] 33 _ _ h (by decide +kernel)).trans rfl
set_option maxHeartbeats 4000000 in
theorem bk_173_0 (x0 : Nat) (x1 : Int) (x2 : Int) (h : am_H) : am_run am_ms 173 0 [am_R x0, am_I x1, am_I x2] [] h = ((am_isc h x0 9).bind fun _ => ((am_cI 172 [am_R x0, am_I 0, am_I x1, am_I x2] h).bind fun r1 => some (some (am_I r1.1), r1.2))) :=
  (am_xs_run am_ms 173 [(.aload_n 0, 1, []), (.iconst 0, 1, []), (.iload_n 1, 1, []), (.iload_n 2, 1, []), (.invokevirtual 329, 3, [0, 172, 4, 9, 1, 7026, 7028, 75]), (.ireturn, 1, [0])] 0 _ _ h (by decide +kernel)).trans rfl
theorem en_173 (x0 : Nat) (x1 : Int) (x2 : Int) (h : am_H) : am_call am_ms 173 [am_R x0, am_I x1, am_I x2] h = am_run am_ms 173 0 [am_R x0, am_I x1, am_I x2] [] h := rfl
set_option maxHeartbeats 4000000 in
theorem bk_174_0 (x0 : Nat) (x1 : Int) (h : am_H) : am_run am_ms 174 0 [am_R x0, am_I x1] [] h = ((am_gfR h x0 8 9).bind fun f1 => ((am_gfR h x0 8 4).bind fun f2 => ((am_isc h f1 2).bind fun _ => ((am_cV 161 [am_R f1, am_R f2] h).bind fun h3 => ((am_gfR h3 x0 8 4).bind fun f4 => ((am_gfR h3 x0 8 5).bind fun f5 => ((am_isc h3 f4 1).bind fun _ => ((am_cI 102 [am_R f4, am_I x1, am_I (-1), am_R f5] h3).bind fun r6 => ((am_isc r6.2 x0 8).bind fun _ => ((am_cI 160 [am_R x0, am_I r6.1] r6.2).bind fun r7 => am_run am_ms 174 28 [am_R x0, am_I x1] [am_I r7.1] r7.2)))))))))) :=
  (am_xs_run am_ms 174 [(.aload_n 0, 1, []), (.getfield 56, 3, [8, 9, 2046, 3]), (.aload_n 0, 1, []), (.getfield 34, 3, [8, 4, 2041, 3]), (.invokevirtual 211, 3, [0, 161, 2, 2, 0, 4017, 4018, 4019]), (.aload_n 0, 1, []), (.aload_n 0, 1, []), (.getfield 34, 3, [8, 4, 2041, 3]), (.iload_n 1, 1, []), (.iconst (-1), 1, []), (.aload_n 0, 1, []), (.getfield 38, 3, [8, 5, 2042, 3]), (.invokevirtual 120, 3, [0, 102, 4, 1, 1, 3050, 3051, 3052]), (.invokevirtual 208, 3, [0, 160, 2, 8, 1, 4005, 4007, 28])] 0 _ _ h (by decide +kernel)).trans rfl
theorem en_174 (x0 : Nat) (x1 : Int) (h : am_H) : am_call am_ms 174 [am_R x0, am_I x1] h = am_run am_ms 174 0 [am_R x0, am_I x1] [] h := rfl
set_option maxHeartbeats 4000000 in
theorem bk_174_28 (x0 : Nat) (x1 : Int) (y0 : Int) (h : am_H) : am_run am_ms 174 28 [am_R x0, am_I x1] [am_I y0] h = some (some (am_I y0), h) :=
  (am_xs_run am_ms 174 [(.ireturn, 1, [0])] 28 _ _ h (by decide +kernel)).trans rfl
set_option maxHeartbeats 4000000 in
theorem bk_175_0 (x0 : Nat) (x1 : Int) (h : am_H) : am_run am_ms 175 0 [am_R x0, am_I x1] [] h = ((am_isc h x0 9).bind fun _ => ((am_cI 172 [am_R x0, am_I 1, am_I x1, am_I 0] h).bind fun r1 => some (some (am_I r1.1), r1.2))) :=
  (am_xs_run am_ms 175 [(.aload_n 0, 1, []), (.iconst 1, 1, []), (.iload_n 1, 1, []), (.iconst 0, 1, []), (.invokevirtual 329, 3, [0, 172, 4, 9, 1, 7026, 7028, 75]), (.ireturn, 1, [0])] 0 _ _ h (by decide +kernel)).trans rfl
theorem en_175 (x0 : Nat) (x1 : Int) (h : am_H) : am_call am_ms 175 [am_R x0, am_I x1] h = am_run am_ms 175 0 [am_R x0, am_I x1] [] h := rfl
set_option maxHeartbeats 4000000 in
theorem bk_176_0 (x0 : Nat) (h : am_H) : am_run am_ms 176 0 [am_R x0, am_K 1, am_K 1] [] h = ((am_gfR h x0 1 0).bind fun f1 => ((am_rd h f1 0 0).bind fun v2 => (bif decide (¬ v2 = 0) then am_run am_ms 176 11 [am_R x0, am_K 1, am_K 1] [] h else some (some (am_I (-1)), h)))) :=
  (am_xs_run am_ms 176 [(.aload_n 0, 1, []), (.getfield 9, 3, [1, 0, 1146, 3]), (.iconst 0, 1, []), (.iaload, 1, []), (.ifCond .ne 5, 3, []), (.iconst (-1), 1, []), (.ireturn, 1, [0])] 0 _ _ h (by decide +kernel)).trans rfl
theorem en_176 (x0 : Nat) (h : am_H) : am_call am_ms 176 [am_R x0] h = am_run am_ms 176 0 [am_R x0, am_K 1, am_K 1] [] h := rfl
set_option maxHeartbeats 4000000 in
theorem bk_176_11 (x0 : Nat) (h : am_H) : am_run am_ms 176 11 [am_R x0, am_K 1, am_K 1] [] h = ((am_isc h x0 1).bind fun _ => ((am_cI 84 [am_R x0] h).bind fun r1 => (bif decide (¬ r1.1 = (-1)) then am_run am_ms 176 24 [am_R x0, am_I r1.1, am_K 1] [] r1.2 else some (some (am_I (-3)), r1.2)))) :=
  (am_xs_run am_ms 176 [(.aload_n 0, 1, []), (.invokevirtual 145, 3, [0, 84, 1, 1, 1, 3091, 3092, 3093]), (.istore_n 1, 1, []), (.iload_n 1, 1, []), (.iconst (-1), 1, []), (.if_icmp .ne 6, 3, []), (.bipush (-3), 2, []), (.ireturn, 1, [0])] 11 _ _ h (by decide +kernel)).trans rfl
set_option maxHeartbeats 4000000 in
theorem bk_176_24 (x0 : Nat) (x1 : Int) (h : am_H) : am_run am_ms 176 24 [am_R x0, am_I x1, am_K 1] [] h = ((am_isc h x0 1).bind fun _ => ((am_cI 85 [am_R x0, am_I x1] h).bind fun r1 => (bif decide (¬ r1.1 = 0) then am_run am_ms 176 35 [am_R x0, am_I x1, am_K 1] [] r1.2 else some (some (am_I (-4)), r1.2)))) :=
  (am_xs_run am_ms 176 [(.aload_n 0, 1, []), (.iload_n 1, 1, []), (.invokevirtual 149, 3, [0, 85, 2, 1, 1, 3121, 3122, 3123]), (.ifCond .ne 6, 3, []), (.bipush (-4), 2, []), (.ireturn, 1, [0])] 24 _ _ h (by decide +kernel)).trans rfl
set_option maxHeartbeats 4000000 in
theorem bk_176_35 (x0 : Nat) (x1 : Int) (h : am_H) : am_run am_ms 176 35 [am_R x0, am_I x1, am_K 1] [] h = ((am_isc h x0 1).bind fun _ => ((am_cI 99 [am_R x0, am_I x1, am_I 16] h).bind fun r1 => ((am_isc r1.2 x0 1).bind fun _ => ((am_cV 101 [am_R x0, am_I x1] r1.2).bind fun h2 => some (some (am_I r1.1), h2))))) :=
  (am_xs_run am_ms 176 [(.aload_n 0, 1, []), (.iload_n 1, 1, []), (.bipush 16, 2, []), (.invokevirtual 152, 3, [0, 99, 3, 1, 1, 3125, 3126, 3127]), (.istore_n 2, 1, []), (.aload_n 0, 1, []), (.iload_n 1, 1, []), (.invokevirtual 155, 3, [0, 101, 2, 1, 0, 3181, 3183, 24]), (.iload_n 2, 1, []), (.ireturn, 1, [0])] 35 _ _ h (by decide +kernel)).trans rfl
set_option maxHeartbeats 4000000 in
theorem bk_177_0 (x0 : Nat) (h : am_H) : am_run am_ms 177 0 [am_R x0] [] h = ((am_gfR h x0 8 9).bind fun f1 => ((am_gfR h x0 8 4).bind fun f2 => ((am_isc h f1 2).bind fun _ => ((am_cV 161 [am_R f1, am_R f2] h).bind fun h3 => ((am_gfR h3 x0 8 4).bind fun f4 => ((am_isc h3 f4 1).bind fun _ => ((am_cI 176 [am_R f4] h3).bind fun r5 => ((am_isc r5.2 x0 8).bind fun _ => ((am_cI 160 [am_R x0, am_I r5.1] r5.2).bind fun r6 => some (some (am_I r6.1), r6.2)))))))))) :=
  (am_xs_run am_ms 177 [(.aload_n 0, 1, []), (.getfield 56, 3, [8, 9, 2046, 3]), (.aload_n 0, 1, []), (.getfield 34, 3, [8, 4, 2041, 3]), (.invokevirtual 211, 3, [0, 161, 2, 2, 0, 4017, 4018, 4019]), (.aload_n 0, 1, []), (.aload_n 0, 1, []), (.getfield 34, 3, [8, 4, 2041, 3]), (.invokevirtual 214, 3, [0, 176, 1, 1, 1, 4031, 4032, 4033]), (.invokevirtual 208, 3, [0, 160, 2, 8, 1, 4005, 4007, 28]), (.ireturn, 1, [0])] 0 _ _ h (by decide +kernel)).trans rfl
theorem en_177 (x0 : Nat) (h : am_H) : am_call am_ms 177 [am_R x0] h = am_run am_ms 177 0 [am_R x0] [] h := rfl
set_option maxHeartbeats 4000000 in
theorem bk_178_0 (x0 : Nat) (h : am_H) : am_run am_ms 178 0 [am_R x0] [] h = ((am_isc h x0 9).bind fun _ => ((am_cI 172 [am_R x0, am_I 2, am_I 0, am_I 0] h).bind fun r1 => some (some (am_I r1.1), r1.2))) :=
  (am_xs_run am_ms 178 [(.aload_n 0, 1, []), (.iconst 2, 1, []), (.iconst 0, 1, []), (.iconst 0, 1, []), (.invokevirtual 329, 3, [0, 172, 4, 9, 1, 7026, 7028, 75]), (.ireturn, 1, [0])] 0 _ _ h (by decide +kernel)).trans rfl
theorem en_178 (x0 : Nat) (h : am_H) : am_call am_ms 178 [am_R x0] h = am_run am_ms 178 0 [am_R x0] [] h := rfl
set_option maxHeartbeats 4000000 in
theorem bk_179_0 (x0 : Nat) (h : am_H) : am_run am_ms 179 0 [am_R x0, am_K 1, am_K 1] [] h = ((am_gfR h x0 1 6).bind fun f1 => ((am_cV 62 [am_R f1, am_I (-1)] h).bind fun h2 => am_run am_ms 179 12 [am_R x0, am_I 0, am_I 0] [] h2)) :=
  (am_xs_run am_ms 179 [(.aload_n 0, 1, []), (.getfield 30, 3, [1, 6, 1161, 3]), (.iconst (-1), 1, []), (.invokestatic 74, 3, [1, 62, 2, 0, 0, 3027, 3028]), (.iconst 0, 1, []), (.istore_n 1, 1, []), (.iconst 0, 1, []), (.istore_n 2, 1, [])] 0 _ _ h (by decide +kernel)).trans rfl
theorem en_179 (x0 : Nat) (h : am_H) : am_call am_ms 179 [am_R x0] h = am_run am_ms 179 0 [am_R x0, am_K 1, am_K 1] [] h := rfl
set_option maxHeartbeats 4000000 in
theorem bk_179_12 (x0 : Nat) (x1 : Int) (x2 : Int) (h : am_H) : am_run am_ms 179 12 [am_R x0, am_I x1, am_I x2] [] h = ((am_gfR h x0 1 0).bind fun f1 => ((am_rd h f1 0 0).bind fun v2 => (bif decide (v2 ≤ x2) then am_run am_ms 179 54 [am_R x0, am_I x1, am_I x2] [] h else ((am_isc h x0 1).bind fun _ => ((am_cI 72 [am_R x0, am_I x1] h).bind fun r3 => (bif decide (r3.1 = 0) then am_run am_ms 179 48 [am_R x0, am_I x1, am_I x2] [] r3.2 else ((am_isc r3.2 x0 1).bind fun _ => ((am_cI 87 [am_R x0, am_I x2] r3.2).bind fun r4 => (bif decide (r4.1 = 0) then am_run am_ms 179 48 [am_R x0, am_I x1, am_I x2] [] r4.2 else am_run am_ms 179 38 [am_R x0, am_I x1, am_I x2] [] r4.2))))))))) :=
  (am_xs_run am_ms 179 [(.iload_n 2, 1, []), (.aload_n 0, 1, []), (.getfield 9, 3, [1, 0, 1146, 3]), (.iconst 0, 1, []), (.iaload, 1, []), (.if_icmp .ge 35, 3, []), (.aload_n 0, 1, []), (.iload_n 1, 1, []), (.invokevirtual 126, 3, [0, 72, 2, 1, 1, 3074, 3075, 3076]), (.ifCond .eq 21, 3, []), (.aload_n 0, 1, []), (.iload_n 2, 1, []), (.invokevirtual 187, 3, [0, 87, 2, 1, 1, 3145, 3146, 3147]), (.ifCond .eq 13, 3, [])] 12 _ _ h (by decide +kernel)).trans rfl
set_option maxHeartbeats 4000000 in
theorem bk_179_38 (x0 : Nat) (x1 : Int) (x2 : Int) (h : am_H) : am_run am_ms 179 38 [am_R x0, am_I x1, am_I x2] [] h = ((am_gfR h x0 1 6).bind fun f1 => ((am_wr h f1 0 x1 x2).bind fun h2 => am_run am_ms 179 48 [am_R x0, am_I (am_w (x1 + 1)), am_I x2] [] h2)) :=
  (am_xs_run am_ms 179 [(.aload_n 0, 1, []), (.getfield 30, 3, [1, 6, 1161, 3]), (.iload_n 1, 1, []), (.iload_n 2, 1, []), (.iastore, 1, []), (.iinc 1 1, 3, [])] 38 _ _ h (by decide +kernel)).trans rfl
set_option maxHeartbeats 4000000 in
theorem bk_179_48 (x0 : Nat) (x1 : Int) (x2 : Int) (h : am_H) : am_run am_ms 179 48 [am_R x0, am_I x1, am_I x2] [] h = am_run am_ms 179 12 [am_R x0, am_I x1, am_I (am_w (x2 + 1))] [] h :=
  (am_xs_run am_ms 179 [(.iinc 2 1, 3, []), (.goto (-39), 3, [])] 48 _ _ h (by decide +kernel)).trans rfl
set_option maxHeartbeats 4000000 in
theorem bk_179_54 (x0 : Nat) (x1 : Int) (x2 : Int) (h : am_H) : am_run am_ms 179 54 [am_R x0, am_I x1, am_I x2] [] h = some (none, h) :=
  (am_xs_run am_ms 179 [(.return_, 1, [])] 54 _ _ h (by decide +kernel)).trans rfl
set_option maxHeartbeats 4000000 in
theorem bk_180_0 (x0 : Nat) (h : am_H) : am_run am_ms 180 0 [am_R x0, am_K 1, am_K 1] [] h = am_run am_ms 180 4 [am_R x0, am_I 0, am_I 0] [] h :=
  (am_xs_run am_ms 180 [(.iconst 0, 1, []), (.istore_n 1, 1, []), (.iconst 0, 1, []), (.istore_n 2, 1, [])] 0 _ _ h (by decide +kernel)).trans rfl
theorem en_180 (x0 : Nat) (h : am_H) : am_call am_ms 180 [am_R x0] h = am_run am_ms 180 0 [am_R x0, am_K 1, am_K 1] [] h := rfl
set_option maxHeartbeats 4000000 in
theorem bk_180_4 (x0 : Nat) (x1 : Int) (x2 : Int) (h : am_H) : am_run am_ms 180 4 [am_R x0, am_I x1, am_I x2] [] h = (bif decide (32 ≤ x2) then am_run am_ms 180 26 [am_R x0, am_I x1, am_I x2] [] h else ((am_isc h x0 1).bind fun _ => ((am_cI 149 [am_R x0, am_I x2] h).bind fun r1 => am_run am_ms 180 4 [am_R x0, am_I (am_max x1 r1.1), am_I (am_w (x2 + 1))] [] r1.2))) :=
  (am_xs_run am_ms 180 [(.iload_n 2, 1, []), (.bipush 32, 2, []), (.if_icmp .ge 19, 3, []), (.iload_n 1, 1, []), (.aload_n 0, 1, []), (.iload_n 2, 1, []), (.invokevirtual 211, 3, [0, 149, 2, 1, 1, 4051, 3224, 3225]), (.invokestatic 106, 3, [12, 0, 2, 0, 1, 3120, 2149, 1014, 2150]), (.istore_n 1, 1, []), (.iinc 2 1, 3, []), (.goto (-19), 3, [])] 4 _ _ h (by decide +kernel)).trans rfl
set_option maxHeartbeats 4000000 in
theorem bk_180_26 (x0 : Nat) (x1 : Int) (x2 : Int) (h : am_H) : am_run am_ms 180 26 [am_R x0, am_I x1, am_I x2] [] h = some (some (am_I x1), h) :=
  (am_xs_run am_ms 180 [(.iload_n 1, 1, []), (.ireturn, 1, [0])] 26 _ _ h (by decide +kernel)).trans rfl
set_option maxHeartbeats 4000000 in
theorem bk_181_0 (x0 : Nat) (h : am_H) : am_run am_ms 181 0 [am_R x0, am_K 1, am_K 1] [] h = am_run am_ms 181 4 [am_R x0, am_I 0, am_I 0] [] h :=
  (am_xs_run am_ms 181 [(.iconst 0, 1, []), (.istore_n 1, 1, []), (.iconst 0, 1, []), (.istore_n 2, 1, [])] 0 _ _ h (by decide +kernel)).trans rfl
theorem en_181 (x0 : Nat) (h : am_H) : am_call am_ms 181 [am_R x0] h = am_run am_ms 181 0 [am_R x0, am_K 1, am_K 1] [] h := rfl
set_option maxHeartbeats 4000000 in
theorem bk_181_4 (x0 : Nat) (x1 : Int) (x2 : Int) (h : am_H) : am_run am_ms 181 4 [am_R x0, am_I x1, am_I x2] [] h = (bif decide (32 ≤ x2) then am_run am_ms 181 28 [am_R x0, am_I x1, am_I x2] [] h else ((am_isc h x0 1).bind fun _ => ((am_cI 70 [am_R x0, am_I x2] h).bind fun r1 => (bif decide (r1.1 = (-1)) then am_run am_ms 181 22 [am_R x0, am_I x1, am_I x2] [] r1.2 else am_run am_ms 181 22 [am_R x0, am_I (am_w (x1 + 1)), am_I x2] [] r1.2)))) :=
  (am_xs_run am_ms 181 [(.iload_n 2, 1, []), (.bipush 32, 2, []), (.if_icmp .ge 21, 3, []), (.aload_n 0, 1, []), (.iload_n 2, 1, []), (.invokevirtual 93, 3, [0, 70, 2, 1, 1, 3058, 3059, 3060]), (.iconst (-1), 1, []), (.if_icmp .eq 6, 3, []), (.iinc 1 1, 3, [])] 4 _ _ h (by decide +kernel)).trans rfl
set_option maxHeartbeats 4000000 in
theorem bk_181_22 (x0 : Nat) (x1 : Int) (x2 : Int) (h : am_H) : am_run am_ms 181 22 [am_R x0, am_I x1, am_I x2] [] h = am_run am_ms 181 4 [am_R x0, am_I x1, am_I (am_w (x2 + 1))] [] h :=
  (am_xs_run am_ms 181 [(.iinc 2 1, 3, []), (.goto (-21), 3, [])] 22 _ _ h (by decide +kernel)).trans rfl
set_option maxHeartbeats 4000000 in
theorem bk_181_28 (x0 : Nat) (x1 : Int) (x2 : Int) (h : am_H) : am_run am_ms 181 28 [am_R x0, am_I x1, am_I x2] [] h = some (some (am_I x1), h) :=
  (am_xs_run am_ms 181 [(.iload_n 1, 1, []), (.ireturn, 1, [0])] 28 _ _ h (by decide +kernel)).trans rfl
set_option maxHeartbeats 4000000 in
theorem bk_182_0 (x0 : Nat) (h : am_H) : am_run am_ms 182 0 [am_R x0, am_K 1] [] h = ((am_gfR h x0 1 0).bind fun f1 => ((am_rd h f1 0 0).bind fun v2 => (bif decide (¬ v2 = 0) then am_run am_ms 182 11 [am_R x0, am_K 1] [] h else some (some (am_I (-1)), h)))) :=
  (am_xs_run am_ms 182 [(.aload_n 0, 1, []), (.getfield 9, 3, [1, 0, 1146, 3]), (.iconst 0, 1, []), (.iaload, 1, []), (.ifCond .ne 5, 3, []), (.iconst (-1), 1, []), (.ireturn, 1, [0])] 0 _ _ h (by decide +kernel)).trans rfl
theorem en_182 (x0 : Nat) (h : am_H) : am_call am_ms 182 [am_R x0] h = am_run am_ms 182 0 [am_R x0, am_K 1] [] h := rfl
set_option maxHeartbeats 4000000 in
theorem bk_182_11 (x0 : Nat) (h : am_H) : am_run am_ms 182 11 [am_R x0, am_K 1] [] h = am_run am_ms 182 13 [am_R x0, am_I 0] [] h :=
  (am_xs_run am_ms 182 [(.iconst 0, 1, []), (.istore_n 1, 1, [])] 11 _ _ h (by decide +kernel)).trans rfl
set_option maxHeartbeats 4000000 in
theorem bk_182_13 (x0 : Nat) (x1 : Int) (h : am_H) : am_run am_ms 182 13 [am_R x0, am_I x1] [] h = ((am_gfR h x0 1 0).bind fun f1 => ((am_rd h f1 0 0).bind fun v2 => (bif decide (v2 ≤ x1) then am_run am_ms 182 50 [am_R x0, am_I x1] [] h else ((am_gfR h x0 1 2).bind fun f3 => ((am_rd h f3 0 x1).bind fun v4 => (bif decide (¬ v4 = 1) then am_run am_ms 182 44 [am_R x0, am_I x1] [] h else ((am_gfR h x0 1 2).bind fun f5 => am_run am_ms 182 37 [am_R x0, am_I x1] [am_R f5] h))))))) :=
  (am_xs_run am_ms 182 [(.iload_n 1, 1, []), (.aload_n 0, 1, []), (.getfield 9, 3, [1, 0, 1146, 3]), (.iconst 0, 1, []), (.iaload, 1, []), (.if_icmp .ge 30, 3, []), (.aload_n 0, 1, []), (.getfield 18, 3, [1, 2, 1152, 3]), (.iload_n 1, 1, []), (.iaload, 1, []), (.iconst 1, 1, []), (.if_icmp .ne 14, 3, []), (.aload_n 0, 1, []), (.getfield 18, 3, [1, 2, 1152, 3])] 13 _ _ h (by decide +kernel)).trans rfl
set_option maxHeartbeats 4000000 in
theorem bk_182_37 (x0 : Nat) (x1 : Int) (y0 : Nat) (h : am_H) : am_run am_ms 182 37 [am_R x0, am_I x1] [am_R y0] h = ((am_isc h x0 1).bind fun _ => ((am_cI 95 [am_R x0, am_I x1] h).bind fun r1 => ((am_wr r1.2 y0 0 x1 r1.1).bind fun h2 => am_run am_ms 182 44 [am_R x0, am_I x1] [] h2))) :=
  (am_xs_run am_ms 182 [(.iload_n 1, 1, []), (.aload_n 0, 1, []), (.iload_n 1, 1, []), (.invokevirtual 199, 3, [0, 95, 2, 1, 1, 3177, 3179, 23]), (.iastore, 1, [])] 37 _ _ h (by decide +kernel)).trans rfl
set_option maxHeartbeats 4000000 in
theorem bk_182_44 (x0 : Nat) (x1 : Int) (h : am_H) : am_run am_ms 182 44 [am_R x0, am_I x1] [] h = am_run am_ms 182 13 [am_R x0, am_I (am_w (x1 + 1))] [] h :=
  (am_xs_run am_ms 182 [(.iinc 1 1, 3, []), (.goto (-34), 3, [])] 44 _ _ h (by decide +kernel)).trans rfl
set_option maxHeartbeats 4000000 in
theorem bk_182_50 (x0 : Nat) (x1 : Int) (h : am_H) : am_run am_ms 182 50 [am_R x0, am_I x1] [] h = ((am_isc h x0 1).bind fun _ => ((am_cV 179 [am_R x0] h).bind fun h1 => ((am_gfR h1 x0 1 1).bind fun f2 => ((am_isc h1 x0 1).bind fun _ => ((am_cI 180 [am_R x0] h1).bind fun r3 => ((am_wr r3.2 f2 0 4 r3.1).bind fun h4 => ((am_gfR h4 x0 1 1).bind fun f5 => ((am_rd h4 f5 0 3).bind fun v6 => am_run am_ms 182 72 [am_R x0, am_I x1] [am_I 1, am_I v6, am_I 3, am_R f5] h4)))))))) :=
  (am_xs_run am_ms 182 [(.aload_n 0, 1, []), (.invokevirtual 202, 3, [0, 179, 1, 1, 0, 4043, 4045, 30]), (.aload_n 0, 1, []), (.getfield 15, 3, [1, 1, 1150, 3]), (.iconst 4, 1, []), (.aload_n 0, 1, []), (.invokevirtual 205, 3, [0, 180, 1, 1, 1, 4047, 4049, 31]), (.iastore, 1, []), (.aload_n 0, 1, []), (.getfield 15, 3, [1, 1, 1150, 3]), (.iconst 3, 1, []), (.dup2, 1, []), (.iaload, 1, []), (.iconst 1, 1, [])] 50 _ _ h (by decide +kernel)).trans rfl
set_option maxHeartbeats 4000000 in
theorem bk_182_72 (x0 : Nat) (x1 : Int) (y0 : Int) (y1 : Int) (y2 : Int) (y3 : Nat) (h : am_H) : am_run am_ms 182 72 [am_R x0, am_I x1] [am_I y0, am_I y1, am_I y2, am_R y3] h = ((am_wr h y3 0 y2 (am_w (y1 + y0))).bind fun h1 => ((am_isc h1 x0 1).bind fun _ => ((am_cI 181 [am_R x0] h1).bind fun r2 => ((am_gfR r2.2 x0 1 13).bind fun f3 => ((am_isc r2.2 f3 3).bind fun _ => ((am_cV 90 [am_R f3, am_I 6, am_I (-1), am_I r2.1] r2.2).bind fun h4 => some (some (am_I r2.1), h4))))))) :=
  (am_xs_run am_ms 182 [(.iadd, 1, []), (.iastore, 1, []), (.aload_n 0, 1, []), (.invokevirtual 208, 3, [0, 181, 1, 1, 1, 4052, 4053, 4054]), (.istore_n 1, 1, []), (.aload_n 0, 1, []), (.getfield 54, 3, [1, 13, 1178, 3]), (.bipush 6, 2, []), (.iconst (-1), 1, []), (.iload_n 1, 1, []), (.invokevirtual 171, 3, [0, 90, 4, 3, 0, 3157, 3158, 3159]), (.iload_n 1, 1, []), (.ireturn, 1, [0])] 72 _ _ h (by decide +kernel)).trans rfl
set_option maxHeartbeats 4000000 in
theorem bk_183_0 (x0 : Nat) (h : am_H) : am_run am_ms 183 0 [am_R x0] [] h = ((am_gfR h x0 8 9).bind fun f1 => ((am_gfR h x0 8 4).bind fun f2 => ((am_isc h f1 2).bind fun _ => ((am_cV 161 [am_R f1, am_R f2] h).bind fun h3 => ((am_gfR h3 x0 8 4).bind fun f4 => ((am_isc h3 f4 1).bind fun _ => ((am_cI 182 [am_R f4] h3).bind fun r5 => ((am_isc r5.2 x0 8).bind fun _ => ((am_cI 160 [am_R x0, am_I r5.1] r5.2).bind fun r6 => some (some (am_I r6.1), r6.2)))))))))) :=
  (am_xs_run am_ms 183 [(.aload_n 0, 1, []), (.getfield 56, 3, [8, 9, 2046, 3]), (.aload_n 0, 1, []), (.getfield 34, 3, [8, 4, 2041, 3]), (.invokevirtual 211, 3, [0, 161, 2, 2, 0, 4017, 4018, 4019]), (.aload_n 0, 1, []), (.aload_n 0, 1, []), (.getfield 34, 3, [8, 4, 2041, 3]), (.invokevirtual 217, 3, [0, 182, 1, 1, 1, 4039, 4040, 4041]), (.invokevirtual 208, 3, [0, 160, 2, 8, 1, 4005, 4007, 28]), (.ireturn, 1, [0])] 0 _ _ h (by decide +kernel)).trans rfl
theorem en_183 (x0 : Nat) (h : am_H) : am_call am_ms 183 [am_R x0] h = am_run am_ms 183 0 [am_R x0] [] h := rfl
set_option maxHeartbeats 4000000 in
theorem bk_184_0 (x0 : Nat) (h : am_H) : am_run am_ms 184 0 [am_R x0] [] h = ((am_isc h x0 9).bind fun _ => ((am_cI 172 [am_R x0, am_I 3, am_I 0, am_I 0] h).bind fun r1 => some (some (am_I r1.1), r1.2))) :=
  (am_xs_run am_ms 184 [(.aload_n 0, 1, []), (.iconst 3, 1, []), (.iconst 0, 1, []), (.iconst 0, 1, []), (.invokevirtual 329, 3, [0, 172, 4, 9, 1, 7026, 7028, 75]), (.ireturn, 1, [0])] 0 _ _ h (by decide +kernel)).trans rfl
theorem en_184 (x0 : Nat) (h : am_H) : am_call am_ms 184 [am_R x0] h = am_run am_ms 184 0 [am_R x0] [] h := rfl
set_option maxHeartbeats 4000000 in
theorem bk_185_0 (x0 : Nat) (x1 : Int) (h : am_H) : am_run am_ms 185 0 [am_R x0, am_I x1] [] h = ((am_isc h x0 1).bind fun _ => ((am_cI 64 [am_R x0, am_I x1] h).bind fun r1 => (bif decide (¬ r1.1 = 0) then am_run am_ms 185 10 [am_R x0, am_I x1] [] r1.2 else some (some (am_I (-1)), r1.2)))) :=
  (am_xs_run am_ms 185 [(.aload_n 0, 1, []), (.iload_n 1, 1, []), (.invokevirtual 86, 3, [0, 64, 2, 1, 1, 3042, 3043, 3044]), (.ifCond .ne 5, 3, []), (.iconst (-1), 1, []), (.ireturn, 1, [0])] 0 _ _ h (by decide +kernel)).trans rfl
theorem en_185 (x0 : Nat) (x1 : Int) (h : am_H) : am_call am_ms 185 [am_R x0, am_I x1] h = am_run am_ms 185 0 [am_R x0, am_I x1] [] h := rfl
set_option maxHeartbeats 4000000 in
theorem bk_185_10 (x0 : Nat) (x1 : Int) (h : am_H) : am_run am_ms 185 10 [am_R x0, am_I x1] [] h = ((am_gfR h x0 1 2).bind fun f1 => ((am_rd h f1 0 x1).bind fun v2 => (bif decide (v2 = 1) then am_run am_ms 185 30 [am_R x0, am_I x1] [] h else ((am_gfR h x0 1 2).bind fun f3 => ((am_rd h f3 0 x1).bind fun v4 => (bif decide (¬ v4 = 3) then am_run am_ms 185 33 [am_R x0, am_I x1] [] h else am_run am_ms 185 30 [am_R x0, am_I x1] [] h)))))) :=
  (am_xs_run am_ms 185 [(.aload_n 0, 1, []), (.getfield 18, 3, [1, 2, 1152, 3]), (.iload_n 1, 1, []), (.iaload, 1, []), (.iconst 1, 1, []), (.if_icmp .eq 13, 3, []), (.aload_n 0, 1, []), (.getfield 18, 3, [1, 2, 1152, 3]), (.iload_n 1, 1, []), (.iaload, 1, []), (.iconst 3, 1, []), (.if_icmp .ne 6, 3, [])] 10 _ _ h (by decide +kernel)).trans rfl
set_option maxHeartbeats 4000000 in
theorem bk_185_30 (x0 : Nat) (x1 : Int) (h : am_H) : am_run am_ms 185 30 [am_R x0, am_I x1] [] h = some (some (am_I (-3)), h) :=
  (am_xs_run am_ms 185 [(.bipush (-3), 2, []), (.ireturn, 1, [0])] 30 _ _ h (by decide +kernel)).trans rfl
set_option maxHeartbeats 4000000 in
theorem bk_185_33 (x0 : Nat) (x1 : Int) (h : am_H) : am_run am_ms 185 33 [am_R x0, am_I x1] [] h = ((am_isc h x0 1).bind fun _ => ((am_cI 74 [am_R x0, am_I 1] h).bind fun r1 => ((am_gfR r1.2 x0 1 0).bind fun f2 => ((am_rd r1.2 f2 0 2).bind fun v3 => (bif decide (r1.1 < v3) then am_run am_ms 185 50 [am_R x0, am_I x1] [] r1.2 else some (some (am_I (-4)), r1.2)))))) :=
  (am_xs_run am_ms 185 [(.aload_n 0, 1, []), (.iconst 1, 1, []), (.invokevirtual 97, 3, [0, 74, 2, 1, 1, 3078, 3079, 3080]), (.aload_n 0, 1, []), (.getfield 9, 3, [1, 0, 1146, 3]), (.iconst 2, 1, []), (.iaload, 1, []), (.if_icmp .lt 6, 3, []), (.bipush (-4), 2, []), (.ireturn, 1, [0])] 33 _ _ h (by decide +kernel)).trans rfl
set_option maxHeartbeats 4000000 in
theorem bk_185_50 (x0 : Nat) (x1 : Int) (h : am_H) : am_run am_ms 185 50 [am_R x0, am_I x1] [] h = ((am_gfR h x0 1 2).bind fun f1 => ((am_rd h f1 0 x1).bind fun v2 => (bif decide (¬ v2 = 0) then am_run am_ms 185 75 [am_R x0, am_I x1] [] h else ((am_isc h x0 1).bind fun _ => ((am_cI 86 [am_R x0] h).bind fun r3 => ((am_gfR r3.2 x0 1 0).bind fun f4 => ((am_rd r3.2 f4 0 3).bind fun v5 => (bif decide (r3.1 < v5) then am_run am_ms 185 75 [am_R x0, am_I x1] [] r3.2 else some (some (am_I (-4)), r3.2))))))))) :=
  (am_xs_run am_ms 185 [(.aload_n 0, 1, []), (.getfield 18, 3, [1, 2, 1152, 3]), (.iload_n 1, 1, []), (.iaload, 1, []), (.ifCond .ne 19, 3, []), (.aload_n 0, 1, []), (.invokevirtual 175, 3, [0, 86, 1, 1, 1, 3137, 3138, 3139]), (.aload_n 0, 1, []), (.getfield 9, 3, [1, 0, 1146, 3]), (.iconst 3, 1, []), (.iaload, 1, []), (.if_icmp .lt 6, 3, []), (.bipush (-4), 2, []), (.ireturn, 1, [0])] 50 _ _ h (by decide +kernel)).trans rfl
set_option maxHeartbeats 4000000 in
theorem bk_185_75 (x0 : Nat) (x1 : Int) (h : am_H) : am_run am_ms 185 75 [am_R x0, am_I x1] [] h = ((am_gfR h x0 1 2).bind fun f1 => ((am_wr h f1 0 x1 1).bind fun h2 => ((am_gfR h2 x0 1 5).bind fun f3 => ((am_wr h2 f3 0 x1 0).bind fun h4 => ((am_gfR h4 x0 1 13).bind fun f5 => am_run am_ms 185 95 [am_R x0, am_I x1] [am_I x1, am_I 4, am_R f5] h4))))) :=
  (am_xs_run am_ms 185 [(.aload_n 0, 1, []), (.getfield 18, 3, [1, 2, 1152, 3]), (.iload_n 1, 1, []), (.iconst 1, 1, []), (.iastore, 1, []), (.aload_n 0, 1, []), (.getfield 27, 3, [1, 5, 1160, 3]), (.iload_n 1, 1, []), (.iconst 0, 1, []), (.iastore, 1, []), (.aload_n 0, 1, []), (.getfield 54, 3, [1, 13, 1178, 3]), (.iconst 4, 1, []), (.iload_n 1, 1, [])] 75 _ _ h (by decide +kernel)).trans rfl
set_option maxHeartbeats 4000000 in
theorem bk_185_95 (x0 : Nat) (x1 : Int) (y0 : Int) (y1 : Int) (y2 : Nat) (h : am_H) : am_run am_ms 185 95 [am_R x0, am_I x1] [am_I y0, am_I y1, am_R y2] h = ((am_isc h y2 3).bind fun _ => ((am_cV 90 [am_R y2, am_I y1, am_I y0, am_I 0] h).bind fun h1 => ((am_isc h1 x0 1).bind fun _ => ((am_cI 74 [am_R x0, am_I 1] h1).bind fun r2 => some (some (am_I r2.1), r2.2))))) :=
  (am_xs_run am_ms 185 [(.iconst 0, 1, []), (.invokevirtual 171, 3, [0, 90, 4, 3, 0, 3157, 3158, 3159]), (.aload_n 0, 1, []), (.iconst 1, 1, []), (.invokevirtual 97, 3, [0, 74, 2, 1, 1, 3078, 3079, 3080]), (.ireturn, 1, [0])] 95 _ _ h (by decide +kernel)).trans rfl
set_option maxHeartbeats 4000000 in
theorem bk_186_0 (x0 : Nat) (x1 : Int) (h : am_H) : am_run am_ms 186 0 [am_R x0, am_I x1] [] h = ((am_gfR h x0 8 9).bind fun f1 => ((am_gfR h x0 8 4).bind fun f2 => ((am_isc h f1 2).bind fun _ => ((am_cV 161 [am_R f1, am_R f2] h).bind fun h3 => ((am_gfR h3 x0 8 4).bind fun f4 => ((am_isc h3 f4 1).bind fun _ => ((am_cI 185 [am_R f4, am_I x1] h3).bind fun r5 => ((am_isc r5.2 x0 8).bind fun _ => ((am_cI 160 [am_R x0, am_I r5.1] r5.2).bind fun r6 => some (some (am_I r6.1), r6.2)))))))))) :=
  (am_xs_run am_ms 186 [(.aload_n 0, 1, []), (.getfield 56, 3, [8, 9, 2046, 3]), (.aload_n 0, 1, []), (.getfield 34, 3, [8, 4, 2041, 3]), (.invokevirtual 211, 3, [0, 161, 2, 2, 0, 4017, 4018, 4019]), (.aload_n 0, 1, []), (.aload_n 0, 1, []), (.getfield 34, 3, [8, 4, 2041, 3]), (.iload_n 1, 1, []), (.invokevirtual 220, 3, [0, 185, 2, 1, 1, 4060, 4061, 4062]), (.invokevirtual 208, 3, [0, 160, 2, 8, 1, 4005, 4007, 28]), (.ireturn, 1, [0])] 0 _ _ h (by decide +kernel)).trans rfl
theorem en_186 (x0 : Nat) (x1 : Int) (h : am_H) : am_call am_ms 186 [am_R x0, am_I x1] h = am_run am_ms 186 0 [am_R x0, am_I x1] [] h := rfl
set_option maxHeartbeats 4000000 in
theorem bk_187_0 (x0 : Nat) (x1 : Int) (h : am_H) : am_run am_ms 187 0 [am_R x0, am_I x1] [] h = ((am_isc h x0 9).bind fun _ => ((am_cI 172 [am_R x0, am_I 4, am_I x1, am_I 0] h).bind fun r1 => some (some (am_I r1.1), r1.2))) :=
  (am_xs_run am_ms 187 [(.aload_n 0, 1, []), (.iconst 4, 1, []), (.iload_n 1, 1, []), (.iconst 0, 1, []), (.invokevirtual 329, 3, [0, 172, 4, 9, 1, 7026, 7028, 75]), (.ireturn, 1, [0])] 0 _ _ h (by decide +kernel)).trans rfl
theorem en_187 (x0 : Nat) (x1 : Int) (h : am_H) : am_call am_ms 187 [am_R x0, am_I x1] h = am_run am_ms 187 0 [am_R x0, am_I x1] [] h := rfl
set_option maxHeartbeats 4000000 in
theorem bk_188_0 (x0 : Nat) (x1 : Int) (h : am_H) : am_run am_ms 188 0 [am_R x0, am_I x1] [] h = ((am_isc h x0 1).bind fun _ => ((am_cI 64 [am_R x0, am_I x1] h).bind fun r1 => (bif decide (¬ r1.1 = 0) then am_run am_ms 188 10 [am_R x0, am_I x1] [] r1.2 else some (some (am_I (-1)), r1.2)))) :=
  (am_xs_run am_ms 188 [(.aload_n 0, 1, []), (.iload_n 1, 1, []), (.invokevirtual 86, 3, [0, 64, 2, 1, 1, 3042, 3043, 3044]), (.ifCond .ne 5, 3, []), (.iconst (-1), 1, []), (.ireturn, 1, [0])] 0 _ _ h (by decide +kernel)).trans rfl
theorem en_188 (x0 : Nat) (x1 : Int) (h : am_H) : am_call am_ms 188 [am_R x0, am_I x1] h = am_run am_ms 188 0 [am_R x0, am_I x1] [] h := rfl
set_option maxHeartbeats 4000000 in
theorem bk_188_10 (x0 : Nat) (x1 : Int) (h : am_H) : am_run am_ms 188 10 [am_R x0, am_I x1] [] h = ((am_gfR h x0 1 2).bind fun f1 => ((am_rd h f1 0 x1).bind fun v2 => (bif decide (v2 = 1) then am_run am_ms 188 23 [am_R x0, am_I x1] [] h else some (some (am_I (-3)), h)))) :=
  (am_xs_run am_ms 188 [(.aload_n 0, 1, []), (.getfield 18, 3, [1, 2, 1152, 3]), (.iload_n 1, 1, []), (.iaload, 1, []), (.iconst 1, 1, []), (.if_icmp .eq 6, 3, []), (.bipush (-3), 2, []), (.ireturn, 1, [0])] 10 _ _ h (by decide +kernel)).trans rfl
set_option maxHeartbeats 4000000 in
theorem bk_188_23 (x0 : Nat) (x1 : Int) (h : am_H) : am_run am_ms 188 23 [am_R x0, am_I x1] [] h = ((am_isc h x0 1).bind fun _ => ((am_cV 96 [am_R x0, am_I x1] h).bind fun h1 => ((am_isc h1 x0 1).bind fun _ => ((am_cI 74 [am_R x0, am_I 1] h1).bind fun r2 => some (some (am_I r2.1), r2.2))))) :=
  (am_xs_run am_ms 188 [(.aload_n 0, 1, []), (.iload_n 1, 1, []), (.invokevirtual 196, 3, [0, 96, 2, 1, 0, 3173, 3175, 22]), (.aload_n 0, 1, []), (.iconst 1, 1, []), (.invokevirtual 97, 3, [0, 74, 2, 1, 1, 3078, 3079, 3080]), (.ireturn, 1, [0])] 23 _ _ h (by decide +kernel)).trans rfl
set_option maxHeartbeats 4000000 in
theorem bk_189_0 (x0 : Nat) (x1 : Int) (h : am_H) : am_run am_ms 189 0 [am_R x0, am_I x1] [] h = ((am_gfR h x0 8 9).bind fun f1 => ((am_gfR h x0 8 4).bind fun f2 => ((am_isc h f1 2).bind fun _ => ((am_cV 161 [am_R f1, am_R f2] h).bind fun h3 => ((am_gfR h3 x0 8 4).bind fun f4 => ((am_isc h3 f4 1).bind fun _ => ((am_cI 188 [am_R f4, am_I x1] h3).bind fun r5 => ((am_isc r5.2 x0 8).bind fun _ => ((am_cI 160 [am_R x0, am_I r5.1] r5.2).bind fun r6 => some (some (am_I r6.1), r6.2)))))))))) :=
  (am_xs_run am_ms 189 [(.aload_n 0, 1, []), (.getfield 56, 3, [8, 9, 2046, 3]), (.aload_n 0, 1, []), (.getfield 34, 3, [8, 4, 2041, 3]), (.invokevirtual 211, 3, [0, 161, 2, 2, 0, 4017, 4018, 4019]), (.aload_n 0, 1, []), (.aload_n 0, 1, []), (.getfield 34, 3, [8, 4, 2041, 3]), (.iload_n 1, 1, []), (.invokevirtual 223, 3, [0, 188, 2, 1, 1, 4068, 4069, 4070]), (.invokevirtual 208, 3, [0, 160, 2, 8, 1, 4005, 4007, 28]), (.ireturn, 1, [0])] 0 _ _ h (by decide +kernel)).trans rfl
theorem en_189 (x0 : Nat) (x1 : Int) (h : am_H) : am_call am_ms 189 [am_R x0, am_I x1] h = am_run am_ms 189 0 [am_R x0, am_I x1] [] h := rfl
set_option maxHeartbeats 4000000 in
theorem bk_190_0 (x0 : Nat) (x1 : Int) (h : am_H) : am_run am_ms 190 0 [am_R x0, am_I x1] [] h = ((am_isc h x0 9).bind fun _ => ((am_cI 172 [am_R x0, am_I 5, am_I x1, am_I 0] h).bind fun r1 => some (some (am_I r1.1), r1.2))) :=
  (am_xs_run am_ms 190 [(.aload_n 0, 1, []), (.iconst 5, 1, []), (.iload_n 1, 1, []), (.iconst 0, 1, []), (.invokevirtual 329, 3, [0, 172, 4, 9, 1, 7026, 7028, 75]), (.ireturn, 1, [0])] 0 _ _ h (by decide +kernel)).trans rfl
theorem en_190 (x0 : Nat) (x1 : Int) (h : am_H) : am_call am_ms 190 [am_R x0, am_I x1] h = am_run am_ms 190 0 [am_R x0, am_I x1] [] h := rfl
set_option maxHeartbeats 4000000 in
theorem bk_191_0 (x0 : Nat) (x1 : Int) (h : am_H) : am_run am_ms 191 0 [am_R x0, am_I x1] [] h = ((am_isc h x0 1).bind fun _ => ((am_cI 64 [am_R x0, am_I x1] h).bind fun r1 => (bif decide (¬ r1.1 = 0) then am_run am_ms 191 10 [am_R x0, am_I x1] [] r1.2 else some (some (am_I (-1)), r1.2)))) :=
  (am_xs_run am_ms 191 [(.aload_n 0, 1, []), (.iload_n 1, 1, []), (.invokevirtual 86, 3, [0, 64, 2, 1, 1, 3042, 3043, 3044]), (.ifCond .ne 5, 3, []), (.iconst (-1), 1, []), (.ireturn, 1, [0])] 0 _ _ h (by decide +kernel)).trans rfl
theorem en_191 (x0 : Nat) (x1 : Int) (h : am_H) : am_call am_ms 191 [am_R x0, am_I x1] h = am_run am_ms 191 0 [am_R x0, am_I x1] [] h := rfl
set_option maxHeartbeats 4000000 in
theorem bk_191_10 (x0 : Nat) (x1 : Int) (h : am_H) : am_run am_ms 191 10 [am_R x0, am_I x1] [] h = ((am_isc h x0 1).bind fun _ => ((am_cI 87 [am_R x0, am_I x1] h).bind fun r1 => (bif decide (¬ r1.1 = 0) then am_run am_ms 191 21 [am_R x0, am_I x1] [] r1.2 else some (some (am_I (-3)), r1.2)))) :=
  (am_xs_run am_ms 191 [(.aload_n 0, 1, []), (.iload_n 1, 1, []), (.invokevirtual 187, 3, [0, 87, 2, 1, 1, 3145, 3146, 3147]), (.ifCond .ne 6, 3, []), (.bipush (-3), 2, []), (.ireturn, 1, [0])] 10 _ _ h (by decide +kernel)).trans rfl
set_option maxHeartbeats 4000000 in
theorem bk_191_21 (x0 : Nat) (x1 : Int) (h : am_H) : am_run am_ms 191 21 [am_R x0, am_I x1] [] h = ((am_isc h x0 1).bind fun _ => ((am_cV 91 [am_R x0, am_I x1] h).bind fun h1 => ((am_gfR h1 x0 1 3).bind fun f2 => ((am_rd h1 f2 0 x1).bind fun v3 => some (some (am_I v3), h1))))) :=
  (am_xs_run am_ms 191 [(.aload_n 0, 1, []), (.iload_n 1, 1, []), (.invokevirtual 181, 3, [0, 91, 2, 1, 0, 3153, 3155, 18]), (.aload_n 0, 1, []), (.getfield 21, 3, [1, 3, 1155, 3]), (.iload_n 1, 1, []), (.iaload, 1, []), (.ireturn, 1, [0])] 21 _ _ h (by decide +kernel)).trans rfl
set_option maxHeartbeats 4000000 in
theorem bk_192_0 (x0 : Nat) (x1 : Int) (h : am_H) : am_run am_ms 192 0 [am_R x0, am_I x1] [] h = ((am_gfR h x0 8 9).bind fun f1 => ((am_gfR h x0 8 4).bind fun f2 => ((am_isc h f1 2).bind fun _ => ((am_cV 161 [am_R f1, am_R f2] h).bind fun h3 => ((am_gfR h3 x0 8 4).bind fun f4 => ((am_isc h3 f4 1).bind fun _ => ((am_cI 191 [am_R f4, am_I x1] h3).bind fun r5 => ((am_isc r5.2 x0 8).bind fun _ => ((am_cI 160 [am_R x0, am_I r5.1] r5.2).bind fun r6 => some (some (am_I r6.1), r6.2)))))))))) :=
  (am_xs_run am_ms 192 [(.aload_n 0, 1, []), (.getfield 56, 3, [8, 9, 2046, 3]), (.aload_n 0, 1, []), (.getfield 34, 3, [8, 4, 2041, 3]), (.invokevirtual 211, 3, [0, 161, 2, 2, 0, 4017, 4018, 4019]), (.aload_n 0, 1, []), (.aload_n 0, 1, []), (.getfield 34, 3, [8, 4, 2041, 3]), (.iload_n 1, 1, []), (.invokevirtual 226, 3, [0, 191, 2, 1, 1, 4076, 4077, 4078]), (.invokevirtual 208, 3, [0, 160, 2, 8, 1, 4005, 4007, 28]), (.ireturn, 1, [0])] 0 _ _ h (by decide +kernel)).trans rfl
theorem en_192 (x0 : Nat) (x1 : Int) (h : am_H) : am_call am_ms 192 [am_R x0, am_I x1] h = am_run am_ms 192 0 [am_R x0, am_I x1] [] h := rfl
set_option maxHeartbeats 4000000 in
theorem bk_193_0 (x0 : Nat) (x1 : Int) (h : am_H) : am_run am_ms 193 0 [am_R x0, am_I x1] [] h = ((am_isc h x0 9).bind fun _ => ((am_cI 172 [am_R x0, am_I 6, am_I x1, am_I 0] h).bind fun r1 => some (some (am_I r1.1), r1.2))) :=
  (am_xs_run am_ms 193 [(.aload_n 0, 1, []), (.bipush 6, 2, []), (.iload_n 1, 1, []), (.iconst 0, 1, []), (.invokevirtual 329, 3, [0, 172, 4, 9, 1, 7026, 7028, 75]), (.ireturn, 1, [0])] 0 _ _ h (by decide +kernel)).trans rfl
theorem en_193 (x0 : Nat) (x1 : Int) (h : am_H) : am_call am_ms 193 [am_R x0, am_I x1] h = am_run am_ms 193 0 [am_R x0, am_I x1] [] h := rfl
set_option maxHeartbeats 4000000 in
theorem bk_194_0 (x0 : Nat) (x1 : Int) (h : am_H) : am_run am_ms 194 0 [am_R x0, am_I x1] [] h = ((am_isc h x0 1).bind fun _ => ((am_cI 64 [am_R x0, am_I x1] h).bind fun r1 => (bif decide (¬ r1.1 = 0) then am_run am_ms 194 10 [am_R x0, am_I x1] [] r1.2 else some (some (am_I (-1)), r1.2)))) :=
  (am_xs_run am_ms 194 [(.aload_n 0, 1, []), (.iload_n 1, 1, []), (.invokevirtual 86, 3, [0, 64, 2, 1, 1, 3042, 3043, 3044]), (.ifCond .ne 5, 3, []), (.iconst (-1), 1, []), (.ireturn, 1, [0])] 0 _ _ h (by decide +kernel)).trans rfl
theorem en_194 (x0 : Nat) (x1 : Int) (h : am_H) : am_call am_ms 194 [am_R x0, am_I x1] h = am_run am_ms 194 0 [am_R x0, am_I x1] [] h := rfl
set_option maxHeartbeats 4000000 in
theorem bk_194_10 (x0 : Nat) (x1 : Int) (h : am_H) : am_run am_ms 194 10 [am_R x0, am_I x1] [] h = ((am_gfR h x0 1 2).bind fun f1 => ((am_rd h f1 0 x1).bind fun v2 => (bif decide (¬ v2 = 0) then am_run am_ms 194 22 [am_R x0, am_I x1] [] h else some (some (am_I (-3)), h)))) :=
  (am_xs_run am_ms 194 [(.aload_n 0, 1, []), (.getfield 18, 3, [1, 2, 1152, 3]), (.iload_n 1, 1, []), (.iaload, 1, []), (.ifCond .ne 6, 3, []), (.bipush (-3), 2, []), (.ireturn, 1, [0])] 10 _ _ h (by decide +kernel)).trans rfl
set_option maxHeartbeats 4000000 in
theorem bk_194_22 (x0 : Nat) (x1 : Int) (h : am_H) : am_run am_ms 194 22 [am_R x0, am_I x1] [] h = ((am_isc h x0 1).bind fun _ => ((am_cI 79 [am_R x0, am_I x1] h).bind fun r1 => (bif decide (r1.1 ≤ 0) then am_run am_ms 194 33 [am_R x0, am_I x1] [] r1.2 else some (some (am_I (-4)), r1.2)))) :=
  (am_xs_run am_ms 194 [(.aload_n 0, 1, []), (.iload_n 1, 1, []), (.invokevirtual 103, 3, [0, 79, 2, 1, 1, 3103, 3104, 3105]), (.ifCond .le 6, 3, []), (.bipush (-4), 2, []), (.ireturn, 1, [0])] 22 _ _ h (by decide +kernel)).trans rfl
set_option maxHeartbeats 4000000 in
theorem bk_194_33 (x0 : Nat) (x1 : Int) (h : am_H) : am_run am_ms 194 33 [am_R x0, am_I x1] [] h = ((am_isc h x0 1).bind fun _ => ((am_cV 100 [am_R x0, am_I x1] h).bind fun h1 => ((am_gfR h1 x0 1 4).bind fun f2 => ((am_rd h1 f2 0 x1).bind fun v3 => some (some (am_I v3), h1))))) :=
  (am_xs_run am_ms 194 [(.aload_n 0, 1, []), (.iload_n 1, 1, []), (.invokevirtual 162, 3, [0, 100, 2, 1, 0, 3185, 3187, 25]), (.aload_n 0, 1, []), (.getfield 24, 3, [1, 4, 1157, 3]), (.iload_n 1, 1, []), (.iaload, 1, []), (.ireturn, 1, [0])] 33 _ _ h (by decide +kernel)).trans rfl
set_option maxHeartbeats 4000000 in
theorem bk_195_0 (x0 : Nat) (x1 : Int) (h : am_H) : am_run am_ms 195 0 [am_R x0, am_I x1] [] h = ((am_gfR h x0 8 9).bind fun f1 => ((am_gfR h x0 8 4).bind fun f2 => ((am_isc h f1 2).bind fun _ => ((am_cV 161 [am_R f1, am_R f2] h).bind fun h3 => ((am_gfR h3 x0 8 4).bind fun f4 => ((am_isc h3 f4 1).bind fun _ => ((am_cI 194 [am_R f4, am_I x1] h3).bind fun r5 => ((am_isc r5.2 x0 8).bind fun _ => ((am_cI 160 [am_R x0, am_I r5.1] r5.2).bind fun r6 => some (some (am_I r6.1), r6.2)))))))))) :=
  (am_xs_run am_ms 195 [(.aload_n 0, 1, []), (.getfield 56, 3, [8, 9, 2046, 3]), (.aload_n 0, 1, []), (.getfield 34, 3, [8, 4, 2041, 3]), (.invokevirtual 211, 3, [0, 161, 2, 2, 0, 4017, 4018, 4019]), (.aload_n 0, 1, []), (.aload_n 0, 1, []), (.getfield 34, 3, [8, 4, 2041, 3]), (.iload_n 1, 1, []), (.invokevirtual 229, 3, [0, 194, 2, 1, 1, 4084, 4085, 4086]), (.invokevirtual 208, 3, [0, 160, 2, 8, 1, 4005, 4007, 28]), (.ireturn, 1, [0])] 0 _ _ h (by decide +kernel)).trans rfl
theorem en_195 (x0 : Nat) (x1 : Int) (h : am_H) : am_call am_ms 195 [am_R x0, am_I x1] h = am_run am_ms 195 0 [am_R x0, am_I x1] [] h := rfl
set_option maxHeartbeats 4000000 in
theorem bk_196_0 (x0 : Nat) (x1 : Int) (h : am_H) : am_run am_ms 196 0 [am_R x0, am_I x1] [] h = ((am_isc h x0 9).bind fun _ => ((am_cI 172 [am_R x0, am_I 7, am_I x1, am_I 0] h).bind fun r1 => some (some (am_I r1.1), r1.2))) :=
  (am_xs_run am_ms 196 [(.aload_n 0, 1, []), (.bipush 7, 2, []), (.iload_n 1, 1, []), (.iconst 0, 1, []), (.invokevirtual 329, 3, [0, 172, 4, 9, 1, 7026, 7028, 75]), (.ireturn, 1, [0])] 0 _ _ h (by decide +kernel)).trans rfl
theorem en_196 (x0 : Nat) (x1 : Int) (h : am_H) : am_call am_ms 196 [am_R x0, am_I x1] h = am_run am_ms 196 0 [am_R x0, am_I x1] [] h := rfl
set_option maxHeartbeats 4000000 in
theorem bk_197_0 (x0 : Int) (h : am_H) : am_run am_ms 197 0 [am_I x0] [] h = (bif decide (x0 < 0) then am_run am_ms 197 13 [am_I x0] [] h else (bif decide (4 ≤ x0) then am_run am_ms 197 13 [am_I x0] [] h else am_run am_ms 197 14 [am_I x0] [am_I 1] h)) :=
  (am_xs_run am_ms 197 [(.iload_n 0, 1, []), (.ifCond .lt 12, 3, []), (.iload_n 0, 1, []), (.iconst 4, 1, []), (.if_icmp .ge 7, 3, []), (.iconst 1, 1, []), (.goto 4, 3, [])] 0 _ _ h (by decide +kernel)).trans rfl
theorem en_197 (x0 : Int) (h : am_H) : am_call am_ms 197 [am_I x0] h = am_run am_ms 197 0 [am_I x0] [] h := rfl
set_option maxHeartbeats 4000000 in
theorem bk_197_13 (x0 : Int) (h : am_H) : am_run am_ms 197 13 [am_I x0] [] h = am_run am_ms 197 14 [am_I x0] [am_I 0] h :=
  (am_xs_run am_ms 197 [(.iconst 0, 1, [])] 13 _ _ h (by decide +kernel)).trans rfl
set_option maxHeartbeats 4000000 in
theorem bk_197_14 (x0 : Int) (y0 : Int) (h : am_H) : am_run am_ms 197 14 [am_I x0] [am_I y0] h = (bif am_rok 1 y0 then some (some (am_I y0), h) else none) :=
  (am_xs_run am_ms 197 [(.ireturn, 1, [1])] 14 _ _ h (by decide +kernel)).trans rfl
set_option maxHeartbeats 4000000 in
theorem bk_198_0 (x0 : Nat) (x1 : Int) (h : am_H) : am_run am_ms 198 0 [am_R x0, am_I x1, am_K 1] [] h = ((am_gfR h x0 1 0).bind fun f1 => ((am_rd h f1 0 0).bind fun v2 => (bif decide (¬ v2 = 0) then am_run am_ms 198 11 [am_R x0, am_I x1, am_K 1] [] h else some (some (am_I (-1)), h)))) :=
  (am_xs_run am_ms 198 [(.aload_n 0, 1, []), (.getfield 9, 3, [1, 0, 1146, 3]), (.iconst 0, 1, []), (.iaload, 1, []), (.ifCond .ne 5, 3, []), (.iconst (-1), 1, []), (.ireturn, 1, [0])] 0 _ _ h (by decide +kernel)).trans rfl
theorem en_198 (x0 : Nat) (x1 : Int) (h : am_H) : am_call am_ms 198 [am_R x0, am_I x1] h = am_run am_ms 198 0 [am_R x0, am_I x1, am_K 1] [] h := rfl
set_option maxHeartbeats 4000000 in
theorem bk_198_11 (x0 : Nat) (x1 : Int) (h : am_H) : am_run am_ms 198 11 [am_R x0, am_I x1, am_K 1] [] h = ((am_cI 197 [am_I x1] h).bind fun r1 => (bif decide (¬ r1.1 = 0) then am_run am_ms 198 21 [am_R x0, am_I x1, am_K 1] [] r1.2 else some (some (am_I (-2)), r1.2))) :=
  (am_xs_run am_ms 198 [(.iload_n 1, 1, []), (.invokestatic 214, 3, [4, 197, 1, 0, 1, 4096, 4097]), (.ifCond .ne 6, 3, []), (.bipush (-2), 2, []), (.ireturn, 1, [0])] 11 _ _ h (by decide +kernel)).trans rfl
set_option maxHeartbeats 4000000 in
theorem bk_198_21 (x0 : Nat) (x1 : Int) (h : am_H) : am_run am_ms 198 21 [am_R x0, am_I x1, am_K 1] [] h = ((am_gfR h x0 1 0).bind fun f1 => ((am_rd h f1 0 6).bind fun v2 => (bif decide (¬ v2 = x1) then am_run am_ms 198 37 [am_R x0, am_I x1, am_I v2] [] h else some (some (am_I (-3)), h)))) :=
  (am_xs_run am_ms 198 [(.aload_n 0, 1, []), (.getfield 9, 3, [1, 0, 1146, 3]), (.bipush 6, 2, []), (.iaload, 1, []), (.istore_n 2, 1, []), (.iload_n 2, 1, []), (.iload_n 1, 1, []), (.if_icmp .ne 6, 3, []), (.bipush (-3), 2, []), (.ireturn, 1, [0])] 21 _ _ h (by decide +kernel)).trans rfl
set_option maxHeartbeats 4000000 in
theorem bk_198_37 (x0 : Nat) (x1 : Int) (x2 : Int) (h : am_H) : am_run am_ms 198 37 [am_R x0, am_I x1, am_I x2] [] h = ((am_gfR h x0 1 0).bind fun f1 => ((am_wr h f1 0 6 x1).bind fun h2 => some (some (am_I x2), h2))) :=
  (am_xs_run am_ms 198 [(.aload_n 0, 1, []), (.getfield 9, 3, [1, 0, 1146, 3]), (.bipush 6, 2, []), (.iload_n 1, 1, []), (.iastore, 1, []), (.iload_n 2, 1, []), (.ireturn, 1, [0])] 37 _ _ h (by decide +kernel)).trans rfl
set_option maxHeartbeats 4000000 in
theorem bk_199_0 (x0 : Nat) (x1 : Int) (h : am_H) : am_run am_ms 199 0 [am_R x0, am_I x1] [] h = ((am_gfR h x0 8 9).bind fun f1 => ((am_gfR h x0 8 4).bind fun f2 => ((am_isc h f1 2).bind fun _ => ((am_cV 161 [am_R f1, am_R f2] h).bind fun h3 => ((am_gfR h3 x0 8 4).bind fun f4 => ((am_isc h3 f4 1).bind fun _ => ((am_cI 198 [am_R f4, am_I x1] h3).bind fun r5 => ((am_isc r5.2 x0 8).bind fun _ => ((am_cI 160 [am_R x0, am_I r5.1] r5.2).bind fun r6 => some (some (am_I r6.1), r6.2)))))))))) :=
  (am_xs_run am_ms 199 [(.aload_n 0, 1, []), (.getfield 56, 3, [8, 9, 2046, 3]), (.aload_n 0, 1, []), (.getfield 34, 3, [8, 4, 2041, 3]), (.invokevirtual 211, 3, [0, 161, 2, 2, 0, 4017, 4018, 4019]), (.aload_n 0, 1, []), (.aload_n 0, 1, []), (.getfield 34, 3, [8, 4, 2041, 3]), (.iload_n 1, 1, []), (.invokevirtual 232, 3, [0, 198, 2, 1, 1, 4092, 4093, 4094]), (.invokevirtual 208, 3, [0, 160, 2, 8, 1, 4005, 4007, 28]), (.ireturn, 1, [0])] 0 _ _ h (by decide +kernel)).trans rfl
theorem en_199 (x0 : Nat) (x1 : Int) (h : am_H) : am_call am_ms 199 [am_R x0, am_I x1] h = am_run am_ms 199 0 [am_R x0, am_I x1] [] h := rfl
set_option maxHeartbeats 4000000 in
theorem bk_200_0 (x0 : Nat) (x1 : Int) (h : am_H) : am_run am_ms 200 0 [am_R x0, am_I x1] [] h = ((am_isc h x0 9).bind fun _ => ((am_cI 172 [am_R x0, am_I 8, am_I x1, am_I 0] h).bind fun r1 => some (some (am_I r1.1), r1.2))) :=
  (am_xs_run am_ms 200 [(.aload_n 0, 1, []), (.bipush 8, 2, []), (.iload_n 1, 1, []), (.iconst 0, 1, []), (.invokevirtual 329, 3, [0, 172, 4, 9, 1, 7026, 7028, 75]), (.ireturn, 1, [0])] 0 _ _ h (by decide +kernel)).trans rfl
theorem en_200 (x0 : Nat) (x1 : Int) (h : am_H) : am_call am_ms 200 [am_R x0, am_I x1] h = am_run am_ms 200 0 [am_R x0, am_I x1] [] h := rfl
set_option maxHeartbeats 4000000 in
theorem bk_201_0 (x0 : Nat) (x1 : Int) (h : am_H) : am_run am_ms 201 0 [am_R x0, am_I x1] [] h = ((am_gfL h x0 0 0).bind fun f1 => ((am_pf h x0 0 0 (am_L (am_q ((am_q (f1 * 6364136223846793005)) + 1442695040888963407)))).bind fun h2 => (bif decide (0 < x1) then am_run am_ms 201 24 [am_R x0, am_I x1] [] h2 else am_run am_ms 201 35 [am_R x0, am_I x1] [am_I 0] h2))) :=
  (am_xs_run am_ms 201 [(.aload_n 0, 1, []), (.aload_n 0, 1, []), (.getfield 7, 3, [0, 0, 1223, 2]), (.ldc2_w 13, 3, [0, 6364136223846793005, 4107]), (.lmul, 1, []), (.ldc2_w 15, 3, [0, 1442695040888963407, 4108]), (.ladd, 1, []), (.putfield 7, 3, [0, 0, 1223, 2]), (.iload_n 1, 1, []), (.ifCond .gt 7, 3, []), (.iconst 0, 1, []), (.goto 14, 3, [])] 0 _ _ h (by decide +kernel)).trans rfl
theorem en_201 (x0 : Nat) (x1 : Int) (h : am_H) : am_call am_ms 201 [am_R x0, am_I x1] h = am_run am_ms 201 0 [am_R x0, am_I x1] [] h := rfl
set_option maxHeartbeats 4000000 in
theorem bk_201_24 (x0 : Nat) (x1 : Int) (h : am_H) : am_run am_ms 201 24 [am_R x0, am_I x1] [] h = ((am_gfL h x0 0 0).bind fun f1 => (if x1 = 0 then none else am_run am_ms 201 35 [am_R x0, am_I x1] [am_I (am_w (am_lrem (am_lushr f1 33) x1))] h)) :=
  (am_xs_run am_ms 201 [(.aload_n 0, 1, []), (.getfield 7, 3, [0, 0, 1223, 2]), (.bipush 33, 2, []), (.lushr, 1, []), (.iload_n 1, 1, []), (.i2l, 1, []), (.lrem, 1, []), (.l2i, 1, [])] 24 _ _ h (by decide +kernel)).trans rfl
set_option maxHeartbeats 4000000 in
theorem bk_201_35 (x0 : Nat) (x1 : Int) (y0 : Int) (h : am_H) : am_run am_ms 201 35 [am_R x0, am_I x1] [am_I y0] h = some (some (am_I y0), h) :=
  (am_xs_run am_ms 201 [(.ireturn, 1, [0])] 35 _ _ h (by decide +kernel)).trans rfl
set_option maxHeartbeats 4000000 in
theorem bk_202_0 (x0 : Nat) (x1 : Int) (h : am_H) : am_run am_ms 202 0 [am_R x0, am_I x1, am_K 1] [] h = am_run am_ms 202 1 [am_R x0, am_I x1, am_K 1] [am_I x1] h :=
  (am_xs_run am_ms 202 [(.iload_n 1, 1, [])] 0 _ _ h (by decide +kernel)).trans rfl
theorem en_202 (x0 : Nat) (x1 : Int) (h : am_H) : am_call am_ms 202 [am_R x0, am_I x1] h = am_run am_ms 202 0 [am_R x0, am_I x1, am_K 1] [] h := rfl
theorem bk_202_1 (x0 : Nat) (x1 : Int) (y0 : Int) (h : am_H) : am_run am_ms 202 1 [am_R x0, am_I x1, am_K 1] [am_I y0] h = am_run am_ms 202 (am_tsw 1 81 5 7 #[27, 49, 57] y0) [am_R x0, am_I x1, am_K 1] [] h := by
  rw [am_run_eq, show am_code am_ms 202 1 = some (.tableswitch 81 5 7 #[27, 49, 57], 27, []) from by decide +kernel]
  rfl
set_option maxHeartbeats 4000000 in
theorem bk_202_28 (x0 : Nat) (x1 : Int) (h : am_H) : am_run am_ms 202 28 [am_R x0, am_I x1, am_K 1] [] h = ((am_gfR h x0 8 4).bind fun f1 => ((am_gfR h x0 8 10).bind fun f2 => ((am_isc h f2 0).bind fun _ => ((am_cI 201 [am_R f2, am_I 32] h).bind fun r3 => ((am_gfR r3.2 x0 8 5).bind fun f4 => ((am_isc r3.2 f1 1).bind fun _ => ((am_cI 102 [am_R f1, am_I r3.1, am_I (-1), am_R f4] r3.2).bind fun r5 => some (some (am_I r5.1), r5.2)))))))) :=
  (am_xs_run am_ms 202 [(.aload_n 0, 1, []), (.getfield 34, 3, [8, 4, 2041, 3]), (.aload_n 0, 1, []), (.getfield 63, 3, [8, 10, 2047, 3]), (.bipush 32, 2, []), (.invokevirtual 239, 3, [0, 201, 2, 0, 1, 4103, 4104, 4105]), (.iconst (-1), 1, []), (.aload_n 0, 1, []), (.getfield 38, 3, [8, 5, 2042, 3]), (.invokevirtual 120, 3, [0, 102, 4, 1, 1, 3050, 3051, 3052]), (.ireturn, 1, [0])] 28 _ _ h (by decide +kernel)).trans rfl
set_option maxHeartbeats 4000000 in
theorem bk_202_50 (x0 : Nat) (x1 : Int) (h : am_H) : am_run am_ms 202 50 [am_R x0, am_I x1, am_K 1] [] h = ((am_gfR h x0 8 4).bind fun f1 => ((am_isc h f1 1).bind fun _ => ((am_cI 176 [am_R f1] h).bind fun r2 => some (some (am_I r2.1), r2.2)))) :=
  (am_xs_run am_ms 202 [(.aload_n 0, 1, []), (.getfield 34, 3, [8, 4, 2041, 3]), (.invokevirtual 214, 3, [0, 176, 1, 1, 1, 4031, 4032, 4033]), (.ireturn, 1, [0])] 50 _ _ h (by decide +kernel)).trans rfl
set_option maxHeartbeats 4000000 in
theorem bk_202_58 (x0 : Nat) (x1 : Int) (h : am_H) : am_run am_ms 202 58 [am_R x0, am_I x1, am_K 1] [] h = ((am_gfR h x0 8 4).bind fun f1 => ((am_gfR h x0 8 10).bind fun f2 => ((am_gfR h x0 8 4).bind fun f3 => ((am_gfR h f3 1 0).bind fun f4 => ((am_rd h f4 0 0).bind fun v5 => ((am_isc h f2 0).bind fun _ => ((am_cI 201 [am_R f2, am_I v5] h).bind fun r6 => ((am_isc r6.2 f1 1).bind fun _ => ((am_cI 191 [am_R f1, am_I r6.1] r6.2).bind fun r7 => some (some (am_I r7.1), r7.2)))))))))) :=
  (am_xs_run am_ms 202 [(.aload_n 0, 1, []), (.getfield 34, 3, [8, 4, 2041, 3]), (.aload_n 0, 1, []), (.getfield 63, 3, [8, 10, 2047, 3]), (.aload_n 0, 1, []), (.getfield 34, 3, [8, 4, 2041, 3]), (.getfield 124, 3, [1, 0, 1149, 3]), (.iconst 0, 1, []), (.iaload, 1, []), (.invokevirtual 239, 3, [0, 201, 2, 0, 1, 4103, 4104, 4105]), (.invokevirtual 226, 3, [0, 191, 2, 1, 1, 4076, 4077, 4078]), (.ireturn, 1, [0])] 58 _ _ h (by decide +kernel)).trans rfl
set_option maxHeartbeats 4000000 in
theorem bk_202_82 (x0 : Nat) (x1 : Int) (h : am_H) : am_run am_ms 202 82 [am_R x0, am_I x1, am_K 1] [] h = ((am_gfR h x0 8 10).bind fun f1 => ((am_isc h f1 0).bind fun _ => ((am_cI 201 [am_R f1, am_I 32] h).bind fun r2 => ((am_gfR r2.2 x0 8 4).bind fun f3 => ((am_gfR r2.2 x0 8 10).bind fun f4 => ((am_isc r2.2 f4 0).bind fun _ => ((am_cI 201 [am_R f4, am_I 1000] r2.2).bind fun r5 => ((am_gfR r5.2 x0 8 5).bind fun f6 => am_run am_ms 202 111 [am_R x0, am_I x1, am_I r2.1] [am_R f6, am_I r5.1, am_I r2.1, am_R f3] r5.2)))))))) :=
  (am_xs_run am_ms 202 [(.aload_n 0, 1, []), (.getfield 63, 3, [8, 10, 2047, 3]), (.bipush 32, 2, []), (.invokevirtual 239, 3, [0, 201, 2, 0, 1, 4103, 4104, 4105]), (.istore_n 2, 1, []), (.aload_n 0, 1, []), (.getfield 34, 3, [8, 4, 2041, 3]), (.iload_n 2, 1, []), (.aload_n 0, 1, []), (.getfield 63, 3, [8, 10, 2047, 3]), (.sipush 1000, 3, []), (.invokevirtual 239, 3, [0, 201, 2, 0, 1, 4103, 4104, 4105]), (.aload_n 0, 1, []), (.getfield 38, 3, [8, 5, 2042, 3])] 82 _ _ h (by decide +kernel)).trans rfl
set_option maxHeartbeats 4000000 in
theorem bk_202_111 (x0 : Nat) (x1 : Int) (x2 : Int) (y0 : Nat) (y1 : Int) (y2 : Int) (y3 : Nat) (h : am_H) : am_run am_ms 202 111 [am_R x0, am_I x1, am_I x2] [am_R y0, am_I y1, am_I y2, am_R y3] h = ((am_isc h y3 1).bind fun _ => ((am_cI 102 [am_R y3, am_I y2, am_I y1, am_R y0] h).bind fun r1 => some (some (am_I r1.1), r1.2))) :=
  (am_xs_run am_ms 202 [(.invokevirtual 120, 3, [0, 102, 4, 1, 1, 3050, 3051, 3052]), (.ireturn, 1, [0])] 111 _ _ h (by decide +kernel)).trans rfl
set_option maxHeartbeats 4000000 in
theorem bk_203_0 (x0 : Nat) (x1 : Int) (x2 : Int) (h : am_H) : am_run am_ms 203 0 [am_R x0, am_I x1, am_L x2, am_K 1, am_K 1] [] h = ((am_isc h x0 8).bind fun _ => ((am_cI 137 [am_R x0] h).bind fun r1 => (bif decide (r1.1 = 0) then am_run am_ms 203 18 [am_R x0, am_I x1, am_L x2, am_K 1, am_K 1] [] r1.2 else (bif decide (x1 < 1) then am_run am_ms 203 18 [am_R x0, am_I x1, am_L x2, am_K 1, am_K 1] [] r1.2 else (bif decide (x1 ≤ 40) then am_run am_ms 203 20 [am_R x0, am_I x1, am_L x2, am_K 1, am_K 1] [] r1.2 else am_run am_ms 203 18 [am_R x0, am_I x1, am_L x2, am_K 1, am_K 1] [] r1.2))))) :=
  (am_xs_run am_ms 203 [(.aload_n 0, 1, []), (.invokevirtual 136, 3, [0, 137, 1, 8, 1, 3202, 3204, 27]), (.ifCond .eq 14, 3, []), (.iload_n 1, 1, []), (.iconst 1, 1, []), (.if_icmp .lt 9, 3, []), (.iload_n 1, 1, []), (.bipush 40, 2, []), (.if_icmp .le 5, 3, [])] 0 _ _ h (by decide +kernel)).trans rfl
theorem en_203 (x0 : Nat) (x1 : Int) (x2 : Int) (h : am_H) : am_call am_ms 203 [am_R x0, am_I x1, am_L x2] h = am_run am_ms 203 0 [am_R x0, am_I x1, am_L x2, am_K 1, am_K 1] [] h := rfl
set_option maxHeartbeats 4000000 in
theorem bk_203_18 (x0 : Nat) (x1 : Int) (x2 : Int) (h : am_H) : am_run am_ms 203 18 [am_R x0, am_I x1, am_L x2, am_K 1, am_K 1] [] h = some (some (am_I (-1)), h) :=
  (am_xs_run am_ms 203 [(.iconst (-1), 1, []), (.ireturn, 1, [0])] 18 _ _ h (by decide +kernel)).trans rfl
set_option maxHeartbeats 4000000 in
theorem bk_203_20 (x0 : Nat) (x1 : Int) (x2 : Int) (h : am_H) : am_run am_ms 203 20 [am_R x0, am_I x1, am_L x2, am_K 1, am_K 1] [] h = ((am_gfR h x0 8 10).bind fun f1 => ((am_pf h f1 0 0 (am_L x2)).bind fun h2 => am_run am_ms 203 31 [am_R x0, am_I x1, am_L x2, am_K 1, am_I 0] [] h2)) :=
  (am_xs_run am_ms 203 [(.aload_n 0, 1, []), (.getfield 63, 3, [8, 10, 2047, 3]), (.lload_n 2, 1, []), (.putfield 235, 3, [0, 0, 1225, 2]), (.iconst 0, 1, []), (.istore 4, 2, [])] 20 _ _ h (by decide +kernel)).trans rfl
set_option maxHeartbeats 4000000 in
theorem bk_203_31 (x0 : Nat) (x1 : Int) (x2 : Int) (x4 : Int) (h : am_H) : am_run am_ms 203 31 [am_R x0, am_I x1, am_L x2, am_K 1, am_I x4] [] h = (bif decide (x1 ≤ x4) then am_run am_ms 203 77 [am_R x0, am_I x1, am_L x2, am_K 1, am_I x4] [] h else ((am_gfR h x0 8 9).bind fun f1 => ((am_gfR h x0 8 4).bind fun f2 => ((am_isc h f1 2).bind fun _ => ((am_cV 161 [am_R f1, am_R f2] h).bind fun h3 => ((am_gfR h3 x0 8 10).bind fun f4 => ((am_isc h3 f4 0).bind fun _ => ((am_cI 201 [am_R f4, am_I 8] h3).bind fun r5 => ((am_isc r5.2 x0 8).bind fun _ => ((am_cI 202 [am_R x0, am_I r5.1] r5.2).bind fun r6 => am_run am_ms 203 61 [am_R x0, am_I x1, am_L x2, am_K 1, am_I x4] [am_I r6.1] r6.2)))))))))) :=
  (am_xs_run am_ms 203 [(.iload 4, 2, []), (.iload_n 1, 1, []), (.if_icmp .ge 43, 3, []), (.aload_n 0, 1, []), (.getfield 56, 3, [8, 9, 2046, 3]), (.aload_n 0, 1, []), (.getfield 34, 3, [8, 4, 2041, 3]), (.invokevirtual 211, 3, [0, 161, 2, 2, 0, 4017, 4018, 4019]), (.aload_n 0, 1, []), (.aload_n 0, 1, []), (.getfield 63, 3, [8, 10, 2047, 3]), (.bipush 8, 2, []), (.invokevirtual 239, 3, [0, 201, 2, 0, 1, 4103, 4104, 4105]), (.invokevirtual 242, 3, [0, 202, 2, 8, 1, 4109, 4111, 32])] 31 _ _ h (by decide +kernel)).trans rfl
set_option maxHeartbeats 4000000 in
theorem bk_203_61 (x0 : Nat) (x1 : Int) (x2 : Int) (x4 : Int) (y0 : Int) (h : am_H) : am_run am_ms 203 61 [am_R x0, am_I x1, am_L x2, am_K 1, am_I x4] [am_I y0] h = (bif decide (y0 < 0) then am_run am_ms 203 71 [am_R x0, am_I x1, am_L x2, am_K 1, am_I x4] [] h else ((am_gfR h x0 8 9).bind fun f1 => ((am_isc h f1 2).bind fun _ => ((am_cV 159 [am_R f1] h).bind fun h2 => am_run am_ms 203 71 [am_R x0, am_I x1, am_L x2, am_K 1, am_I x4] [] h2)))) :=
  (am_xs_run am_ms 203 [(.ifCond .lt 10, 3, []), (.aload_n 0, 1, []), (.getfield 56, 3, [8, 9, 2046, 3]), (.invokevirtual 205, 3, [0, 159, 1, 2, 0, 4009, 4010, 4011])] 61 _ _ h (by decide +kernel)).trans rfl
set_option maxHeartbeats 4000000 in
theorem bk_203_71 (x0 : Nat) (x1 : Int) (x2 : Int) (x4 : Int) (h : am_H) : am_run am_ms 203 71 [am_R x0, am_I x1, am_L x2, am_K 1, am_I x4] [] h = am_run am_ms 203 31 [am_R x0, am_I x1, am_L x2, am_K 1, am_I (am_w (x4 + 1))] [] h :=
  (am_xs_run am_ms 203 [(.iinc 4 1, 3, []), (.goto (-43), 3, [])] 71 _ _ h (by decide +kernel)).trans rfl
set_option maxHeartbeats 4000000 in
theorem bk_203_77 (x0 : Nat) (x1 : Int) (x2 : Int) (x4 : Int) (h : am_H) : am_run am_ms 203 77 [am_R x0, am_I x1, am_L x2, am_K 1, am_I x4] [] h = ((am_gfR h x0 8 4).bind fun f1 => ((am_gfR h f1 1 1).bind fun f2 => ((am_rd h f2 0 4).bind fun v3 => some (some (am_I v3), h)))) :=
  (am_xs_run am_ms 203 [(.aload_n 0, 1, []), (.getfield 34, 3, [8, 4, 2041, 3]), (.getfield 245, 3, [1, 1, 1151, 3]), (.iconst 4, 1, []), (.iaload, 1, []), (.ireturn, 1, [0])] 77 _ _ h (by decide +kernel)).trans rfl
set_option maxHeartbeats 4000000 in
theorem bk_204_0 (x0 : Nat) (x1 : Int) (h : am_H) : am_run am_ms 204 0 [am_R x0, am_I x1] [] h = ((am_gfL h x0 9 29).bind fun f1 => ((am_pf h x0 9 29 (am_L (am_q ((am_q (f1 * 6364136223846793005)) + 1442695040888963407)))).bind fun h2 => ((am_gfL h2 x0 9 29).bind fun f3 => am_run am_ms 204 25 [am_R x0, am_I x1] [am_L x1, am_L (am_lushr f3 33)] h2))) :=
  (am_xs_run am_ms 204 [(.aload_n 0, 1, []), (.aload_n 0, 1, []), (.getfield 332, 3, [9, 29, 5212, 2]), (.ldc2_w 336, 3, [0, 6364136223846793005, 7126]), (.lmul, 1, []), (.ldc2_w 338, 3, [0, 1442695040888963407, 7127]), (.ladd, 1, []), (.putfield 332, 3, [9, 29, 5212, 2]), (.aload_n 0, 1, []), (.getfield 332, 3, [9, 29, 5212, 2]), (.bipush 33, 2, []), (.lushr, 1, []), (.iload_n 1, 1, []), (.i2l, 1, [])] 0 _ _ h (by decide +kernel)).trans rfl
theorem en_204 (x0 : Nat) (x1 : Int) (h : am_H) : am_call am_ms 204 [am_R x0, am_I x1] h = am_run am_ms 204 0 [am_R x0, am_I x1] [] h := rfl
set_option maxHeartbeats 4000000 in
theorem bk_204_25 (x0 : Nat) (x1 : Int) (y0 : Int) (y1 : Int) (h : am_H) : am_run am_ms 204 25 [am_R x0, am_I x1] [am_L y0, am_L y1] h = (if y0 = 0 then none else some (some (am_I (am_w (am_lrem y1 y0))), h)) :=
  (am_xs_run am_ms 204 [(.lrem, 1, []), (.l2i, 1, []), (.ireturn, 1, [0])] 25 _ _ h (by decide +kernel)).trans rfl
set_option maxHeartbeats 4000000 in
theorem bk_205_0 (x0 : Nat) (h : am_H) : am_run am_ms 205 0 [am_R x0, am_K 1, am_K 1, am_K 1] [] h = ((am_isc h x0 9).bind fun _ => ((am_cI 204 [am_R x0, am_I 8] h).bind fun r1 => (bif decide (5 ≤ r1.1) then am_run am_ms 205 36 [am_R x0, am_I r1.1, am_K 1, am_K 1] [] r1.2 else ((am_isc r1.2 x0 9).bind fun _ => ((am_cI 204 [am_R x0, am_I 32] r1.2).bind fun r2 => am_run am_ms 205 22 [am_R x0, am_I r1.1, am_I r2.1, am_K 1] [am_I r2.1, am_I 0, am_R x0] r2.2))))) :=
  (am_xs_run am_ms 205 [(.aload_n 0, 1, []), (.bipush 8, 2, []), (.invokevirtual 340, 3, [0, 204, 2, 9, 1, 7122, 7124, 89]), (.istore_n 1, 1, []), (.iload_n 1, 1, []), (.iconst 5, 1, []), (.if_icmp .ge 27, 3, []), (.aload_n 0, 1, []), (.bipush 32, 2, []), (.invokevirtual 340, 3, [0, 204, 2, 9, 1, 7122, 7124, 89]), (.istore_n 2, 1, []), (.aload_n 0, 1, []), (.iconst 0, 1, []), (.iload_n 2, 1, [])] 0 _ _ h (by decide +kernel)).trans rfl
theorem en_205 (x0 : Nat) (h : am_H) : am_call am_ms 205 [am_R x0] h = am_run am_ms 205 0 [am_R x0, am_K 1, am_K 1, am_K 1] [] h := rfl
set_option maxHeartbeats 4000000 in
theorem bk_205_22 (x0 : Nat) (x1 : Int) (x2 : Int) (y0 : Int) (y1 : Int) (y2 : Nat) (h : am_H) : am_run am_ms 205 22 [am_R x0, am_I x1, am_I x2, am_K 1] [am_I y0, am_I y1, am_R y2] h = ((am_isc h x0 9).bind fun _ => ((am_cI 204 [am_R x0, am_I 1000] h).bind fun r1 => ((am_isc r1.2 y2 9).bind fun _ => ((am_cI 170 [am_R y2, am_I y1, am_I y0, am_I r1.1] r1.2).bind fun r2 => am_run am_ms 205 92 [am_R x0, am_I x1, am_I x2, am_I r2.1] [] r2.2)))) :=
  (am_xs_run am_ms 205 [(.aload_n 0, 1, []), (.sipush 1000, 3, []), (.invokevirtual 340, 3, [0, 204, 2, 9, 1, 7122, 7124, 89]), (.invokevirtual 322, 3, [0, 170, 4, 9, 1, 7030, 7032, 76]), (.istore_n 3, 1, []), (.goto 59, 3, [])] 22 _ _ h (by decide +kernel)).trans rfl
set_option maxHeartbeats 4000000 in
theorem bk_205_36 (x0 : Nat) (x1 : Int) (h : am_H) : am_run am_ms 205 36 [am_R x0, am_I x1, am_K 1, am_K 1] [] h = (bif decide (¬ x1 = 5) then am_run am_ms 205 57 [am_R x0, am_I x1, am_K 1, am_K 1] [] h else ((am_isc h x0 9).bind fun _ => ((am_cI 204 [am_R x0, am_I 32] h).bind fun r1 => ((am_isc r1.2 x0 9).bind fun _ => ((am_cI 170 [am_R x0, am_I 1, am_I r1.1, am_I 0] r1.2).bind fun r2 => am_run am_ms 205 92 [am_R x0, am_I x1, am_I r2.1, am_K 1] [] r2.2))))) :=
  (am_xs_run am_ms 205 [(.iload_n 1, 1, []), (.iconst 5, 1, []), (.if_icmp .ne 19, 3, []), (.aload_n 0, 1, []), (.iconst 1, 1, []), (.aload_n 0, 1, []), (.bipush 32, 2, []), (.invokevirtual 340, 3, [0, 204, 2, 9, 1, 7122, 7124, 89]), (.iconst 0, 1, []), (.invokevirtual 322, 3, [0, 170, 4, 9, 1, 7030, 7032, 76]), (.istore_n 2, 1, []), (.goto 38, 3, [])] 36 _ _ h (by decide +kernel)).trans rfl
set_option maxHeartbeats 4000000 in
theorem bk_205_57 (x0 : Nat) (x1 : Int) (h : am_H) : am_run am_ms 205 57 [am_R x0, am_I x1, am_K 1, am_K 1] [] h = (bif decide (¬ x1 = 6) then am_run am_ms 205 74 [am_R x0, am_I x1, am_K 1, am_K 1] [] h else ((am_isc h x0 9).bind fun _ => ((am_cI 170 [am_R x0, am_I 2, am_I 0, am_I 0] h).bind fun r1 => am_run am_ms 205 92 [am_R x0, am_I x1, am_I r1.1, am_K 1] [] r1.2))) :=
  (am_xs_run am_ms 205 [(.iload_n 1, 1, []), (.bipush 6, 2, []), (.if_icmp .ne 14, 3, []), (.aload_n 0, 1, []), (.iconst 2, 1, []), (.iconst 0, 1, []), (.iconst 0, 1, []), (.invokevirtual 322, 3, [0, 170, 4, 9, 1, 7030, 7032, 76]), (.istore_n 2, 1, []), (.goto 21, 3, [])] 57 _ _ h (by decide +kernel)).trans rfl
set_option maxHeartbeats 4000000 in
theorem bk_205_74 (x0 : Nat) (x1 : Int) (h : am_H) : am_run am_ms 205 74 [am_R x0, am_I x1, am_K 1, am_K 1] [] h = ((am_gfR h x0 9 6).bind fun f1 => ((am_rd h f1 0 0).bind fun v2 => ((am_isc h x0 9).bind fun _ => ((am_cI 204 [am_R x0, am_I v2] h).bind fun r3 => ((am_isc r3.2 x0 9).bind fun _ => ((am_cI 170 [am_R x0, am_I 6, am_I r3.1, am_I 0] r3.2).bind fun r4 => am_run am_ms 205 92 [am_R x0, am_I x1, am_I r4.1, am_K 1] [] r4.2)))))) :=
  (am_xs_run am_ms 205 [(.aload_n 0, 1, []), (.bipush 6, 2, []), (.aload_n 0, 1, []), (.aload_n 0, 1, []), (.getfield 17, 3, [9, 6, 5189, 3]), (.iconst 0, 1, []), (.iaload, 1, []), (.invokevirtual 340, 3, [0, 204, 2, 9, 1, 7122, 7124, 89]), (.iconst 0, 1, []), (.invokevirtual 322, 3, [0, 170, 4, 9, 1, 7030, 7032, 76]), (.istore_n 2, 1, [])] 74 _ _ h (by decide +kernel)).trans rfl
set_option maxHeartbeats 4000000 in
theorem bk_205_92 (x0 : Nat) (x1 : Int) (x2 : Int) (x3 : am_V) (h : am_H) : am_run am_ms 205 92 [am_R x0, am_I x1, am_I x2, x3] [] h = some (none, h) :=
  (am_xs_run am_ms 205 [(.return_, 1, [])] 92 _ _ h (by decide +kernel)).trans rfl
set_option maxHeartbeats 4000000 in
theorem bk_206_0 (x0 : Nat) (x1 : Int) (x2 : Int) (h : am_H) : am_run am_ms 206 0 [am_R x0, am_I x1, am_L x2, am_K 1, am_K 1] [] h = ((am_pf h x0 9 0 (am_I 0)).bind fun h1 => ((am_gfI h1 x0 9 14).bind fun f2 => (bif decide (f2 = 0) then am_run am_ms 206 24 [am_R x0, am_I x1, am_L x2, am_K 1, am_K 1] [] h1 else ((am_cI 40 [am_L x1, am_L 1, am_L 40] h1).bind fun r3 => (bif decide (¬ r3.1 = 0) then am_run am_ms 206 26 [am_R x0, am_I x1, am_L x2, am_K 1, am_K 1] [] r3.2 else am_run am_ms 206 24 [am_R x0, am_I x1, am_L x2, am_K 1, am_K 1] [] r3.2))))) :=
  (am_xs_run am_ms 206 [(.aload_n 0, 1, []), (.iconst 0, 1, []), (.putfield 53, 3, [9, 0, 5183, 0]), (.aload_n 0, 1, []), (.getfield 155, 3, [9, 14, 5197, 1]), (.ifCond .eq 15, 3, []), (.iload_n 1, 1, []), (.i2l, 1, []), (.lconst 1, 1, []), (.ldc2_w 343, 3, [0, 40, 7117]), (.invokestatic 96, 3, [1, 40, 3, 0, 1, 6060, 6061]), (.ifCond .ne 5, 3, [])] 0 _ _ h (by decide +kernel)).trans rfl
theorem en_206 (x0 : Nat) (x1 : Int) (x2 : Int) (h : am_H) : am_call am_ms 206 [am_R x0, am_I x1, am_L x2] h = am_run am_ms 206 0 [am_R x0, am_I x1, am_L x2, am_K 1, am_K 1] [] h := rfl
set_option maxHeartbeats 4000000 in
theorem bk_206_24 (x0 : Nat) (x1 : Int) (x2 : Int) (h : am_H) : am_run am_ms 206 24 [am_R x0, am_I x1, am_L x2, am_K 1, am_K 1] [] h = some (some (am_I (-1)), h) :=
  (am_xs_run am_ms 206 [(.iconst (-1), 1, []), (.ireturn, 1, [0])] 24 _ _ h (by decide +kernel)).trans rfl
set_option maxHeartbeats 4000000 in
theorem bk_206_26 (x0 : Nat) (x1 : Int) (x2 : Int) (h : am_H) : am_run am_ms 206 26 [am_R x0, am_I x1, am_L x2, am_K 1, am_K 1] [] h = ((am_pf h x0 9 29 (am_L x2)).bind fun h1 => am_run am_ms 206 34 [am_R x0, am_I x1, am_L x2, am_K 1, am_I 0] [] h1) :=
  (am_xs_run am_ms 206 [(.aload_n 0, 1, []), (.lload_n 2, 1, []), (.putfield 332, 3, [9, 29, 5212, 2]), (.iconst 0, 1, []), (.istore 4, 2, [])] 26 _ _ h (by decide +kernel)).trans rfl
set_option maxHeartbeats 4000000 in
theorem bk_206_34 (x0 : Nat) (x1 : Int) (x2 : Int) (x4 : Int) (h : am_H) : am_run am_ms 206 34 [am_R x0, am_I x1, am_L x2, am_K 1, am_I x4] [] h = (bif decide (x1 ≤ x4) then am_run am_ms 206 50 [am_R x0, am_I x1, am_L x2, am_K 1, am_I x4] [] h else ((am_isc h x0 9).bind fun _ => ((am_cV 205 [am_R x0] h).bind fun h1 => am_run am_ms 206 34 [am_R x0, am_I x1, am_L x2, am_K 1, am_I (am_w (x4 + 1))] [] h1))) :=
  (am_xs_run am_ms 206 [(.iload 4, 2, []), (.iload_n 1, 1, []), (.if_icmp .ge 13, 3, []), (.aload_n 0, 1, []), (.invokevirtual 345, 3, [0, 205, 1, 9, 0, 7118, 7120, 88]), (.iinc 4 1, 3, []), (.goto (-13), 3, [])] 34 _ _ h (by decide +kernel)).trans rfl
set_option maxHeartbeats 4000000 in
theorem bk_206_50 (x0 : Nat) (x1 : Int) (x2 : Int) (x4 : Int) (h : am_H) : am_run am_ms 206 50 [am_R x0, am_I x1, am_L x2, am_K 1, am_I x4] [] h = ((am_gfR h x0 9 15).bind fun f1 => ((am_rd h f1 0 419).bind fun v2 => some (some (am_I v2), h))) :=
  (am_xs_run am_ms 206 [(.aload_n 0, 1, []), (.getfield 32, 3, [9, 15, 5198, 3]), (.sipush 419, 3, []), (.iaload, 1, []), (.ireturn, 1, [0])] 50 _ _ h (by decide +kernel)).trans rfl
set_option maxHeartbeats 4000000 in
theorem bk_207_0 (x0 : Nat) (x1 : Int) (h : am_H) : am_run am_ms 207 0 [am_R x0, am_I x1] [] h = (bif decide (x1 < 0) then am_run am_ms 207 22 [am_R x0, am_I x1] [] h else ((am_gfR h x0 8 11).bind fun f1 => ((am_len h f1).bind fun n2 => (bif decide (n2 ≤ x1) then am_run am_ms 207 22 [am_R x0, am_I x1] [] h else ((am_gfR h x0 8 11).bind fun f3 => ((am_rd h f3 0 x1).bind fun v4 => am_run am_ms 207 23 [am_R x0, am_I x1] [am_I v4] h)))))) :=
  (am_xs_run am_ms 207 [(.iload_n 1, 1, []), (.ifCond .lt 21, 3, []), (.iload_n 1, 1, []), (.aload_n 0, 1, []), (.getfield 67, 3, [8, 11, 2048, 3]), (.arraylength, 1, []), (.if_icmp .ge 12, 3, []), (.aload_n 0, 1, []), (.getfield 67, 3, [8, 11, 2048, 3]), (.iload_n 1, 1, []), (.iaload, 1, []), (.goto 4, 3, [])] 0 _ _ h (by decide +kernel)).trans rfl
theorem en_207 (x0 : Nat) (x1 : Int) (h : am_H) : am_call am_ms 207 [am_R x0, am_I x1] h = am_run am_ms 207 0 [am_R x0, am_I x1] [] h := rfl
set_option maxHeartbeats 4000000 in
theorem bk_207_22 (x0 : Nat) (x1 : Int) (h : am_H) : am_run am_ms 207 22 [am_R x0, am_I x1] [] h = am_run am_ms 207 23 [am_R x0, am_I x1] [am_I (-1)] h :=
  (am_xs_run am_ms 207 [(.iconst (-1), 1, [])] 22 _ _ h (by decide +kernel)).trans rfl
set_option maxHeartbeats 4000000 in
theorem bk_207_23 (x0 : Nat) (x1 : Int) (y0 : Int) (h : am_H) : am_run am_ms 207 23 [am_R x0, am_I x1] [am_I y0] h = some (some (am_I y0), h) :=
  (am_xs_run am_ms 207 [(.ireturn, 1, [0])] 23 _ _ h (by decide +kernel)).trans rfl
set_option maxHeartbeats 4000000 in
theorem bk_208_0 (x0 : Nat) (x1 : Int) (h : am_H) : am_run am_ms 208 0 [am_R x0, am_I x1] [] h = ((am_pf h x0 9 0 (am_I 0)).bind fun h1 => ((am_cI 40 [am_L x1, am_L 0, am_L 3] h1).bind fun r2 => (bif decide (r2.1 = 0) then am_run am_ms 208 26 [am_R x0, am_I x1] [] r2.2 else ((am_gfR r2.2 x0 9 10).bind fun f3 => ((am_rd r2.2 f3 0 x1).bind fun v4 => am_run am_ms 208 27 [am_R x0, am_I x1] [am_I v4] r2.2))))) :=
  (am_xs_run am_ms 208 [(.aload_n 0, 1, []), (.iconst 0, 1, []), (.putfield 53, 3, [9, 0, 5183, 0]), (.iload_n 1, 1, []), (.i2l, 1, []), (.lconst 0, 1, []), (.ldc2_w 298, 3, [0, 3, 7056]), (.invokestatic 96, 3, [1, 40, 3, 0, 1, 6060, 6061]), (.ifCond .eq 12, 3, []), (.aload_n 0, 1, []), (.getfield 29, 3, [9, 10, 5193, 3]), (.iload_n 1, 1, []), (.iaload, 1, []), (.goto 4, 3, [])] 0 _ _ h (by decide +kernel)).trans rfl
theorem en_208 (x0 : Nat) (x1 : Int) (h : am_H) : am_call am_ms 208 [am_R x0, am_I x1] h = am_run am_ms 208 0 [am_R x0, am_I x1] [] h := rfl
set_option maxHeartbeats 4000000 in
theorem bk_208_26 (x0 : Nat) (x1 : Int) (h : am_H) : am_run am_ms 208 26 [am_R x0, am_I x1] [] h = am_run am_ms 208 27 [am_R x0, am_I x1] [am_I (-1)] h :=
  (am_xs_run am_ms 208 [(.iconst (-1), 1, [])] 26 _ _ h (by decide +kernel)).trans rfl
set_option maxHeartbeats 4000000 in
theorem bk_208_27 (x0 : Nat) (x1 : Int) (y0 : Int) (h : am_H) : am_run am_ms 208 27 [am_R x0, am_I x1] [am_I y0] h = some (some (am_I y0), h) :=
  (am_xs_run am_ms 208 [(.ireturn, 1, [0])] 27 _ _ h (by decide +kernel)).trans rfl
set_option maxHeartbeats 4000000 in
theorem bk_209_0 (x0 : Nat) (x1 : Nat) (h : am_H) : am_run am_ms 209 0 [am_R x0, am_R x1, am_K 1] [] h = ((am_gfI h x0 2 2).bind fun f1 => (bif decide (¬ f1 = 0) then am_run am_ms 209 8 [am_R x0, am_R x1, am_K 1] [] h else some (none, h))) :=
  (am_xs_run am_ms 209 [(.aload_n 0, 1, []), (.getfield 19, 3, [2, 2, 2025, 0]), (.ifCond .ne 4, 3, []), (.return_, 1, [])] 0 _ _ h (by decide +kernel)).trans rfl
theorem en_209 (x0 : Nat) (x1 : Nat) (h : am_H) : am_call am_ms 209 [am_R x0, am_R x1] h = am_run am_ms 209 0 [am_R x0, am_R x1, am_K 1] [] h := rfl
set_option maxHeartbeats 4000000 in
theorem bk_209_8 (x0 : Nat) (x1 : Nat) (h : am_H) : am_run am_ms 209 8 [am_R x0, am_R x1, am_K 1] [] h = ((am_gfI h x0 2 2).bind fun f1 => ((am_pf h x0 2 2 (am_I (am_w (f1 - 1)))).bind fun h2 => ((am_gfR h2 x0 2 0).bind fun f3 => ((am_gfI h2 x0 2 2).bind fun f4 => ((am_isc h2 x0 2).bind fun _ => ((am_cI 158 [am_R x0, am_I f4] h2).bind fun r5 => ((am_rr r5.2 f3 r5.1).bind fun r6 => match r6 with
      | none => none
      | some b7 => am_run am_ms 209 32 [am_R x0, am_R x1, am_R b7] [] r5.2))))))) :=
  (am_xs_run am_ms 209 [(.aload_n 0, 1, []), (.dup, 1, []), (.getfield 19, 3, [2, 2, 2025, 0]), (.iconst 1, 1, []), (.isub, 1, []), (.putfield 19, 3, [2, 2, 2025, 0]), (.aload_n 0, 1, []), (.getfield 11, 3, [2, 0, 2023, 3]), (.aload_n 0, 1, []), (.aload_n 0, 1, []), (.getfield 19, 3, [2, 2, 2025, 0]), (.invokevirtual 22, 3, [0, 158, 2, 2, 1, 4013, 4015, 29]), (.aaload, 1, []), (.astore_n 2, 1, [])] 8 _ _ h (by decide +kernel)).trans rfl
set_option maxHeartbeats 4000000 in
theorem bk_209_32 (x0 : Nat) (x1 : Nat) (x2 : Nat) (h : am_H) : am_run am_ms 209 32 [am_R x0, am_R x1, am_R x2] [] h = ((am_isc h x1 1).bind fun _ => ((am_cV 77 [am_R x1, am_R x2] h).bind fun h1 => am_run am_ms 209 41 [am_R x0, am_R x1, am_R x2] [] h1)) :=
  (am_xs_run am_ms 209 [(.aload_n 2, 1, []), (.ifnull 8, 3, []), (.aload_n 1, 1, []), (.aload_n 2, 1, []), (.invokevirtual 27, 3, [0, 77, 2, 1, 0, 4022, 3083, 3084])] 32 _ _ h (by decide +kernel)).trans rfl
set_option maxHeartbeats 4000000 in
theorem bk_209_41 (x0 : Nat) (x1 : Nat) (x2 : Nat) (h : am_H) : am_run am_ms 209 41 [am_R x0, am_R x1, am_R x2] [] h = some (none, h) :=
  (am_xs_run am_ms 209 [(.return_, 1, [])] 41 _ _ h (by decide +kernel)).trans rfl
set_option maxHeartbeats 4000000 in
theorem bk_210_0 (x0 : Nat) (h : am_H) : am_run am_ms 210 0 [am_R x0] [] h = ((am_gfR h x0 8 9).bind fun f1 => ((am_gfI h f1 2 2).bind fun f2 => (bif decide (¬ f2 = 0) then am_run am_ms 210 12 [am_R x0] [] h else some (some (am_I (-1)), h)))) :=
  (am_xs_run am_ms 210 [(.aload_n 0, 1, []), (.getfield 56, 3, [8, 9, 2046, 3]), (.getfield 248, 3, [2, 2, 2026, 0]), (.ifCond .ne 5, 3, []), (.iconst (-1), 1, []), (.ireturn, 1, [0])] 0 _ _ h (by decide +kernel)).trans rfl
theorem en_210 (x0 : Nat) (h : am_H) : am_call am_ms 210 [am_R x0] h = am_run am_ms 210 0 [am_R x0] [] h := rfl
set_option maxHeartbeats 4000000 in
theorem bk_210_12 (x0 : Nat) (h : am_H) : am_run am_ms 210 12 [am_R x0] [] h = ((am_gfR h x0 8 9).bind fun f1 => ((am_gfR h x0 8 4).bind fun f2 => ((am_isc h f1 2).bind fun _ => ((am_cV 209 [am_R f1, am_R f2] h).bind fun h3 => ((am_gfR h3 x0 8 9).bind fun f4 => ((am_gfI h3 f4 2 2).bind fun f5 => some (some (am_I f5), h3))))))) :=
  (am_xs_run am_ms 210 [(.aload_n 0, 1, []), (.getfield 56, 3, [8, 9, 2046, 3]), (.aload_n 0, 1, []), (.getfield 34, 3, [8, 4, 2041, 3]), (.invokevirtual 251, 3, [0, 209, 2, 2, 0, 4121, 4122, 4123]), (.aload_n 0, 1, []), (.getfield 56, 3, [8, 9, 2046, 3]), (.getfield 248, 3, [2, 2, 2026, 0]), (.ireturn, 1, [0])] 12 _ _ h (by decide +kernel)).trans rfl
set_option maxHeartbeats 4000000 in
theorem bk_211_0 (x0 : Nat) (h : am_H) : am_run am_ms 211 0 [am_R x0] [] h = ((am_pf h x0 9 0 (am_I 0)).bind fun h1 => ((am_gfI h1 x0 9 21).bind fun f2 => (bif decide (¬ f2 = 0) then am_run am_ms 211 14 [am_R x0] [] h1 else some (some (am_I (-1)), h1)))) :=
  (am_xs_run am_ms 211 [(.aload_n 0, 1, []), (.iconst 0, 1, []), (.putfield 53, 3, [9, 0, 5183, 0]), (.aload_n 0, 1, []), (.getfield 165, 3, [9, 21, 5204, 0]), (.ifCond .ne 5, 3, []), (.iconst (-1), 1, []), (.ireturn, 1, [0])] 0 _ _ h (by decide +kernel)).trans rfl
theorem en_211 (x0 : Nat) (h : am_H) : am_call am_ms 211 [am_R x0] h = am_run am_ms 211 0 [am_R x0] [] h := rfl
set_option maxHeartbeats 4000000 in
theorem bk_211_14 (x0 : Nat) (h : am_H) : am_run am_ms 211 14 [am_R x0] [] h = ((am_gfI h x0 9 21).bind fun f1 => ((am_pf h x0 9 21 (am_I (am_w (f1 - 1)))).bind fun h2 => ((am_gfR h2 x0 9 19).bind fun f3 => ((am_gfI h2 x0 9 20).bind fun f4 => ((am_gfI h2 x0 9 21).bind fun f5 => am_run am_ms 211 40 [am_R x0] [am_I (am_w (f4 + f5)), am_I 609, am_R f3] h2))))) :=
  (am_xs_run am_ms 211 [(.aload_n 0, 1, []), (.dup, 1, []), (.getfield 165, 3, [9, 21, 5204, 0]), (.iconst 1, 1, []), (.isub, 1, []), (.putfield 165, 3, [9, 21, 5204, 0]), (.aload_n 0, 1, []), (.getfield 44, 3, [9, 19, 5202, 3]), (.sipush 609, 3, []), (.aload_n 0, 1, []), (.getfield 281, 3, [9, 20, 5203, 0]), (.aload_n 0, 1, []), (.getfield 165, 3, [9, 21, 5204, 0]), (.iadd, 1, [])] 14 _ _ h (by decide +kernel)).trans rfl
set_option maxHeartbeats 4000000 in
theorem bk_211_40 (x0 : Nat) (y0 : Int) (y1 : Int) (y2 : Nat) (h : am_H) : am_run am_ms 211 40 [am_R x0] [am_I y0, am_I y1, am_R y2] h = (if 40 = 0 then none else ((am_gfR h x0 9 15).bind fun f1 => ((am_cV 108 [am_R y2, am_I (am_w (y1 * (am_rem y0 40))), am_R f1, am_I 0] h).bind fun h2 => ((am_gfI h2 x0 9 21).bind fun f3 => some (some (am_I f3), h2))))) :=
  (am_xs_run am_ms 211 [(.bipush 40, 2, []), (.irem, 1, []), (.imul, 1, []), (.aload_n 0, 1, []), (.getfield 32, 3, [9, 15, 5198, 3]), (.iconst 0, 1, []), (.invokestatic 259, 3, [1, 108, 4, 0, 0, 6155, 6156]), (.aload_n 0, 1, []), (.getfield 165, 3, [9, 21, 5204, 0]), (.ireturn, 1, [0])] 40 _ _ h (by decide +kernel)).trans rfl
set_option maxHeartbeats 4000000 in
theorem bk_212_0 (x0 : Nat) (x1 : Int) (x2 : Int) (h : am_H) : am_run am_ms 212 0 [am_R x0, am_I x1, am_I x2, am_K 1] [] h = (bif decide (x1 < 0) then am_run am_ms 212 12 [am_R x0, am_I x1, am_I x2, am_K 1] [] h else ((am_gfI h x0 3 4).bind fun f1 => (bif decide (x1 < f1) then am_run am_ms 212 15 [am_R x0, am_I x1, am_I x2, am_K 1] [] h else am_run am_ms 212 12 [am_R x0, am_I x1, am_I x2, am_K 1] [] h))) :=
  (am_xs_run am_ms 212 [(.iload_n 1, 1, []), (.ifCond .lt 11, 3, []), (.iload_n 1, 1, []), (.aload_n 0, 1, []), (.getfield 25, 3, [3, 4, 1133, 0]), (.if_icmp .lt 6, 3, [])] 0 _ _ h (by decide +kernel)).trans rfl
theorem en_212 (x0 : Nat) (x1 : Int) (x2 : Int) (h : am_H) : am_call am_ms 212 [am_R x0, am_I x1, am_I x2] h = am_run am_ms 212 0 [am_R x0, am_I x1, am_I x2, am_K 1] [] h := rfl
set_option maxHeartbeats 4000000 in
theorem bk_212_12 (x0 : Nat) (x1 : Int) (x2 : Int) (h : am_H) : am_run am_ms 212 12 [am_R x0, am_I x1, am_I x2, am_K 1] [] h = some (some (am_I (-1000000)), h) :=
  (am_xs_run am_ms 212 [(.ldc 28, 2, [0, -1000000, 4133]), (.ireturn, 1, [0])] 12 _ _ h (by decide +kernel)).trans rfl
set_option maxHeartbeats 4000000 in
theorem bk_212_15 (x0 : Nat) (x1 : Int) (x2 : Int) (h : am_H) : am_run am_ms 212 15 [am_R x0, am_I x1, am_I x2, am_K 1] [] h = ((am_gfI h x0 3 3).bind fun f1 => (if 60 = 0 then none else am_run am_ms 212 31 [am_R x0, am_I x1, am_I x2, am_I (am_rem (am_w ((am_w ((am_w (f1 - 1)) - x1)) + 60)) 60)] [am_I x2] h)) :=
  (am_xs_run am_ms 212 [(.aload_n 0, 1, []), (.getfield 21, 3, [3, 3, 1132, 0]), (.iconst 1, 1, []), (.isub, 1, []), (.iload_n 1, 1, []), (.isub, 1, []), (.bipush 60, 2, []), (.iadd, 1, []), (.bipush 60, 2, []), (.irem, 1, []), (.istore_n 3, 1, []), (.iload_n 2, 1, [])] 15 _ _ h (by decide +kernel)).trans rfl
theorem bk_212_31 (x0 : Nat) (x1 : Int) (x2 : Int) (x3 : Int) (y0 : Int) (h : am_H) : am_run am_ms 212 31 [am_R x0, am_I x1, am_I x2, am_I x3] [am_I y0] h = am_run am_ms 212 (am_tsw 31 46 0 2 #[25, 32, 39] y0) [am_R x0, am_I x1, am_I x2, am_I x3] [] h := by
  rw [am_run_eq, show am_code am_ms 212 31 = some (.tableswitch 46 0 2 #[25, 32, 39], 25, []) from by decide +kernel]
  rfl
set_option maxHeartbeats 4000000 in
theorem bk_212_56 (x0 : Nat) (x1 : Int) (x2 : Int) (x3 : Int) (h : am_H) : am_run am_ms 212 56 [am_R x0, am_I x1, am_I x2, am_I x3] [] h = ((am_gfR h x0 3 0).bind fun f1 => ((am_rd h f1 0 x3).bind fun v2 => some (some (am_I v2), h))) :=
  (am_xs_run am_ms 212 [(.aload_n 0, 1, []), (.getfield 11, 3, [3, 0, 1129, 3]), (.iload_n 3, 1, []), (.iaload, 1, []), (.ireturn, 1, [0])] 56 _ _ h (by decide +kernel)).trans rfl
set_option maxHeartbeats 4000000 in
theorem bk_212_63 (x0 : Nat) (x1 : Int) (x2 : Int) (x3 : Int) (h : am_H) : am_run am_ms 212 63 [am_R x0, am_I x1, am_I x2, am_I x3] [] h = ((am_gfR h x0 3 1).bind fun f1 => ((am_rd h f1 0 x3).bind fun v2 => some (some (am_I v2), h))) :=
  (am_xs_run am_ms 212 [(.aload_n 0, 1, []), (.getfield 15, 3, [3, 1, 1130, 3]), (.iload_n 3, 1, []), (.iaload, 1, []), (.ireturn, 1, [0])] 63 _ _ h (by decide +kernel)).trans rfl
set_option maxHeartbeats 4000000 in
theorem bk_212_70 (x0 : Nat) (x1 : Int) (x2 : Int) (x3 : Int) (h : am_H) : am_run am_ms 212 70 [am_R x0, am_I x1, am_I x2, am_I x3] [] h = ((am_gfR h x0 3 2).bind fun f1 => ((am_rd h f1 0 x3).bind fun v2 => some (some (am_I v2), h))) :=
  (am_xs_run am_ms 212 [(.aload_n 0, 1, []), (.getfield 18, 3, [3, 2, 1131, 3]), (.iload_n 3, 1, []), (.iaload, 1, []), (.ireturn, 1, [0])] 70 _ _ h (by decide +kernel)).trans rfl
set_option maxHeartbeats 4000000 in
theorem bk_212_77 (x0 : Nat) (x1 : Int) (x2 : Int) (x3 : Int) (h : am_H) : am_run am_ms 212 77 [am_R x0, am_I x1, am_I x2, am_I x3] [] h = some (some (am_I (-1000000)), h) :=
  (am_xs_run am_ms 212 [(.ldc 28, 2, [0, -1000000, 4133]), (.ireturn, 1, [0])] 77 _ _ h (by decide +kernel)).trans rfl
set_option maxHeartbeats 4000000 in
theorem bk_213_0 (x0 : Nat) (x1 : Int) (x2 : Int) (h : am_H) : am_run am_ms 213 0 [am_R x0, am_I x1, am_I x2] [] h = ((am_gfR h x0 8 4).bind fun f1 => ((am_gfR h f1 1 13).bind fun f2 => ((am_isc h f2 3).bind fun _ => ((am_cI 212 [am_R f2, am_I x1, am_I x2] h).bind fun r3 => some (some (am_I r3.1), r3.2))))) :=
  (am_xs_run am_ms 213 [(.aload_n 0, 1, []), (.getfield 34, 3, [8, 4, 2041, 3]), (.getfield 254, 3, [1, 13, 1179, 3]), (.iload_n 1, 1, []), (.iload_n 2, 1, []), (.invokevirtual 258, 3, [0, 212, 3, 3, 1, 4129, 4130, 4131]), (.ireturn, 1, [0])] 0 _ _ h (by decide +kernel)).trans rfl
theorem en_213 (x0 : Nat) (x1 : Int) (x2 : Int) (h : am_H) : am_call am_ms 213 [am_R x0, am_I x1, am_I x2] h = am_run am_ms 213 0 [am_R x0, am_I x1, am_I x2] [] h := rfl
set_option maxHeartbeats 4000000 in
theorem bk_214_0 (x0 : Nat) (x1 : Int) (x2 : Int) (h : am_H) : am_run am_ms 214 0 [am_R x0, am_I x1, am_I x2] [] h = ((am_pf h x0 9 0 (am_I 0)).bind fun h1 => (bif decide (x1 < 0) then am_run am_ms 214 33 [am_R x0, am_I x1, am_I x2] [] h1 else ((am_gfR h1 x0 9 15).bind fun f2 => ((am_rd h1 f2 0 428).bind fun v3 => (bif decide (v3 ≤ x1) then am_run am_ms 214 33 [am_R x0, am_I x1, am_I x2] [] h1 else am_run am_ms 214 24 [am_R x0, am_I x1, am_I x2] [am_L 0, am_L x2] h1))))) :=
  (am_xs_run am_ms 214 [(.aload_n 0, 1, []), (.iconst 0, 1, []), (.putfield 53, 3, [9, 0, 5183, 0]), (.iload_n 1, 1, []), (.ifCond .lt 27, 3, []), (.iload_n 1, 1, []), (.aload_n 0, 1, []), (.getfield 32, 3, [9, 15, 5198, 3]), (.sipush 428, 3, []), (.iaload, 1, []), (.if_icmp .ge 15, 3, []), (.iload_n 2, 1, []), (.i2l, 1, []), (.lconst 0, 1, [])] 0 _ _ h (by decide +kernel)).trans rfl
theorem en_214 (x0 : Nat) (x1 : Int) (x2 : Int) (h : am_H) : am_call am_ms 214 [am_R x0, am_I x1, am_I x2] h = am_run am_ms 214 0 [am_R x0, am_I x1, am_I x2] [] h := rfl
set_option maxHeartbeats 4000000 in
theorem bk_214_24 (x0 : Nat) (x1 : Int) (x2 : Int) (y0 : Int) (y1 : Int) (h : am_H) : am_run am_ms 214 24 [am_R x0, am_I x1, am_I x2] [am_L y0, am_L y1] h = ((am_cI 40 [am_L y1, am_L y0, am_L 2] h).bind fun r1 => (bif decide (¬ r1.1 = 0) then am_run am_ms 214 37 [am_R x0, am_I x1, am_I x2] [] r1.2 else am_run am_ms 214 33 [am_R x0, am_I x1, am_I x2] [] r1.2)) :=
  (am_xs_run am_ms 214 [(.ldc2_w 348, 3, [0, 2, 7148]), (.invokestatic 96, 3, [1, 40, 3, 0, 1, 6060, 6061]), (.ifCond .ne 7, 3, [])] 24 _ _ h (by decide +kernel)).trans rfl
set_option maxHeartbeats 4000000 in
theorem bk_214_33 (x0 : Nat) (x1 : Int) (x2 : Int) (h : am_H) : am_run am_ms 214 33 [am_R x0, am_I x1, am_I x2] [] h = some (some (am_I (-1000000)), h) :=
  (am_xs_run am_ms 214 [(.ldc_w 350, 3, [0, -1000000, 7149]), (.ireturn, 1, [0])] 33 _ _ h (by decide +kernel)).trans rfl
set_option maxHeartbeats 4000000 in
theorem bk_214_37 (x0 : Nat) (x1 : Int) (x2 : Int) (h : am_H) : am_run am_ms 214 37 [am_R x0, am_I x1, am_I x2] [] h = ((am_gfR h x0 9 15).bind fun f1 => ((am_gfR h x0 9 15).bind fun f2 => ((am_rd h f2 0 428).bind fun v3 => am_run am_ms 214 59 [am_R x0, am_I x1, am_I x2] [am_I (am_w (429 + (am_w (3 * (am_w ((am_w (v3 - 1)) - x1)))))), am_R f1] h))) :=
  (am_xs_run am_ms 214 [(.aload_n 0, 1, []), (.getfield 32, 3, [9, 15, 5198, 3]), (.sipush 429, 3, []), (.iconst 3, 1, []), (.aload_n 0, 1, []), (.getfield 32, 3, [9, 15, 5198, 3]), (.sipush 428, 3, []), (.iaload, 1, []), (.iconst 1, 1, []), (.isub, 1, []), (.iload_n 1, 1, []), (.isub, 1, []), (.imul, 1, []), (.iadd, 1, [])] 37 _ _ h (by decide +kernel)).trans rfl
set_option maxHeartbeats 4000000 in
theorem bk_214_59 (x0 : Nat) (x1 : Int) (x2 : Int) (y0 : Int) (y1 : Nat) (h : am_H) : am_run am_ms 214 59 [am_R x0, am_I x1, am_I x2] [am_I y0, am_R y1] h = ((am_rd h y1 0 (am_w (y0 + x2))).bind fun v1 => some (some (am_I v1), h)) :=
  (am_xs_run am_ms 214 [(.iload_n 2, 1, []), (.iadd, 1, []), (.iaload, 1, []), (.ireturn, 1, [0])] 59 _ _ h (by decide +kernel)).trans rfl
set_option maxHeartbeats 4000000 in
theorem bk_215_0 (x0 : Nat) (x1 : Int) (h : am_H) : am_run am_ms 215 0 [am_R x0, am_I x1] [] h = (bif decide (x1 < 0) then am_run am_ms 215 16 [am_R x0, am_I x1] [] h else ((am_gfI h x0 8 3).bind fun f1 => (bif decide (f1 ≤ x1) then am_run am_ms 215 16 [am_R x0, am_I x1] [] h else am_run am_ms 215 17 [am_R x0, am_I x1] [am_I 1] h))) :=
  (am_xs_run am_ms 215 [(.iload_n 1, 1, []), (.ifCond .lt 15, 3, []), (.iload_n 1, 1, []), (.aload_n 0, 1, []), (.getfield 125, 3, [8, 3, 2040, 0]), (.if_icmp .ge 7, 3, []), (.iconst 1, 1, []), (.goto 4, 3, [])] 0 _ _ h (by decide +kernel)).trans rfl
theorem en_215 (x0 : Nat) (x1 : Int) (h : am_H) : am_call am_ms 215 [am_R x0, am_I x1] h = am_run am_ms 215 0 [am_R x0, am_I x1] [] h := rfl
set_option maxHeartbeats 4000000 in
theorem bk_215_16 (x0 : Nat) (x1 : Int) (h : am_H) : am_run am_ms 215 16 [am_R x0, am_I x1] [] h = am_run am_ms 215 17 [am_R x0, am_I x1] [am_I 0] h :=
  (am_xs_run am_ms 215 [(.iconst 0, 1, [])] 16 _ _ h (by decide +kernel)).trans rfl
set_option maxHeartbeats 4000000 in
theorem bk_215_17 (x0 : Nat) (x1 : Int) (y0 : Int) (h : am_H) : am_run am_ms 215 17 [am_R x0, am_I x1] [am_I y0] h = (bif am_rok 1 y0 then some (some (am_I y0), h) else none) :=
  (am_xs_run am_ms 215 [(.ireturn, 1, [1])] 17 _ _ h (by decide +kernel)).trans rfl
set_option maxHeartbeats 4000000 in
theorem bk_216_0 (x0 : Nat) (x1 : Int) (x2 : Int) (h : am_H) : am_run am_ms 216 0 [am_R x0, am_I x1, am_I x2] [] h = (bif decide (x1 < 0) then am_run am_ms 216 12 [am_R x0, am_I x1, am_I x2] [] h else ((am_gfI h x0 5 3).bind fun f1 => (bif decide (x1 < f1) then am_run am_ms 216 15 [am_R x0, am_I x1, am_I x2] [] h else am_run am_ms 216 12 [am_R x0, am_I x1, am_I x2] [] h))) :=
  (am_xs_run am_ms 216 [(.iload_n 1, 1, []), (.ifCond .lt 11, 3, []), (.iload_n 1, 1, []), (.aload_n 0, 1, []), (.getfield 21, 3, [5, 3, 1067, 0]), (.if_icmp .lt 6, 3, [])] 0 _ _ h (by decide +kernel)).trans rfl
theorem en_216 (x0 : Nat) (x1 : Int) (x2 : Int) (h : am_H) : am_call am_ms 216 [am_R x0, am_I x1, am_I x2] h = am_run am_ms 216 0 [am_R x0, am_I x1, am_I x2] [] h := rfl
set_option maxHeartbeats 4000000 in
theorem bk_216_12 (x0 : Nat) (x1 : Int) (x2 : Int) (h : am_H) : am_run am_ms 216 12 [am_R x0, am_I x1, am_I x2] [] h = some (some (am_I (-1000000)), h) :=
  (am_xs_run am_ms 216 [(.ldc 25, 2, [0, -1000000, 4146]), (.ireturn, 1, [0])] 12 _ _ h (by decide +kernel)).trans rfl
set_option maxHeartbeats 4000000 in
theorem bk_216_15 (x0 : Nat) (x1 : Int) (x2 : Int) (h : am_H) : am_run am_ms 216 15 [am_R x0, am_I x1, am_I x2] [] h = am_run am_ms 216 16 [am_R x0, am_I x1, am_I x2] [am_I x2] h :=
  (am_xs_run am_ms 216 [(.iload_n 2, 1, [])] 15 _ _ h (by decide +kernel)).trans rfl
theorem bk_216_16 (x0 : Nat) (x1 : Int) (x2 : Int) (y0 : Int) (h : am_H) : am_run am_ms 216 16 [am_R x0, am_I x1, am_I x2] [am_I y0] h = am_run am_ms 216 (am_tsw 16 49 0 2 #[28, 35, 42] y0) [am_R x0, am_I x1, am_I x2] [] h := by
  rw [am_run_eq, show am_code am_ms 216 16 = some (.tableswitch 49 0 2 #[28, 35, 42], 28, []) from by decide +kernel]
  rfl
set_option maxHeartbeats 4000000 in
theorem bk_216_44 (x0 : Nat) (x1 : Int) (x2 : Int) (h : am_H) : am_run am_ms 216 44 [am_R x0, am_I x1, am_I x2] [] h = ((am_gfR h x0 5 0).bind fun f1 => ((am_rd h f1 0 x1).bind fun v2 => some (some (am_I v2), h))) :=
  (am_xs_run am_ms 216 [(.aload_n 0, 1, []), (.getfield 9, 3, [5, 0, 1061, 3]), (.iload_n 1, 1, []), (.iaload, 1, []), (.ireturn, 1, [0])] 44 _ _ h (by decide +kernel)).trans rfl
set_option maxHeartbeats 4000000 in
theorem bk_216_51 (x0 : Nat) (x1 : Int) (x2 : Int) (h : am_H) : am_run am_ms 216 51 [am_R x0, am_I x1, am_I x2] [] h = ((am_gfR h x0 5 1).bind fun f1 => ((am_rd h f1 0 x1).bind fun v2 => some (some (am_I v2), h))) :=
  (am_xs_run am_ms 216 [(.aload_n 0, 1, []), (.getfield 15, 3, [5, 1, 1063, 3]), (.iload_n 1, 1, []), (.iaload, 1, []), (.ireturn, 1, [0])] 51 _ _ h (by decide +kernel)).trans rfl
set_option maxHeartbeats 4000000 in
theorem bk_216_58 (x0 : Nat) (x1 : Int) (x2 : Int) (h : am_H) : am_run am_ms 216 58 [am_R x0, am_I x1, am_I x2] [] h = ((am_gfR h x0 5 2).bind fun f1 => ((am_rd h f1 0 x1).bind fun v2 => some (some (am_I v2), h))) :=
  (am_xs_run am_ms 216 [(.aload_n 0, 1, []), (.getfield 18, 3, [5, 2, 1065, 3]), (.iload_n 1, 1, []), (.iaload, 1, []), (.ireturn, 1, [0])] 58 _ _ h (by decide +kernel)).trans rfl
set_option maxHeartbeats 4000000 in
theorem bk_216_65 (x0 : Nat) (x1 : Int) (x2 : Int) (h : am_H) : am_run am_ms 216 65 [am_R x0, am_I x1, am_I x2] [] h = some (some (am_I (-1000000)), h) :=
  (am_xs_run am_ms 216 [(.ldc 25, 2, [0, -1000000, 4146]), (.ireturn, 1, [0])] 65 _ _ h (by decide +kernel)).trans rfl
set_option maxHeartbeats 4000000 in
theorem bk_217_0 (x0 : Nat) (x1 : Int) (x2 : Int) (x3 : Int) (h : am_H) : am_run am_ms 217 0 [am_R x0, am_I x1, am_I x2, am_I x3] [] h = ((am_isc h x0 8).bind fun _ => ((am_cI 215 [am_R x0, am_I x1] h).bind fun r1 => (bif decide (r1.1 = 0) then am_run am_ms 217 22 [am_R x0, am_I x1, am_I x2, am_I x3] [] r1.2 else ((am_gfR r1.2 x0 8 2).bind fun f2 => ((am_rr r1.2 f2 x1).bind fun r3 => match r3 with
      | none => none
      | some b4 => ((am_isc r1.2 b4 5).bind fun _ => ((am_cI 216 [am_R b4, am_I x2, am_I x3] r1.2).bind fun r5 => am_run am_ms 217 24 [am_R x0, am_I x1, am_I x2, am_I x3] [am_I r5.1] r5.2))))))) :=
  (am_xs_run am_ms 217 [(.aload_n 0, 1, []), (.iload_n 1, 1, []), (.invokevirtual 263, 3, [0, 215, 2, 8, 1, 4138, 4140, 33]), (.ifCond .eq 17, 3, []), (.aload_n 0, 1, []), (.getfield 27, 3, [8, 2, 2039, 3]), (.iload_n 1, 1, []), (.aaload, 1, []), (.iload_n 2, 1, []), (.iload_n 3, 1, []), (.invokevirtual 266, 3, [0, 216, 3, 5, 1, 4142, 4143, 4144]), (.goto 5, 3, [])] 0 _ _ h (by decide +kernel)).trans rfl
theorem en_217 (x0 : Nat) (x1 : Int) (x2 : Int) (x3 : Int) (h : am_H) : am_call am_ms 217 [am_R x0, am_I x1, am_I x2, am_I x3] h = am_run am_ms 217 0 [am_R x0, am_I x1, am_I x2, am_I x3] [] h := rfl
set_option maxHeartbeats 4000000 in
theorem bk_217_22 (x0 : Nat) (x1 : Int) (x2 : Int) (x3 : Int) (h : am_H) : am_run am_ms 217 22 [am_R x0, am_I x1, am_I x2, am_I x3] [] h = am_run am_ms 217 24 [am_R x0, am_I x1, am_I x2, am_I x3] [am_I (-1000000)] h :=
  (am_xs_run am_ms 217 [(.ldc 172, 2, [0, -1000000, 3211])] 22 _ _ h (by decide +kernel)).trans rfl
set_option maxHeartbeats 4000000 in
theorem bk_217_24 (x0 : Nat) (x1 : Int) (x2 : Int) (x3 : Int) (y0 : Int) (h : am_H) : am_run am_ms 217 24 [am_R x0, am_I x1, am_I x2, am_I x3] [am_I y0] h = some (some (am_I y0), h) :=
  (am_xs_run am_ms 217 [(.ireturn, 1, [0])] 24 _ _ h (by decide +kernel)).trans rfl
set_option maxHeartbeats 4000000 in
theorem bk_218_0 (x0 : Nat) (x1 : Int) (h : am_H) : am_run am_ms 218 0 [am_R x0, am_I x1] [] h = ((am_gfI h x0 9 12).bind fun f1 => ((am_cI 40 [am_L x1, am_L 0, am_L (am_w (f1 - 1))] h).bind fun r2 => (bif am_rok 1 r2.1 then some (some (am_I r2.1), r2.2) else none))) :=
  (am_xs_run am_ms 218 [(.iload_n 1, 1, []), (.i2l, 1, []), (.lconst 0, 1, []), (.aload_n 0, 1, []), (.getfield 150, 3, [9, 12, 5195, 0]), (.iconst 1, 1, []), (.isub, 1, []), (.i2l, 1, []), (.invokestatic 96, 3, [1, 40, 3, 0, 1, 6060, 6061]), (.ireturn, 1, [1])] 0 _ _ h (by decide +kernel)).trans rfl
theorem en_218 (x0 : Nat) (x1 : Int) (h : am_H) : am_call am_ms 218 [am_R x0, am_I x1] h = am_run am_ms 218 0 [am_R x0, am_I x1] [] h := rfl
set_option maxHeartbeats 4000000 in
theorem bk_219_0 (x0 : Nat) (x1 : Int) (x2 : Int) (x3 : Int) (h : am_H) : am_run am_ms 219 0 [am_R x0, am_I x1, am_I x2, am_I x3] [] h = ((am_pf h x0 9 0 (am_I 0)).bind fun h1 => ((am_isc h1 x0 9).bind fun _ => ((am_cI 218 [am_R x0, am_I x1] h1).bind fun r2 => (bif decide (r2.1 = 0) then am_run am_ms 219 43 [am_R x0, am_I x1, am_I x2, am_I x3] [] r2.2 else ((am_gfR r2.2 x0 9 9).bind fun f3 => ((am_rd r2.2 f3 0 x1).bind fun v4 => am_run am_ms 219 22 [am_R x0, am_I x1, am_I x2, am_I x3] [am_I v4, am_L 0, am_L x2] r2.2)))))) :=
  (am_xs_run am_ms 219 [(.aload_n 0, 1, []), (.iconst 0, 1, []), (.putfield 53, 3, [9, 0, 5183, 0]), (.aload_n 0, 1, []), (.iload_n 1, 1, []), (.invokevirtual 358, 3, [0, 218, 2, 9, 1, 7189, 7191, 90]), (.ifCond .eq 33, 3, []), (.iload_n 2, 1, []), (.i2l, 1, []), (.lconst 0, 1, []), (.aload_n 0, 1, []), (.getfield 26, 3, [9, 9, 5192, 3]), (.iload_n 1, 1, []), (.iaload, 1, [])] 0 _ _ h (by decide +kernel)).trans rfl
theorem en_219 (x0 : Nat) (x1 : Int) (x2 : Int) (x3 : Int) (h : am_H) : am_call am_ms 219 [am_R x0, am_I x1, am_I x2, am_I x3] h = am_run am_ms 219 0 [am_R x0, am_I x1, am_I x2, am_I x3] [] h := rfl
set_option maxHeartbeats 4000000 in
theorem bk_219_22 (x0 : Nat) (x1 : Int) (x2 : Int) (x3 : Int) (y0 : Int) (y1 : Int) (y2 : Int) (h : am_H) : am_run am_ms 219 22 [am_R x0, am_I x1, am_I x2, am_I x3] [am_I y0, am_L y1, am_L y2] h = ((am_cI 40 [am_L y2, am_L y1, am_L (am_w (y0 - 1))] h).bind fun r1 => (bif decide (r1.1 = 0) then am_run am_ms 219 43 [am_R x0, am_I x1, am_I x2, am_I x3] [] r1.2 else ((am_cI 40 [am_L x3, am_L 0, am_L 2] r1.2).bind fun r2 => (bif decide (¬ r2.1 = 0) then am_run am_ms 219 47 [am_R x0, am_I x1, am_I x2, am_I x3] [] r2.2 else am_run am_ms 219 43 [am_R x0, am_I x1, am_I x2, am_I x3] [] r2.2)))) :=
  (am_xs_run am_ms 219 [(.iconst 1, 1, []), (.isub, 1, []), (.i2l, 1, []), (.invokestatic 96, 3, [1, 40, 3, 0, 1, 6060, 6061]), (.ifCond .eq 15, 3, []), (.iload_n 3, 1, []), (.i2l, 1, []), (.lconst 0, 1, []), (.ldc2_w 348, 3, [0, 2, 7148]), (.invokestatic 96, 3, [1, 40, 3, 0, 1, 6060, 6061]), (.ifCond .ne 7, 3, [])] 22 _ _ h (by decide +kernel)).trans rfl
set_option maxHeartbeats 4000000 in
theorem bk_219_43 (x0 : Nat) (x1 : Int) (x2 : Int) (x3 : Int) (h : am_H) : am_run am_ms 219 43 [am_R x0, am_I x1, am_I x2, am_I x3] [] h = some (some (am_I (-1000000)), h) :=
  (am_xs_run am_ms 219 [(.ldc_w 350, 3, [0, -1000000, 7149]), (.ireturn, 1, [0])] 43 _ _ h (by decide +kernel)).trans rfl
set_option maxHeartbeats 4000000 in
theorem bk_219_47 (x0 : Nat) (x1 : Int) (x2 : Int) (x3 : Int) (h : am_H) : am_run am_ms 219 47 [am_R x0, am_I x1, am_I x2, am_I x3] [] h = ((am_gfR h x0 9 8).bind fun f1 => ((am_rd h f1 0 (am_w ((am_w (3 * (am_w ((am_w (16 * x1)) + x2)))) + x3))).bind fun v2 => some (some (am_I v2), h))) :=
  (am_xs_run am_ms 219 [(.aload_n 0, 1, []), (.getfield 23, 3, [9, 8, 5191, 3]), (.iconst 3, 1, []), (.bipush 16, 2, []), (.iload_n 1, 1, []), (.imul, 1, []), (.iload_n 2, 1, []), (.iadd, 1, []), (.imul, 1, []), (.iload_n 3, 1, []), (.iadd, 1, []), (.iaload, 1, []), (.ireturn, 1, [0])] 47 _ _ h (by decide +kernel)).trans rfl
set_option maxHeartbeats 4000000 in
theorem bk_220_0 (x0 : Nat) (x1 : Nat) (x2 : Int) (x3 : Int) (x4 : Int) (h : am_H) : am_run am_ms 220 0 [am_R x0, am_R x1, am_I x2, am_I x3, am_I x4] [] h = am_run am_ms 220 1 [am_R x0, am_R x1, am_I x2, am_I x3, am_I x4] [am_I x2] h :=
  (am_xs_run am_ms 220 [(.iload_n 2, 1, [])] 0 _ _ h (by decide +kernel)).trans rfl
theorem en_220 (x0 : Nat) (x1 : Nat) (x2 : Int) (x3 : Int) (x4 : Int) (h : am_H) : am_call am_ms 220 [am_R x0, am_R x1, am_I x2, am_I x3, am_I x4] h = am_run am_ms 220 0 [am_R x0, am_R x1, am_I x2, am_I x3, am_I x4] [] h := rfl
theorem bk_220_1 (x0 : Nat) (x1 : Nat) (x2 : Int) (x3 : Int) (x4 : Int) (y0 : Int) (h : am_H) : am_run am_ms 220 1 [am_R x0, am_R x1, am_I x2, am_I x3, am_I x4] [am_I y0] h = am_run am_ms 220 (am_tsw 1 103 0 8 #[51, 51, 63, 68, 73, 79, 85, 91, 97] y0) [am_R x0, am_R x1, am_I x2, am_I x3, am_I x4] [] h := by
  rw [am_run_eq, show am_code am_ms 220 1 = some (.tableswitch 103 0 8 #[51, 51, 63, 68, 73, 79, 85, 91, 97], 51, []) from by decide +kernel]
  rfl
set_option maxHeartbeats 4000000 in
theorem bk_220_52 (x0 : Nat) (x1 : Nat) (x2 : Int) (x3 : Int) (x4 : Int) (h : am_H) : am_run am_ms 220 52 [am_R x0, am_R x1, am_I x2, am_I x3, am_I x4] [] h = ((am_gfR h x0 8 5).bind fun f1 => ((am_isc h x1 1).bind fun _ => ((am_cI 102 [am_R x1, am_I x3, am_I x4, am_R f1] h).bind fun r2 => some (some (am_I r2.1), r2.2)))) :=
  (am_xs_run am_ms 220 [(.aload_n 1, 1, []), (.iload_n 3, 1, []), (.iload 4, 2, []), (.aload_n 0, 1, []), (.getfield 38, 3, [8, 5, 2042, 3]), (.invokevirtual 120, 3, [0, 102, 4, 1, 1, 3050, 3051, 3052]), (.ireturn, 1, [0])] 52 _ _ h (by decide +kernel)).trans rfl
set_option maxHeartbeats 4000000 in
theorem bk_220_64 (x0 : Nat) (x1 : Nat) (x2 : Int) (x3 : Int) (x4 : Int) (h : am_H) : am_run am_ms 220 64 [am_R x0, am_R x1, am_I x2, am_I x3, am_I x4] [] h = ((am_isc h x1 1).bind fun _ => ((am_cI 176 [am_R x1] h).bind fun r1 => some (some (am_I r1.1), r1.2))) :=
  (am_xs_run am_ms 220 [(.aload_n 1, 1, []), (.invokevirtual 214, 3, [0, 176, 1, 1, 1, 4031, 4032, 4033]), (.ireturn, 1, [0])] 64 _ _ h (by decide +kernel)).trans rfl
set_option maxHeartbeats 4000000 in
theorem bk_220_69 (x0 : Nat) (x1 : Nat) (x2 : Int) (x3 : Int) (x4 : Int) (h : am_H) : am_run am_ms 220 69 [am_R x0, am_R x1, am_I x2, am_I x3, am_I x4] [] h = ((am_isc h x1 1).bind fun _ => ((am_cI 182 [am_R x1] h).bind fun r1 => some (some (am_I r1.1), r1.2))) :=
  (am_xs_run am_ms 220 [(.aload_n 1, 1, []), (.invokevirtual 217, 3, [0, 182, 1, 1, 1, 4039, 4040, 4041]), (.ireturn, 1, [0])] 69 _ _ h (by decide +kernel)).trans rfl
set_option maxHeartbeats 4000000 in
theorem bk_220_74 (x0 : Nat) (x1 : Nat) (x2 : Int) (x3 : Int) (x4 : Int) (h : am_H) : am_run am_ms 220 74 [am_R x0, am_R x1, am_I x2, am_I x3, am_I x4] [] h = ((am_isc h x1 1).bind fun _ => ((am_cI 185 [am_R x1, am_I x3] h).bind fun r1 => some (some (am_I r1.1), r1.2))) :=
  (am_xs_run am_ms 220 [(.aload_n 1, 1, []), (.iload_n 3, 1, []), (.invokevirtual 220, 3, [0, 185, 2, 1, 1, 4060, 4061, 4062]), (.ireturn, 1, [0])] 74 _ _ h (by decide +kernel)).trans rfl
set_option maxHeartbeats 4000000 in
theorem bk_220_80 (x0 : Nat) (x1 : Nat) (x2 : Int) (x3 : Int) (x4 : Int) (h : am_H) : am_run am_ms 220 80 [am_R x0, am_R x1, am_I x2, am_I x3, am_I x4] [] h = ((am_isc h x1 1).bind fun _ => ((am_cI 188 [am_R x1, am_I x3] h).bind fun r1 => some (some (am_I r1.1), r1.2))) :=
  (am_xs_run am_ms 220 [(.aload_n 1, 1, []), (.iload_n 3, 1, []), (.invokevirtual 223, 3, [0, 188, 2, 1, 1, 4068, 4069, 4070]), (.ireturn, 1, [0])] 80 _ _ h (by decide +kernel)).trans rfl
set_option maxHeartbeats 4000000 in
theorem bk_220_86 (x0 : Nat) (x1 : Nat) (x2 : Int) (x3 : Int) (x4 : Int) (h : am_H) : am_run am_ms 220 86 [am_R x0, am_R x1, am_I x2, am_I x3, am_I x4] [] h = ((am_isc h x1 1).bind fun _ => ((am_cI 191 [am_R x1, am_I x3] h).bind fun r1 => some (some (am_I r1.1), r1.2))) :=
  (am_xs_run am_ms 220 [(.aload_n 1, 1, []), (.iload_n 3, 1, []), (.invokevirtual 226, 3, [0, 191, 2, 1, 1, 4076, 4077, 4078]), (.ireturn, 1, [0])] 86 _ _ h (by decide +kernel)).trans rfl
set_option maxHeartbeats 4000000 in
theorem bk_220_92 (x0 : Nat) (x1 : Nat) (x2 : Int) (x3 : Int) (x4 : Int) (h : am_H) : am_run am_ms 220 92 [am_R x0, am_R x1, am_I x2, am_I x3, am_I x4] [] h = ((am_isc h x1 1).bind fun _ => ((am_cI 194 [am_R x1, am_I x3] h).bind fun r1 => some (some (am_I r1.1), r1.2))) :=
  (am_xs_run am_ms 220 [(.aload_n 1, 1, []), (.iload_n 3, 1, []), (.invokevirtual 229, 3, [0, 194, 2, 1, 1, 4084, 4085, 4086]), (.ireturn, 1, [0])] 92 _ _ h (by decide +kernel)).trans rfl
set_option maxHeartbeats 4000000 in
theorem bk_220_98 (x0 : Nat) (x1 : Nat) (x2 : Int) (x3 : Int) (x4 : Int) (h : am_H) : am_run am_ms 220 98 [am_R x0, am_R x1, am_I x2, am_I x3, am_I x4] [] h = ((am_isc h x1 1).bind fun _ => ((am_cI 198 [am_R x1, am_I x3] h).bind fun r1 => some (some (am_I r1.1), r1.2))) :=
  (am_xs_run am_ms 220 [(.aload_n 1, 1, []), (.iload_n 3, 1, []), (.invokevirtual 232, 3, [0, 198, 2, 1, 1, 4092, 4093, 4094]), (.ireturn, 1, [0])] 98 _ _ h (by decide +kernel)).trans rfl
set_option maxHeartbeats 4000000 in
theorem bk_220_104 (x0 : Nat) (x1 : Nat) (x2 : Int) (x3 : Int) (x4 : Int) (h : am_H) : am_run am_ms 220 104 [am_R x0, am_R x1, am_I x2, am_I x3, am_I x4] [] h = some (some (am_I (-1)), h) :=
  (am_xs_run am_ms 220 [(.iconst (-1), 1, []), (.ireturn, 1, [0])] 104 _ _ h (by decide +kernel)).trans rfl
set_option maxHeartbeats 4000000 in
theorem bk_221_0 (x0 : Nat) (h : am_H) : am_run am_ms 221 0 [am_R x0] [] h = ((am_gfR h x0 1 1).bind fun f1 => ((am_rd h f1 0 0).bind fun v2 => ((am_gfR h x0 1 1).bind fun f3 => ((am_rd h f3 0 1).bind fun v4 => some (some (am_I (am_w (v2 + v4))), h))))) :=
  (am_xs_run am_ms 221 [(.aload_n 0, 1, []), (.getfield 15, 3, [1, 1, 1150, 3]), (.iconst 0, 1, []), (.iaload, 1, []), (.aload_n 0, 1, []), (.getfield 15, 3, [1, 1, 1150, 3]), (.iconst 1, 1, []), (.iaload, 1, []), (.iadd, 1, []), (.ireturn, 1, [0])] 0 _ _ h (by decide +kernel)).trans rfl
theorem en_221 (x0 : Nat) (h : am_H) : am_call am_ms 221 [am_R x0] h = am_run am_ms 221 0 [am_R x0] [] h := rfl
set_option maxHeartbeats 4000000 in
theorem bk_222_0 (x0 : Nat) (x1 : Int) (x2 : Int) (h : am_H) : am_run am_ms 222 0 [am_R x0, am_I x1, am_I x2, am_K 1, am_K 1, am_K 1] [] h = ((am_isc h x0 8).bind fun _ => ((am_cI 215 [am_R x0, am_I x1] h).bind fun r1 => (bif decide (r1.1 = 0) then am_run am_ms 222 24 [am_R x0, am_I x1, am_I x2, am_K 1, am_K 1, am_K 1] [] r1.2 else ((am_isc r1.2 x0 8).bind fun _ => ((am_cI 137 [am_R x0] r1.2).bind fun r2 => (bif decide (r2.1 = 0) then am_run am_ms 222 24 [am_R x0, am_I x1, am_I x2, am_K 1, am_K 1, am_K 1] [] r2.2 else (bif decide (x2 < 0) then am_run am_ms 222 24 [am_R x0, am_I x1, am_I x2, am_K 1, am_K 1, am_K 1] [] r2.2 else (bif decide (x2 ≤ 1) then am_run am_ms 222 27 [am_R x0, am_I x1, am_I x2, am_K 1, am_K 1, am_K 1] [] r2.2 else am_run am_ms 222 24 [am_R x0, am_I x1, am_I x2, am_K 1, am_K 1, am_K 1] [] r2.2)))))))) :=
  (am_xs_run am_ms 222 [(.aload_n 0, 1, []), (.iload_n 1, 1, []), (.invokevirtual 263, 3, [0, 215, 2, 8, 1, 4138, 4140, 33]), (.ifCond .eq 19, 3, []), (.aload_n 0, 1, []), (.invokevirtual 136, 3, [0, 137, 1, 8, 1, 3202, 3204, 27]), (.ifCond .eq 12, 3, []), (.iload_n 2, 1, []), (.ifCond .lt 8, 3, []), (.iload_n 2, 1, []), (.iconst 1, 1, []), (.if_icmp .le 6, 3, [])] 0 _ _ h (by decide +kernel)).trans rfl
theorem en_222 (x0 : Nat) (x1 : Int) (x2 : Int) (h : am_H) : am_call am_ms 222 [am_R x0, am_I x1, am_I x2] h = am_run am_ms 222 0 [am_R x0, am_I x1, am_I x2, am_K 1, am_K 1, am_K 1] [] h := rfl
set_option maxHeartbeats 4000000 in
theorem bk_222_24 (x0 : Nat) (x1 : Int) (x2 : Int) (h : am_H) : am_run am_ms 222 24 [am_R x0, am_I x1, am_I x2, am_K 1, am_K 1, am_K 1] [] h = some (some (am_I (-1000000)), h) :=
  (am_xs_run am_ms 222 [(.ldc 172, 2, [0, -1000000, 3211]), (.ireturn, 1, [0])] 24 _ _ h (by decide +kernel)).trans rfl
set_option maxHeartbeats 4000000 in
theorem bk_222_27 (x0 : Nat) (x1 : Int) (x2 : Int) (h : am_H) : am_run am_ms 222 27 [am_R x0, am_I x1, am_I x2, am_K 1, am_K 1, am_K 1] [] h = ((am_gfR h x0 8 2).bind fun f1 => ((am_rr h f1 x1).bind fun r2 => match r2 with
      | none => none
      | some b3 => ((am_gfR h x0 8 8).bind fun f4 => ((am_gfR h f4 7 0).bind fun f5 => ((am_gfR h x0 8 4).bind fun f6 => ((am_isc h f5 1).bind fun _ => ((am_cV 77 [am_R f5, am_R f6] h).bind fun h7 => am_run am_ms 222 53 [am_R x0, am_I x1, am_I x2, am_R b3, am_R f5, am_K 1] [am_I 0] h7))))))) :=
  (am_xs_run am_ms 222 [(.aload_n 0, 1, []), (.getfield 27, 3, [8, 2, 2039, 3]), (.iload_n 1, 1, []), (.aaload, 1, []), (.astore_n 3, 1, []), (.aload_n 0, 1, []), (.getfield 49, 3, [8, 8, 2045, 3]), (.getfield 269, 3, [7, 0, 1230, 3]), (.astore 4, 2, []), (.aload 4, 2, []), (.aload_n 0, 1, []), (.getfield 34, 3, [8, 4, 2041, 3]), (.invokevirtual 272, 3, [0, 77, 2, 1, 0, 4151, 3083, 3084]), (.iconst 0, 1, [])] 27 _ _ h (by decide +kernel)).trans rfl
set_option maxHeartbeats 4000000 in
theorem bk_222_53 (x0 : Nat) (x1 : Int) (x2 : Int) (x3 : Nat) (x4 : Nat) (y0 : Int) (h : am_H) : am_run am_ms 222 53 [am_R x0, am_I x1, am_I x2, am_R x3, am_R x4, am_K 1] [am_I y0] h = am_run am_ms 222 55 [am_R x0, am_I x1, am_I x2, am_R x3, am_R x4, am_I y0] [] h :=
  (am_xs_run am_ms 222 [(.istore 5, 2, [])] 53 _ _ h (by decide +kernel)).trans rfl
set_option maxHeartbeats 4000000 in
theorem bk_222_55 (x0 : Nat) (x1 : Int) (x2 : Int) (x3 : Nat) (x4 : Nat) (x5 : Int) (h : am_H) : am_run am_ms 222 55 [am_R x0, am_I x1, am_I x2, am_R x3, am_R x4, am_I x5] [] h = ((am_gfI h x3 5 3).bind fun f1 => (bif decide (f1 ≤ x5) then am_run am_ms 222 100 [am_R x0, am_I x1, am_I x2, am_R x3, am_R x4, am_I x5] [] h else ((am_gfR h x3 5 0).bind fun f2 => ((am_rd h f2 0 x5).bind fun v3 => ((am_gfR h x3 5 1).bind fun f4 => ((am_rd h f4 0 x5).bind fun v5 => am_run am_ms 222 81 [am_R x0, am_I x1, am_I x2, am_R x3, am_R x4, am_I x5] [am_I v5, am_I v3, am_R x4, am_R x0] h)))))) :=
  (am_xs_run am_ms 222 [(.iload 5, 2, []), (.aload_n 3, 1, []), (.getfield 274, 3, [5, 3, 1069, 0]), (.if_icmp .ge 39, 3, []), (.aload_n 0, 1, []), (.aload 4, 2, []), (.aload_n 3, 1, []), (.getfield 275, 3, [5, 0, 1062, 3]), (.iload 5, 2, []), (.iaload, 1, []), (.aload_n 3, 1, []), (.getfield 278, 3, [5, 1, 1064, 3]), (.iload 5, 2, []), (.iaload, 1, [])] 55 _ _ h (by decide +kernel)).trans rfl
set_option maxHeartbeats 4000000 in
theorem bk_222_81 (x0 : Nat) (x1 : Int) (x2 : Int) (x3 : Nat) (x4 : Nat) (x5 : Int) (y0 : Int) (y1 : Int) (y2 : Nat) (y3 : Nat) (h : am_H) : am_run am_ms 222 81 [am_R x0, am_I x1, am_I x2, am_R x3, am_R x4, am_I x5] [am_I y0, am_I y1, am_R y2, am_R y3] h = ((am_gfR h x3 5 2).bind fun f1 => ((am_rd h f1 0 x5).bind fun v2 => ((am_isc h y3 8).bind fun _ => ((am_cI 220 [am_R y3, am_R y2, am_I y1, am_I y0, am_I v2] h).bind fun r3 => (bif decide (r3.1 < 0) then am_run am_ms 222 100 [am_R x0, am_I x1, am_I x2, am_R x3, am_R x4, am_I x5] [] r3.2 else am_run am_ms 222 55 [am_R x0, am_I x1, am_I x2, am_R x3, am_R x4, am_I (am_w (x5 + 1))] [] r3.2))))) :=
  (am_xs_run am_ms 222 [(.aload_n 3, 1, []), (.getfield 281, 3, [5, 2, 1066, 3]), (.iload 5, 2, []), (.iaload, 1, []), (.invokevirtual 282, 3, [0, 220, 5, 8, 1, 4152, 4154, 34]), (.ifCond .lt 9, 3, []), (.iinc 5 1, 3, []), (.goto (-42), 3, [])] 81 _ _ h (by decide +kernel)).trans rfl
set_option maxHeartbeats 4000000 in
theorem bk_222_100 (x0 : Nat) (x1 : Int) (x2 : Int) (x3 : Nat) (x4 : Nat) (x5 : Int) (h : am_H) : am_run am_ms 222 100 [am_R x0, am_I x1, am_I x2, am_R x3, am_R x4, am_I x5] [] h = (bif decide (¬ x2 = 1) then am_run am_ms 222 119 [am_R x0, am_I x1, am_I x2, am_R x3, am_R x4, am_I x5] [] h else ((am_isc h x4 1).bind fun _ => ((am_cI 221 [am_R x4] h).bind fun r1 => ((am_gfR r1.2 x0 8 4).bind fun f2 => ((am_isc r1.2 f2 1).bind fun _ => ((am_cI 221 [am_R f2] r1.2).bind fun r3 => some (some (am_I (am_w (r1.1 - r3.1))), r3.2))))))) :=
  (am_xs_run am_ms 222 [(.iload_n 2, 1, []), (.iconst 1, 1, []), (.if_icmp .ne 17, 3, []), (.aload 4, 2, []), (.invokevirtual 286, 3, [0, 221, 1, 1, 1, 4156, 4157, 4158]), (.aload_n 0, 1, []), (.getfield 34, 3, [8, 4, 2041, 3]), (.invokevirtual 286, 3, [0, 221, 1, 1, 1, 4156, 4157, 4158]), (.isub, 1, []), (.ireturn, 1, [0])] 100 _ _ h (by decide +kernel)).trans rfl
set_option maxHeartbeats 4000000 in
theorem bk_222_119 (x0 : Nat) (x1 : Int) (x2 : Int) (x3 : Nat) (x4 : Nat) (x5 : Int) (h : am_H) : am_run am_ms 222 119 [am_R x0, am_I x1, am_I x2, am_R x3, am_R x4, am_I x5] [] h = ((am_gfI h x3 5 3).bind fun f1 => (bif decide (¬ x5 = f1) then am_run am_ms 222 132 [am_R x0, am_I x1, am_I x2, am_R x3, am_R x4, am_I x5] [] h else am_run am_ms 222 134 [am_R x0, am_I x1, am_I x2, am_R x3, am_R x4, am_I x5] [am_I (-1)] h)) :=
  (am_xs_run am_ms 222 [(.iload 5, 2, []), (.aload_n 3, 1, []), (.getfield 274, 3, [5, 3, 1069, 0]), (.if_icmp .ne 7, 3, []), (.iconst (-1), 1, []), (.goto 5, 3, [])] 119 _ _ h (by decide +kernel)).trans rfl
set_option maxHeartbeats 4000000 in
theorem bk_222_132 (x0 : Nat) (x1 : Int) (x2 : Int) (x3 : Nat) (x4 : Nat) (x5 : Int) (h : am_H) : am_run am_ms 222 132 [am_R x0, am_I x1, am_I x2, am_R x3, am_R x4, am_I x5] [] h = am_run am_ms 222 134 [am_R x0, am_I x1, am_I x2, am_R x3, am_R x4, am_I x5] [am_I x5] h :=
  (am_xs_run am_ms 222 [(.iload 5, 2, [])] 132 _ _ h (by decide +kernel)).trans rfl
set_option maxHeartbeats 4000000 in
theorem bk_222_134 (x0 : Nat) (x1 : Int) (x2 : Int) (x3 : Nat) (x4 : Nat) (x5 : Int) (y0 : Int) (h : am_H) : am_run am_ms 222 134 [am_R x0, am_I x1, am_I x2, am_R x3, am_R x4, am_I x5] [am_I y0] h = some (some (am_I y0), h) :=
  (am_xs_run am_ms 222 [(.ireturn, 1, [0])] 134 _ _ h (by decide +kernel)).trans rfl
set_option maxHeartbeats 4000000 in
theorem bk_223_0 (x0 : Nat) (h : am_H) : am_run am_ms 223 0 [am_R x0] [] h = ((am_rd h x0 0 422).bind fun v1 => ((am_rd h x0 0 423).bind fun v2 => some (some (am_I (am_w (v1 + v2))), h))) :=
  (am_xs_run am_ms 223 [(.aload_n 0, 1, []), (.sipush 422, 3, []), (.iaload, 1, []), (.aload_n 0, 1, []), (.sipush 423, 3, []), (.iaload, 1, []), (.iadd, 1, []), (.ireturn, 1, [0])] 0 _ _ h (by decide +kernel)).trans rfl
theorem en_223 (x0 : Nat) (h : am_H) : am_call am_ms 223 [am_R x0] h = am_run am_ms 223 0 [am_R x0] [] h := rfl
set_option maxHeartbeats 4000000 in
theorem bk_224_0 (x0 : Nat) (x1 : Int) (x2 : Int) (h : am_H) : am_run am_ms 224 0 [am_R x0, am_I x1, am_I x2, am_K 1, am_K 1, am_K 1] [] h = ((am_pf h x0 9 0 (am_I 0)).bind fun h1 => ((am_isc h1 x0 9).bind fun _ => ((am_cI 218 [am_R x0, am_I x1] h1).bind fun r2 => (bif decide (r2.1 = 0) then am_run am_ms 224 30 [am_R x0, am_I x1, am_I x2, am_K 1, am_K 1, am_K 1] [] r2.2 else ((am_gfI r2.2 x0 9 14).bind fun f3 => (bif decide (f3 = 0) then am_run am_ms 224 30 [am_R x0, am_I x1, am_I x2, am_K 1, am_K 1, am_K 1] [] r2.2 else am_run am_ms 224 24 [am_R x0, am_I x1, am_I x2, am_K 1, am_K 1, am_K 1] [am_L 1, am_L 0, am_L x2] r2.2)))))) :=
  (am_xs_run am_ms 224 [(.aload_n 0, 1, []), (.iconst 0, 1, []), (.putfield 53, 3, [9, 0, 5183, 0]), (.aload_n 0, 1, []), (.iload_n 1, 1, []), (.invokevirtual 358, 3, [0, 218, 2, 9, 1, 7189, 7191, 90]), (.ifCond .eq 20, 3, []), (.aload_n 0, 1, []), (.getfield 155, 3, [9, 14, 5197, 1]), (.ifCond .eq 13, 3, []), (.iload_n 2, 1, []), (.i2l, 1, []), (.lconst 0, 1, []), (.lconst 1, 1, [])] 0 _ _ h (by decide +kernel)).trans rfl
theorem en_224 (x0 : Nat) (x1 : Int) (x2 : Int) (h : am_H) : am_call am_ms 224 [am_R x0, am_I x1, am_I x2] h = am_run am_ms 224 0 [am_R x0, am_I x1, am_I x2, am_K 1, am_K 1, am_K 1] [] h := rfl
set_option maxHeartbeats 4000000 in
theorem bk_224_24 (x0 : Nat) (x1 : Int) (x2 : Int) (y0 : Int) (y1 : Int) (y2 : Int) (h : am_H) : am_run am_ms 224 24 [am_R x0, am_I x1, am_I x2, am_K 1, am_K 1, am_K 1] [am_L y0, am_L y1, am_L y2] h = ((am_cI 40 [am_L y2, am_L y1, am_L y0] h).bind fun r1 => (bif decide (¬ r1.1 = 0) then am_run am_ms 224 34 [am_R x0, am_I x1, am_I x2, am_K 1, am_K 1, am_K 1] [] r1.2 else am_run am_ms 224 30 [am_R x0, am_I x1, am_I x2, am_K 1, am_K 1, am_K 1] [] r1.2)) :=
  (am_xs_run am_ms 224 [(.invokestatic 96, 3, [1, 40, 3, 0, 1, 6060, 6061]), (.ifCond .ne 7, 3, [])] 24 _ _ h (by decide +kernel)).trans rfl
set_option maxHeartbeats 4000000 in
theorem bk_224_30 (x0 : Nat) (x1 : Int) (x2 : Int) (h : am_H) : am_run am_ms 224 30 [am_R x0, am_I x1, am_I x2, am_K 1, am_K 1, am_K 1] [] h = some (some (am_I (-1000000)), h) :=
  (am_xs_run am_ms 224 [(.ldc_w 350, 3, [0, -1000000, 7149]), (.ireturn, 1, [0])] 30 _ _ h (by decide +kernel)).trans rfl
set_option maxHeartbeats 4000000 in
theorem bk_224_34 (x0 : Nat) (x1 : Int) (x2 : Int) (h : am_H) : am_run am_ms 224 34 [am_R x0, am_I x1, am_I x2, am_K 1, am_K 1, am_K 1] [] h = ((am_gfR h x0 9 15).bind fun f1 => ((am_gfR h x0 9 16).bind fun f2 => ((am_cV 108 [am_R f1, am_I 0, am_R f2, am_I 0] h).bind fun h3 => am_run am_ms 224 52 [am_R x0, am_I x1, am_I x2, am_I 0, am_I 1, am_K 1] [] h3))) :=
  (am_xs_run am_ms 224 [(.aload_n 0, 1, []), (.getfield 32, 3, [9, 15, 5198, 3]), (.iconst 0, 1, []), (.aload_n 0, 1, []), (.getfield 35, 3, [9, 16, 5199, 3]), (.iconst 0, 1, []), (.invokestatic 259, 3, [1, 108, 4, 0, 0, 6155, 6156]), (.iconst 0, 1, []), (.istore_n 3, 1, []), (.iconst 1, 1, []), (.istore 4, 2, [])] 34 _ _ h (by decide +kernel)).trans rfl
set_option maxHeartbeats 4000000 in
theorem bk_224_52 (x0 : Nat) (x1 : Int) (x2 : Int) (x3 : Int) (x4 : Int) (x5 : am_V) (h : am_H) : am_run am_ms 224 52 [am_R x0, am_I x1, am_I x2, am_I x3, am_I x4, x5] [] h = (bif decide (x4 = 0) then am_run am_ms 224 168 [am_R x0, am_I x1, am_I x2, am_I x3, am_I x4, x5] [] h else ((am_gfR h x0 9 9).bind fun f1 => ((am_rd h f1 0 x1).bind fun v2 => (bif decide (v2 ≤ x3) then am_run am_ms 224 168 [am_R x0, am_I x1, am_I x2, am_I x3, am_I x4, x5] [] h else am_run am_ms 224 74 [am_R x0, am_I x1, am_I x2, am_I x3, am_I x4, x5] [am_I (am_w ((am_w (16 * x1)) + x3)), am_I 3] h)))) :=
  (am_xs_run am_ms 224 [(.iload 4, 2, []), (.ifCond .eq 114, 3, []), (.iload_n 3, 1, []), (.aload_n 0, 1, []), (.getfield 26, 3, [9, 9, 5192, 3]), (.iload_n 1, 1, []), (.iaload, 1, []), (.if_icmp .ge 104, 3, []), (.iconst 3, 1, []), (.bipush 16, 2, []), (.iload_n 1, 1, []), (.imul, 1, []), (.iload_n 3, 1, []), (.iadd, 1, [])] 52 _ _ h (by decide +kernel)).trans rfl
set_option maxHeartbeats 4000000 in
theorem bk_224_74 (x0 : Nat) (x1 : Int) (x2 : Int) (x3 : Int) (x4 : Int) (x5 : am_V) (y0 : Int) (y1 : Int) (h : am_H) : am_run am_ms 224 74 [am_R x0, am_I x1, am_I x2, am_I x3, am_I x4, x5] [am_I y0, am_I y1] h = ((am_gfR h x0 9 16).bind fun f1 => ((am_gfR h x0 9 8).bind fun f2 => ((am_rd h f2 0 (am_w (y1 * y0))).bind fun v3 => ((am_gfR h x0 9 8).bind fun f4 => am_run am_ms 224 97 [am_R x0, am_I x1, am_I x2, am_I x3, am_I x4, am_I (am_w (y1 * y0))] [am_I (am_w ((am_w (y1 * y0)) + 1)), am_R f4, am_I v3, am_R f1, am_R x0] h)))) :=
  (am_xs_run am_ms 224 [(.imul, 1, []), (.istore 5, 2, []), (.aload_n 0, 1, []), (.aload_n 0, 1, []), (.getfield 35, 3, [9, 16, 5199, 3]), (.aload_n 0, 1, []), (.getfield 23, 3, [9, 8, 5191, 3]), (.iload 5, 2, []), (.iaload, 1, []), (.aload_n 0, 1, []), (.getfield 23, 3, [9, 8, 5191, 3]), (.iload 5, 2, []), (.iconst 1, 1, []), (.iadd, 1, [])] 74 _ _ h (by decide +kernel)).trans rfl
set_option maxHeartbeats 4000000 in
theorem bk_224_97 (x0 : Nat) (x1 : Int) (x2 : Int) (x3 : Int) (x4 : Int) (x5 : Int) (y0 : Int) (y1 : Nat) (y2 : Int) (y3 : Nat) (y4 : Nat) (h : am_H) : am_run am_ms 224 97 [am_R x0, am_I x1, am_I x2, am_I x3, am_I x4, am_I x5] [am_I y0, am_R y1, am_I y2, am_R y3, am_R y4] h = ((am_rd h y1 0 y0).bind fun v1 => ((am_gfR h x0 9 8).bind fun f2 => ((am_rd h f2 0 (am_w (x5 + 2))).bind fun v3 => ((am_isc h y4 9).bind fun _ => ((am_cI 164 [am_R y4, am_R y3, am_I y2, am_I v1, am_I v3] h).bind fun r4 => (bif decide (¬ r4.1 = (-1)) then am_run am_ms 224 154 [am_R x0, am_I x1, am_I x2, am_I x3, am_I x4, am_I x5] [] r4.2 else ((am_gfR r4.2 x0 9 16).bind fun f5 => am_run am_ms 224 120 [am_R x0, am_I x1, am_I x2, am_I x3, am_I x4, am_I x5] [am_R x0, am_R f5, am_R x0] r4.2))))))) :=
  (am_xs_run am_ms 224 [(.iaload, 1, []), (.aload_n 0, 1, []), (.getfield 23, 3, [9, 8, 5191, 3]), (.iload 5, 2, []), (.iconst 2, 1, []), (.iadd, 1, []), (.iaload, 1, []), (.invokevirtual 311, 3, [0, 164, 5, 9, 1, 7034, 7036, 77]), (.iconst (-1), 1, []), (.if_icmp .ne 43, 3, []), (.aload_n 0, 1, []), (.aload_n 0, 1, []), (.getfield 35, 3, [9, 16, 5199, 3]), (.aload_n 0, 1, [])] 97 _ _ h (by decide +kernel)).trans rfl
set_option maxHeartbeats 4000000 in
theorem bk_224_120 (x0 : Nat) (x1 : Int) (x2 : Int) (x3 : Int) (x4 : Int) (x5 : Int) (y0 : Nat) (y1 : Nat) (y2 : Nat) (h : am_H) : am_run am_ms 224 120 [am_R x0, am_I x1, am_I x2, am_I x3, am_I x4, am_I x5] [am_R y0, am_R y1, am_R y2] h = ((am_gfR h y0 9 8).bind fun f1 => ((am_rd h f1 0 x5).bind fun v2 => ((am_gfR h x0 9 8).bind fun f3 => ((am_rd h f3 0 (am_w (x5 + 1))).bind fun v4 => ((am_gfR h x0 9 8).bind fun f5 => am_run am_ms 224 143 [am_R x0, am_I x1, am_I x2, am_I x3, am_I x4, am_I x5] [am_I (am_w (x5 + 2)), am_R f5, am_I v4, am_I v2, am_R y1, am_R y2] h))))) :=
  (am_xs_run am_ms 224 [(.getfield 23, 3, [9, 8, 5191, 3]), (.iload 5, 2, []), (.iaload, 1, []), (.aload_n 0, 1, []), (.getfield 23, 3, [9, 8, 5191, 3]), (.iload 5, 2, []), (.iconst 1, 1, []), (.iadd, 1, []), (.iaload, 1, []), (.aload_n 0, 1, []), (.getfield 23, 3, [9, 8, 5191, 3]), (.iload 5, 2, []), (.iconst 2, 1, []), (.iadd, 1, [])] 120 _ _ h (by decide +kernel)).trans rfl
set_option maxHeartbeats 4000000 in
theorem bk_224_143 (x0 : Nat) (x1 : Int) (x2 : Int) (x3 : Int) (x4 : Int) (x5 : Int) (y0 : Int) (y1 : Nat) (y2 : Int) (y3 : Int) (y4 : Nat) (y5 : Nat) (h : am_H) : am_run am_ms 224 143 [am_R x0, am_I x1, am_I x2, am_I x3, am_I x4, am_I x5] [am_I y0, am_R y1, am_I y2, am_I y3, am_R y4, am_R y5] h = ((am_rd h y1 0 y0).bind fun v1 => ((am_isc h y5 9).bind fun _ => ((am_cI 168 [am_R y5, am_R y4, am_I y3, am_I y2, am_I v1] h).bind fun r2 => (bif decide (r2.1 = 0) then am_run am_ms 224 154 [am_R x0, am_I x1, am_I x2, am_I x3, am_I x4, am_I x5] [] r2.2 else am_run am_ms 224 155 [am_R x0, am_I x1, am_I x2, am_I x3, am_I x4, am_I x5] [am_I 1] r2.2)))) :=
  (am_xs_run am_ms 224 [(.iaload, 1, []), (.invokevirtual 315, 3, [0, 168, 5, 9, 1, 7057, 7059, 82]), (.ifCond .eq 7, 3, []), (.iconst 1, 1, []), (.goto 4, 3, [])] 143 _ _ h (by decide +kernel)).trans rfl
set_option maxHeartbeats 4000000 in
theorem bk_224_154 (x0 : Nat) (x1 : Int) (x2 : Int) (x3 : Int) (x4 : Int) (x5 : Int) (h : am_H) : am_run am_ms 224 154 [am_R x0, am_I x1, am_I x2, am_I x3, am_I x4, am_I x5] [] h = am_run am_ms 224 155 [am_R x0, am_I x1, am_I x2, am_I x3, am_I x4, am_I x5] [am_I 0] h :=
  (am_xs_run am_ms 224 [(.iconst 0, 1, [])] 154 _ _ h (by decide +kernel)).trans rfl
set_option maxHeartbeats 4000000 in
theorem bk_224_155 (x0 : Nat) (x1 : Int) (x2 : Int) (x3 : Int) (x4 : Int) (x5 : Int) (y0 : Int) (h : am_H) : am_run am_ms 224 155 [am_R x0, am_I x1, am_I x2, am_I x3, am_I x4, am_I x5] [am_I y0] h = (bif decide (y0 = 0) then am_run am_ms 224 165 [am_R x0, am_I x1, am_I x2, am_I x3, am_I y0, am_I x5] [] h else am_run am_ms 224 165 [am_R x0, am_I x1, am_I x2, am_I (am_w (x3 + 1)), am_I y0, am_I x5] [] h) :=
  (am_xs_run am_ms 224 [(.istore 4, 2, []), (.iload 4, 2, []), (.ifCond .eq 6, 3, []), (.iinc 3 1, 3, [])] 155 _ _ h (by decide +kernel)).trans rfl
set_option maxHeartbeats 4000000 in
theorem bk_224_165 (x0 : Nat) (x1 : Int) (x2 : Int) (x3 : Int) (x4 : Int) (x5 : Int) (h : am_H) : am_run am_ms 224 165 [am_R x0, am_I x1, am_I x2, am_I x3, am_I x4, am_I x5] [] h = am_run am_ms 224 52 [am_R x0, am_I x1, am_I x2, am_I x3, am_I x4, am_I x5] [] h :=
  (am_xs_run am_ms 224 [(.goto (-113), 3, [])] 165 _ _ h (by decide +kernel)).trans rfl
set_option maxHeartbeats 4000000 in
theorem bk_224_168 (x0 : Nat) (x1 : Int) (x2 : Int) (x3 : Int) (x4 : Int) (x5 : am_V) (h : am_H) : am_run am_ms 224 168 [am_R x0, am_I x1, am_I x2, am_I x3, am_I x4, x5] [] h = (bif decide (¬ x2 = 1) then am_run am_ms 224 191 [am_R x0, am_I x1, am_I x2, am_I x3, am_I x4, x5] [] h else ((am_gfR h x0 9 16).bind fun f1 => ((am_cI 223 [am_R f1] h).bind fun r2 => ((am_gfR r2.2 x0 9 15).bind fun f3 => ((am_cI 223 [am_R f3] r2.2).bind fun r4 => am_run am_ms 224 206 [am_R x0, am_I x1, am_I x2, am_I x3, am_I x4, x5] [am_I (am_w (r2.1 - r4.1))] r4.2))))) :=
  (am_xs_run am_ms 224 [(.iload_n 2, 1, []), (.iconst 1, 1, []), (.if_icmp .ne 21, 3, []), (.aload_n 0, 1, []), (.getfield 35, 3, [9, 16, 5199, 3]), (.invokestatic 361, 3, [1, 223, 1, 0, 1, 7197, 7198]), (.aload_n 0, 1, []), (.getfield 32, 3, [9, 15, 5198, 3]), (.invokestatic 361, 3, [1, 223, 1, 0, 1, 7197, 7198]), (.isub, 1, []), (.goto 18, 3, [])] 168 _ _ h (by decide +kernel)).trans rfl
set_option maxHeartbeats 4000000 in
theorem bk_224_191 (x0 : Nat) (x1 : Int) (x2 : Int) (x3 : Int) (x4 : Int) (x5 : am_V) (h : am_H) : am_run am_ms 224 191 [am_R x0, am_I x1, am_I x2, am_I x3, am_I x4, x5] [] h = ((am_gfR h x0 9 9).bind fun f1 => ((am_rd h f1 0 x1).bind fun v2 => (bif decide (¬ x3 = v2) then am_run am_ms 224 205 [am_R x0, am_I x1, am_I x2, am_I x3, am_I x4, x5] [] h else am_run am_ms 224 206 [am_R x0, am_I x1, am_I x2, am_I x3, am_I x4, x5] [am_I (-1)] h))) :=
  (am_xs_run am_ms 224 [(.iload_n 3, 1, []), (.aload_n 0, 1, []), (.getfield 26, 3, [9, 9, 5192, 3]), (.iload_n 1, 1, []), (.iaload, 1, []), (.if_icmp .ne 7, 3, []), (.iconst (-1), 1, []), (.goto 4, 3, [])] 191 _ _ h (by decide +kernel)).trans rfl
set_option maxHeartbeats 4000000 in
theorem bk_224_205 (x0 : Nat) (x1 : Int) (x2 : Int) (x3 : Int) (x4 : Int) (x5 : am_V) (h : am_H) : am_run am_ms 224 205 [am_R x0, am_I x1, am_I x2, am_I x3, am_I x4, x5] [] h = am_run am_ms 224 206 [am_R x0, am_I x1, am_I x2, am_I x3, am_I x4, x5] [am_I x3] h :=
  (am_xs_run am_ms 224 [(.iload_n 3, 1, [])] 205 _ _ h (by decide +kernel)).trans rfl
set_option maxHeartbeats 4000000 in
theorem bk_224_206 (x0 : Nat) (x1 : Int) (x2 : Int) (x3 : Int) (x4 : Int) (x5 : am_V) (y0 : Int) (h : am_H) : am_run am_ms 224 206 [am_R x0, am_I x1, am_I x2, am_I x3, am_I x4, x5] [am_I y0] h = some (some (am_I y0), h) :=
  (am_xs_run am_ms 224 [(.ireturn, 1, [0])] 206 _ _ h (by decide +kernel)).trans rfl
