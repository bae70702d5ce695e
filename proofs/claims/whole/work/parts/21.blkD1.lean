/-! ===== BLOCK LAWS: printed by a program of ours ===== -/
set_option maxHeartbeats 4000000 in
theorem bk_149_0 (x0 : Nat) (x1 : Int) (h : am_H) : am_run am_ms 149 0 [am_R x0, am_I x1] [] h = ((am_gfR h x0 1 10).bind fun f1 => ((am_rd h f1 0 x1).bind fun v2 => (bif decide (¬ v2 = (-1)) then am_run am_ms 149 14 [am_R x0, am_I x1] [] h else am_run am_ms 149 25 [am_R x0, am_I x1] [am_I (-1)] h))) :=
  (am_xs_run am_ms 149 [(.aload_n 0, 1, []), (.getfield 42, 3, [1, 10, 1171, 3]), (.iload_n 1, 1, []), (.iaload, 1, []), (.iconst (-1), 1, []), (.if_icmp .ne 7, 3, []), (.iconst (-1), 1, []), (.goto 14, 3, [])] 0 _ _ h (by decide +kernel)).trans rfl
theorem en_149 (x0 : Nat) (x1 : Int) (h : am_H) : am_call am_ms 149 [am_R x0, am_I x1] h = am_run am_ms 149 0 [am_R x0, am_I x1] [] h := rfl
set_option maxHeartbeats 4000000 in
theorem bk_149_14 (x0 : Nat) (x1 : Int) (h : am_H) : am_run am_ms 149 14 [am_R x0, am_I x1] [] h = ((am_gfR h x0 1 9).bind fun f1 => ((am_gfR h x0 1 10).bind fun f2 => ((am_rd h f2 0 x1).bind fun v3 => ((am_rd h f1 0 v3).bind fun v4 => am_run am_ms 149 25 [am_R x0, am_I x1] [am_I v4] h)))) :=
  (am_xs_run am_ms 149 [(.aload_n 0, 1, []), (.getfield 39, 3, [1, 9, 1168, 3]), (.aload_n 0, 1, []), (.getfield 42, 3, [1, 10, 1171, 3]), (.iload_n 1, 1, []), (.iaload, 1, []), (.iaload, 1, [])] 14 _ _ h (by decide +kernel)).trans rfl
set_option maxHeartbeats 4000000 in
theorem bk_149_25 (x0 : Nat) (x1 : Int) (y0 : Int) (h : am_H) : am_run am_ms 149 25 [am_R x0, am_I x1] [am_I y0] h = some (some (am_I y0), h) :=
  (am_xs_run am_ms 149 [(.ireturn, 1, [0])] 25 _ _ h (by decide +kernel)).trans rfl
set_option maxHeartbeats 4000000 in
theorem bk_176_0 (x0 : Nat) (h : am_H) : am_run am_ms 176 0 [am_R x0, am_K 1, am_K 1] [] h = ((am_gfR h x0 1 0).bind fun f1 => ((am_rd h f1 0 0).bind fun v2 => (bif decide (¬ v2 = 0) then am_run am_ms 176 11 [am_R x0, am_K 1, am_K 1] [] h else some (some (am_I (-1)), h)))) :=
  (am_xs_run am_ms 176 [(.aload_n 0, 1, []), (.getfield 9, 3, [1, 0, 1146, 3]), (.iconst 0, 1, []), (.iaload, 1, []), (.ifCond .ne 5, 3, []), (.iconst (-1), 1, []), (.ireturn, 1, [0])] 0 _ _ h (by decide +kernel)).trans rfl
theorem en_176 (x0 : Nat) (h : am_H) : am_call am_ms 176 [am_R x0] h = am_run am_ms 176 0 [am_R x0, am_K 1, am_K 1] [] h := rfl
set_option maxHeartbeats 4000000 in
theorem bk_176_11 (x0 : Nat) (h : am_H) : am_run am_ms 176 11 [am_R x0, am_K 1, am_K 1] [] h = ((am_isc h x0 1).bind fun _ => ((am_cI 84 [am_R x0] h).bind fun r1 => (bif decide (¬ r1.1 = (-1)) then am_run am_ms 176 24 [am_R x0, am_I r1.1, am_K 1] [] r1.2 else some (some (am_I (-3)), r1.2)))) :=
  (am_xs_run am_ms 176 [(.aload_n 0, 1, []), (.invokevirtual 145, 3, [0, 84, 1, 1, 1, 3091, 3092, 3093]), (.istore_n 1, 1, []), (.iload_n 1, 1, []), (.iconst (-1), 1, []), (.if_icmp .ne 6, 3, []), (.bipush (-3), 2, []), (.ireturn, 1, [0])] 11 _ _ h (by decide +kernel)).trans rfl
set_option maxHeartbeats 4000000 in
theorem bk_176_24 (x0 : Nat) (x1 : Int) (h : am_H) : am_run am_ms 176 24 [am_R x0, am_I x1, am_K 1] [] h = ((am_isc h x0 1).bind fun _ => ((am_cI 85 [am_R x0, am_I x1] h).bind fun r1 => (bif decide (¬ r1.1 = 0) then am_run am_ms 176 35 [am_R x0, am_I x1, am_K 1] [] r1.2 else some (some (am_I (-4)), r1.2)))) :=
  (am_xs_run am_ms 176 [(.aload_n 0, 1, []), (.iload_n 1, 1, []), (.invokevirtual 149, 3, [0, 85, 2, 1, 1, 3121, 3122, 3123]), (.ifCond .ne 6, 3, []), (.bipush (-4), 2, []), (.ireturn, 1, [0])] 24 _ _ h (by decide +kernel)).trans rfl
set_option maxHeartbeats 4000000 in
theorem bk_176_35 (x0 : Nat) (x1 : Int) (h : am_H) : am_run am_ms 176 35 [am_R x0, am_I x1, am_K 1] [] h = ((am_isc h x0 1).bind fun _ => ((am_cI 99 [am_R x0, am_I x1, am_I 16] h).bind fun r1 => ((am_isc r1.2 x0 1).bind fun _ => ((am_cV 101 [am_R x0, am_I x1] r1.2).bind fun h2 => some (some (am_I r1.1), h2))))) :=
  (am_xs_run am_ms 176 [(.aload_n 0, 1, []), (.iload_n 1, 1, []), (.bipush 16, 2, []), (.invokevirtual 152, 3, [0, 99, 3, 1, 1, 3125, 3126, 3127]), (.istore_n 2, 1, []), (.aload_n 0, 1, []), (.iload_n 1, 1, []), (.invokevirtual 155, 3, [0, 101, 2, 1, 0, 3181, 3183, 24]), (.iload_n 2, 1, []), (.ireturn, 1, [0])] 35 _ _ h (by decide +kernel)).trans rfl
set_option maxHeartbeats 4000000 in
theorem bk_179_0 (x0 : Nat) (h : am_H) : am_run am_ms 179 0 [am_R x0, am_K 1, am_K 1] [] h = ((am_gfR h x0 1 6).bind fun f1 => ((am_cV 62 [am_R f1, am_I (-1)] h).bind fun h2 => am_run am_ms 179 12 [am_R x0, am_I 0, am_I 0] [] h2)) :=
  (am_xs_run am_ms 179 [(.aload_n 0, 1, []), (.getfield 30, 3, [1, 6, 1161, 3]), (.iconst (-1), 1, []), (.invokestatic 74, 3, [1, 62, 2, 0, 0, 3027, 3028]), (.iconst 0, 1, []), (.istore_n 1, 1, []), (.iconst 0, 1, []), (.istore_n 2, 1, [])] 0 _ _ h (by decide +kernel)).trans rfl
theorem en_179 (x0 : Nat) (h : am_H) : am_call am_ms 179 [am_R x0] h = am_run am_ms 179 0 [am_R x0, am_K 1, am_K 1] [] h := rfl
set_option maxHeartbeats 4000000 in
theorem bk_179_12 (x0 : Nat) (x1 : Int) (x2 : Int) (h : am_H) : am_run am_ms 179 12 [am_R x0, am_I x1, am_I x2] [] h = ((am_gfR h x0 1 0).bind fun f1 => ((am_rd h f1 0 0).bind fun v2 => (bif decide (v2 ≤ x2) then am_run am_ms 179 54 [am_R x0, am_I x1, am_I x2] [] h else ((am_isc h x0 1).bind fun _ => ((am_cI 72 [am_R x0, am_I x1] h).bind fun r3 => (bif decide (r3.1 = 0) then am_run am_ms 179 48 [am_R x0, am_I x1, am_I x2] [] r3.2 else ((am_isc r3.2 x0 1).bind fun _ => ((am_cI 87 [am_R x0, am_I x2] r3.2).bind fun r4 => (bif decide (r4.1 = 0) then am_run am_ms 179 48 [am_R x0, am_I x1, am_I x2] [] r4.2 else am_run am_ms 179 38 [am_R x0, am_I x1, am_I x2] [] r4.2))))))))) :=
  (am_xs_run am_ms 179 [(.iload_n 2, 1, []), (.aload_n 0, 1, []), (.getfield 9, 3, [1, 0, 1146, 3]), (.iconst 0, 1, []), (.iaload, 1, []), (.if_icmp .ge 35, 3, []), (.aload_n 0, 1, []), (.iload_n 1, 1, []), (.invokevirtual 126, 3, [0, 72, 2, 1, 1, 3074, 3075, 3076]), (.ifCond .eq 21, 3, []), (.aload_n 0, 1, []), (.iload_n 2, 1, []), (.invokevirtual 187, 3, [0, 87, 2, 1, 1, 3145, 3146, 3147]), (.ifCond .eq 13, 3, [])] 12 _ _ h (by decide +kernel)).trans rfl
set_option maxHeartbeats 4000000 in
theorem bk_179_38 (x0 : Nat) (x1 : Int) (x2 : Int) (h : am_H) : am_run am_ms 179 38 [am_R x0, am_I x1, am_I x2] [] h = ((am_gfR h x0 1 6).bind fun f1 => ((am_wr h f1 0 x1 x2).bind fun h2 => am_run am_ms 179 48 [am_R x0, am_I (am_w (x1 + 1)), am_I x2] [] h2)) :=
  (am_xs_run am_ms 179 [(.aload_n 0, 1, []), (.getfield 30, 3, [1, 6, 1161, 3]), (.iload_n 1, 1, []), (.iload_n 2, 1, []), (.iastore, 1, []), (.iinc 1 1, 3, [])] 38 _ _ h (by decide +kernel)).trans rfl
set_option maxHeartbeats 4000000 in
theorem bk_179_48 (x0 : Nat) (x1 : Int) (x2 : Int) (h : am_H) : am_run am_ms 179 48 [am_R x0, am_I x1, am_I x2] [] h = am_run am_ms 179 12 [am_R x0, am_I x1, am_I (am_w (x2 + 1))] [] h :=
  (am_xs_run am_ms 179 [(.iinc 2 1, 3, []), (.goto (-39), 3, [])] 48 _ _ h (by decide +kernel)).trans rfl
set_option maxHeartbeats 4000000 in
theorem bk_179_54 (x0 : Nat) (x1 : Int) (x2 : Int) (h : am_H) : am_run am_ms 179 54 [am_R x0, am_I x1, am_I x2] [] h = some (none, h) :=
  (am_xs_run am_ms 179 [(.return_, 1, [])] 54 _ _ h (by decide +kernel)).trans rfl
set_option maxHeartbeats 4000000 in
theorem bk_180_0 (x0 : Nat) (h : am_H) : am_run am_ms 180 0 [am_R x0, am_K 1, am_K 1] [] h = am_run am_ms 180 4 [am_R x0, am_I 0, am_I 0] [] h :=
  (am_xs_run am_ms 180 [(.iconst 0, 1, []), (.istore_n 1, 1, []), (.iconst 0, 1, []), (.istore_n 2, 1, [])] 0 _ _ h (by decide +kernel)).trans rfl
theorem en_180 (x0 : Nat) (h : am_H) : am_call am_ms 180 [am_R x0] h = am_run am_ms 180 0 [am_R x0, am_K 1, am_K 1] [] h := rfl
set_option maxHeartbeats 4000000 in
theorem bk_180_4 (x0 : Nat) (x1 : Int) (x2 : Int) (h : am_H) : am_run am_ms 180 4 [am_R x0, am_I x1, am_I x2] [] h = (bif decide (32 ≤ x2) then am_run am_ms 180 26 [am_R x0, am_I x1, am_I x2] [] h else ((am_isc h x0 1).bind fun _ => ((am_cI 149 [am_R x0, am_I x2] h).bind fun r1 => am_run am_ms 180 4 [am_R x0, am_I (am_max x1 r1.1), am_I (am_w (x2 + 1))] [] r1.2))) :=
  (am_xs_run am_ms 180 [(.iload_n 2, 1, []), (.bipush 32, 2, []), (.if_icmp .ge 19, 3, []), (.iload_n 1, 1, []), (.aload_n 0, 1, []), (.iload_n 2, 1, []), (.invokevirtual 211, 3, [0, 149, 2, 1, 1, 4051, 3224, 3225]), (.invokestatic 106, 3, [12, 0, 2, 0, 1, 3120, 2149, 1014, 2150]), (.istore_n 1, 1, []), (.iinc 2 1, 3, []), (.goto (-19), 3, [])] 4 _ _ h (by decide +kernel)).trans rfl
set_option maxHeartbeats 4000000 in
theorem bk_180_26 (x0 : Nat) (x1 : Int) (x2 : Int) (h : am_H) : am_run am_ms 180 26 [am_R x0, am_I x1, am_I x2] [] h = some (some (am_I x1), h) :=
  (am_xs_run am_ms 180 [(.iload_n 1, 1, []), (.ireturn, 1, [0])] 26 _ _ h (by decide +kernel)).trans rfl
set_option maxHeartbeats 4000000 in
theorem bk_181_0 (x0 : Nat) (h : am_H) : am_run am_ms 181 0 [am_R x0, am_K 1, am_K 1] [] h = am_run am_ms 181 4 [am_R x0, am_I 0, am_I 0] [] h :=
  (am_xs_run am_ms 181 [(.iconst 0, 1, []), (.istore_n 1, 1, []), (.iconst 0, 1, []), (.istore_n 2, 1, [])] 0 _ _ h (by decide +kernel)).trans rfl
theorem en_181 (x0 : Nat) (h : am_H) : am_call am_ms 181 [am_R x0] h = am_run am_ms 181 0 [am_R x0, am_K 1, am_K 1] [] h := rfl
set_option maxHeartbeats 4000000 in
theorem bk_181_4 (x0 : Nat) (x1 : Int) (x2 : Int) (h : am_H) : am_run am_ms 181 4 [am_R x0, am_I x1, am_I x2] [] h = (bif decide (32 ≤ x2) then am_run am_ms 181 28 [am_R x0, am_I x1, am_I x2] [] h else ((am_isc h x0 1).bind fun _ => ((am_cI 70 [am_R x0, am_I x2] h).bind fun r1 => (bif decide (r1.1 = (-1)) then am_run am_ms 181 22 [am_R x0, am_I x1, am_I x2] [] r1.2 else am_run am_ms 181 22 [am_R x0, am_I (am_w (x1 + 1)), am_I x2] [] r1.2)))) :=
  (am_xs_run am_ms 181 [(.iload_n 2, 1, []), (.bipush 32, 2, []), (.if_icmp .ge 21, 3, []), (.aload_n 0, 1, []), (.iload_n 2, 1, []), (.invokevirtual 93, 3, [0, 70, 2, 1, 1, 3058, 3059, 3060]), (.iconst (-1), 1, []), (.if_icmp .eq 6, 3, []), (.iinc 1 1, 3, [])] 4 _ _ h (by decide +kernel)).trans rfl
set_option maxHeartbeats 4000000 in
theorem bk_181_22 (x0 : Nat) (x1 : Int) (x2 : Int) (h : am_H) : am_run am_ms 181 22 [am_R x0, am_I x1, am_I x2] [] h = am_run am_ms 181 4 [am_R x0, am_I x1, am_I (am_w (x2 + 1))] [] h :=
  (am_xs_run am_ms 181 [(.iinc 2 1, 3, []), (.goto (-21), 3, [])] 22 _ _ h (by decide +kernel)).trans rfl
set_option maxHeartbeats 4000000 in
theorem bk_181_28 (x0 : Nat) (x1 : Int) (x2 : Int) (h : am_H) : am_run am_ms 181 28 [am_R x0, am_I x1, am_I x2] [] h = some (some (am_I x1), h) :=
  (am_xs_run am_ms 181 [(.iload_n 1, 1, []), (.ireturn, 1, [0])] 28 _ _ h (by decide +kernel)).trans rfl
set_option maxHeartbeats 4000000 in
theorem bk_182_0 (x0 : Nat) (h : am_H) : am_run am_ms 182 0 [am_R x0, am_K 1] [] h = ((am_gfR h x0 1 0).bind fun f1 => ((am_rd h f1 0 0).bind fun v2 => (bif decide (¬ v2 = 0) then am_run am_ms 182 11 [am_R x0, am_K 1] [] h else some (some (am_I (-1)), h)))) :=
  (am_xs_run am_ms 182 [(.aload_n 0, 1, []), (.getfield 9, 3, [1, 0, 1146, 3]), (.iconst 0, 1, []), (.iaload, 1, []), (.ifCond .ne 5, 3, []), (.iconst (-1), 1, []), (.ireturn, 1, [0])] 0 _ _ h (by decide +kernel)).trans rfl
theorem en_182 (x0 : Nat) (h : am_H) : am_call am_ms 182 [am_R x0] h = am_run am_ms 182 0 [am_R x0, am_K 1] [] h := rfl
set_option maxHeartbeats 4000000 in
theorem bk_182_11 (x0 : Nat) (h : am_H) : am_run am_ms 182 11 [am_R x0, am_K 1] [] h = am_run am_ms 182 13 [am_R x0, am_I 0] [] h :=
  (am_xs_run am_ms 182 [(.iconst 0, 1, []), (.istore_n 1, 1, [])] 11 _ _ h (by decide +kernel)).trans rfl
set_option maxHeartbeats 4000000 in
theorem bk_182_13 (x0 : Nat) (x1 : Int) (h : am_H) : am_run am_ms 182 13 [am_R x0, am_I x1] [] h = ((am_gfR h x0 1 0).bind fun f1 => ((am_rd h f1 0 0).bind fun v2 => (bif decide (v2 ≤ x1) then am_run am_ms 182 50 [am_R x0, am_I x1] [] h else ((am_gfR h x0 1 2).bind fun f3 => ((am_rd h f3 0 x1).bind fun v4 => (bif decide (¬ v4 = 1) then am_run am_ms 182 44 [am_R x0, am_I x1] [] h else ((am_gfR h x0 1 2).bind fun f5 => am_run am_ms 182 37 [am_R x0, am_I x1] [am_R f5] h))))))) :=
  (am_xs_run am_ms 182 [(.iload_n 1, 1, []), (.aload_n 0, 1, []), (.getfield 9, 3, [1, 0, 1146, 3]), (.iconst 0, 1, []), (.iaload, 1, []), (.if_icmp .ge 30, 3, []), (.aload_n 0, 1, []), (.getfield 18, 3, [1, 2, 1152, 3]), (.iload_n 1, 1, []), (.iaload, 1, []), (.iconst 1, 1, []), (.if_icmp .ne 14, 3, []), (.aload_n 0, 1, []), (.getfield 18, 3, [1, 2, 1152, 3])] 13 _ _ h (by decide +kernel)).trans rfl
set_option maxHeartbeats 4000000 in
theorem bk_182_37 (x0 : Nat) (x1 : Int) (y0 : Nat) (h : am_H) : am_run am_ms 182 37 [am_R x0, am_I x1] [am_R y0] h = ((am_isc h x0 1).bind fun _ => ((am_cI 95 [am_R x0, am_I x1] h).bind fun r1 => ((am_wr r1.2 y0 0 x1 r1.1).bind fun h2 => am_run am_ms 182 44 [am_R x0, am_I x1] [] h2))) :=
  (am_xs_run am_ms 182 [(.iload_n 1, 1, []), (.aload_n 0, 1, []), (.iload_n 1, 1, []), (.invokevirtual 199, 3, [0, 95, 2, 1, 1, 3177, 3179, 23]), (.iastore, 1, [])] 37 _ _ h (by decide +kernel)).trans rfl
set_option maxHeartbeats 4000000 in
theorem bk_182_44 (x0 : Nat) (x1 : Int) (h : am_H) : am_run am_ms 182 44 [am_R x0, am_I x1] [] h = am_run am_ms 182 13 [am_R x0, am_I (am_w (x1 + 1))] [] h :=
  (am_xs_run am_ms 182 [(.iinc 1 1, 3, []), (.goto (-34), 3, [])] 44 _ _ h (by decide +kernel)).trans rfl
set_option maxHeartbeats 4000000 in
theorem bk_182_50 (x0 : Nat) (x1 : Int) (h : am_H) : am_run am_ms 182 50 [am_R x0, am_I x1] [] h = ((am_isc h x0 1).bind fun _ => ((am_cV 179 [am_R x0] h).bind fun h1 => ((am_gfR h1 x0 1 1).bind fun f2 => ((am_isc h1 x0 1).bind fun _ => ((am_cI 180 [am_R x0] h1).bind fun r3 => ((am_wr r3.2 f2 0 4 r3.1).bind fun h4 => ((am_gfR h4 x0 1 1).bind fun f5 => ((am_rd h4 f5 0 3).bind fun v6 => am_run am_ms 182 72 [am_R x0, am_I x1] [am_I 1, am_I v6, am_I 3, am_R f5] h4)))))))) :=
  (am_xs_run am_ms 182 [(.aload_n 0, 1, []), (.invokevirtual 202, 3, [0, 179, 1, 1, 0, 4043, 4045, 30]), (.aload_n 0, 1, []), (.getfield 15, 3, [1, 1, 1150, 3]), (.iconst 4, 1, []), (.aload_n 0, 1, []), (.invokevirtual 205, 3, [0, 180, 1, 1, 1, 4047, 4049, 31]), (.iastore, 1, []), (.aload_n 0, 1, []), (.getfield 15, 3, [1, 1, 1150, 3]), (.iconst 3, 1, []), (.dup2, 1, []), (.iaload, 1, []), (.iconst 1, 1, [])] 50 _ _ h (by decide +kernel)).trans rfl
set_option maxHeartbeats 4000000 in
theorem bk_182_72 (x0 : Nat) (x1 : Int) (y0 : Int) (y1 : Int) (y2 : Int) (y3 : Nat) (h : am_H) : am_run am_ms 182 72 [am_R x0, am_I x1] [am_I y0, am_I y1, am_I y2, am_R y3] h = ((am_wr h y3 0 y2 (am_w (y1 + y0))).bind fun h1 => ((am_isc h1 x0 1).bind fun _ => ((am_cI 181 [am_R x0] h1).bind fun r2 => ((am_gfR r2.2 x0 1 13).bind fun f3 => ((am_isc r2.2 f3 3).bind fun _ => ((am_cV 90 [am_R f3, am_I 6, am_I (-1), am_I r2.1] r2.2).bind fun h4 => some (some (am_I r2.1), h4))))))) :=
  (am_xs_run am_ms 182 [(.iadd, 1, []), (.iastore, 1, []), (.aload_n 0, 1, []), (.invokevirtual 208, 3, [0, 181, 1, 1, 1, 4052, 4053, 4054]), (.istore_n 1, 1, []), (.aload_n 0, 1, []), (.getfield 54, 3, [1, 13, 1178, 3]), (.bipush 6, 2, []), (.iconst (-1), 1, []), (.iload_n 1, 1, []), (.invokevirtual 171, 3, [0, 90, 4, 3, 0, 3157, 3158, 3159]), (.iload_n 1, 1, []), (.ireturn, 1, [0])] 72 _ _ h (by decide +kernel)).trans rfl
set_option maxHeartbeats 4000000 in
theorem bk_185_0 (x0 : Nat) (x1 : Int) (h : am_H) : am_run am_ms 185 0 [am_R x0, am_I x1] [] h = ((am_isc h x0 1).bind fun _ => ((am_cI 64 [am_R x0, am_I x1] h).bind fun r1 => (bif decide (¬ r1.1 = 0) then am_run am_ms 185 10 [am_R x0, am_I x1] [] r1.2 else some (some (am_I (-1)), r1.2)))) :=
  (am_xs_run am_ms 185 [(.aload_n 0, 1, []), (.iload_n 1, 1, []), (.invokevirtual 86, 3, [0, 64, 2, 1, 1, 3042, 3043, 3044]), (.ifCond .ne 5, 3, []), (.iconst (-1), 1, []), (.ireturn, 1, [0])] 0 _ _ h (by decide +kernel)).trans rfl
theorem en_185 (x0 : Nat) (x1 : Int) (h : am_H) : am_call am_ms 185 [am_R x0, am_I x1] h = am_run am_ms 185 0 [am_R x0, am_I x1] [] h := rfl
set_option maxHeartbeats 4000000 in
theorem bk_185_10 (x0 : Nat) (x1 : Int) (h : am_H) : am_run am_ms 185 10 [am_R x0, am_I x1] [] h = ((am_gfR h x0 1 2).bind fun f1 => ((am_rd h f1 0 x1).bind fun v2 => (bif decide (v2 = 1) then am_run am_ms 185 30 [am_R x0, am_I x1] [] h else ((am_gfR h x0 1 2).bind fun f3 => ((am_rd h f3 0 x1).bind fun v4 => (bif decide (¬ v4 = 3) then am_run am_ms 185 33 [am_R x0, am_I x1] [] h else am_run am_ms 185 30 [am_R x0, am_I x1] [] h)))))) :=
  (am_xs_run am_ms 185 [(.aload_n 0, 1, []), (.getfield 18, 3, [1, 2, 1152, 3]), (.iload_n 1, 1, []), (.iaload, 1, []), (.iconst 1, 1, []), (.if_icmp .eq 13, 3, []), (.aload_n 0, 1, []), (.getfield 18, 3, [1, 2, 1152, 3]), (.iload_n 1, 1, []), (.iaload, 1, []), (.iconst 3, 1, []), (.if_icmp .ne 6, 3, [])] 10 _ _ h (by decide +kernel)).trans rfl
set_option maxHeartbeats 4000000 in
theorem bk_185_30 (x0 : Nat) (x1 : Int) (h : am_H) : am_run am_ms 185 30 [am_R x0, am_I x1] [] h = some (some (am_I (-3)), h) :=
  (am_xs_run am_ms 185 [(.bipush (-3), 2, []), (.ireturn, 1, [0])] 30 _ _ h (by decide +kernel)).trans rfl
set_option maxHeartbeats 4000000 in
theorem bk_185_33 (x0 : Nat) (x1 : Int) (h : am_H) : am_run am_ms 185 33 [am_R x0, am_I x1] [] h = ((am_isc h x0 1).bind fun _ => ((am_cI 74 [am_R x0, am_I 1] h).bind fun r1 => ((am_gfR r1.2 x0 1 0).bind fun f2 => ((am_rd r1.2 f2 0 2).bind fun v3 => (bif decide (r1.1 < v3) then am_run am_ms 185 50 [am_R x0, am_I x1] [] r1.2 else some (some (am_I (-4)), r1.2)))))) :=
  (am_xs_run am_ms 185 [(.aload_n 0, 1, []), (.iconst 1, 1, []), (.invokevirtual 97, 3, [0, 74, 2, 1, 1, 3078, 3079, 3080]), (.aload_n 0, 1, []), (.getfield 9, 3, [1, 0, 1146, 3]), (.iconst 2, 1, []), (.iaload, 1, []), (.if_icmp .lt 6, 3, []), (.bipush (-4), 2, []), (.ireturn, 1, [0])] 33 _ _ h (by decide +kernel)).trans rfl
set_option maxHeartbeats 4000000 in
theorem bk_185_50 (x0 : Nat) (x1 : Int) (h : am_H) : am_run am_ms 185 50 [am_R x0, am_I x1] [] h = ((am_gfR h x0 1 2).bind fun f1 => ((am_rd h f1 0 x1).bind fun v2 => (bif decide (¬ v2 = 0) then am_run am_ms 185 75 [am_R x0, am_I x1] [] h else ((am_isc h x0 1).bind fun _ => ((am_cI 86 [am_R x0] h).bind fun r3 => ((am_gfR r3.2 x0 1 0).bind fun f4 => ((am_rd r3.2 f4 0 3).bind fun v5 => (bif decide (r3.1 < v5) then am_run am_ms 185 75 [am_R x0, am_I x1] [] r3.2 else some (some (am_I (-4)), r3.2))))))))) :=
  (am_xs_run am_ms 185 [(.aload_n 0, 1, []), (.getfield 18, 3, [1, 2, 1152, 3]), (.iload_n 1, 1, []), (.iaload, 1, []), (.ifCond .ne 19, 3, []), (.aload_n 0, 1, []), (.invokevirtual 175, 3, [0, 86, 1, 1, 1, 3137, 3138, 3139]), (.aload_n 0, 1, []), (.getfield 9, 3, [1, 0, 1146, 3]), (.iconst 3, 1, []), (.iaload, 1, []), (.if_icmp .lt 6, 3, []), (.bipush (-4), 2, []), (.ireturn, 1, [0])] 50 _ _ h (by decide +kernel)).trans rfl
set_option maxHeartbeats 4000000 in
theorem bk_185_75 (x0 : Nat) (x1 : Int) (h : am_H) : am_run am_ms 185 75 [am_R x0, am_I x1] [] h = ((am_gfR h x0 1 2).bind fun f1 => ((am_wr h f1 0 x1 1).bind fun h2 => ((am_gfR h2 x0 1 5).bind fun f3 => ((am_wr h2 f3 0 x1 0).bind fun h4 => ((am_gfR h4 x0 1 13).bind fun f5 => am_run am_ms 185 95 [am_R x0, am_I x1] [am_I x1, am_I 4, am_R f5] h4))))) :=
  (am_xs_run am_ms 185 [(.aload_n 0, 1, []), (.getfield 18, 3, [1, 2, 1152, 3]), (.iload_n 1, 1, []), (.iconst 1, 1, []), (.iastore, 1, []), (.aload_n 0, 1, []), (.getfield 27, 3, [1, 5, 1160, 3]), (.iload_n 1, 1, []), (.iconst 0, 1, []), (.iastore, 1, []), (.aload_n 0, 1, []), (.getfield 54, 3, [1, 13, 1178, 3]), (.iconst 4, 1, []), (.iload_n 1, 1, [])] 75 _ _ h (by decide +kernel)).trans rfl
set_option maxHeartbeats 4000000 in
theorem bk_185_95 (x0 : Nat) (x1 : Int) (y0 : Int) (y1 : Int) (y2 : Nat) (h : am_H) : am_run am_ms 185 95 [am_R x0, am_I x1] [am_I y0, am_I y1, am_R y2] h = ((am_isc h y2 3).bind fun _ => ((am_cV 90 [am_R y2, am_I y1, am_I y0, am_I 0] h).bind fun h1 => ((am_isc h1 x0 1).bind fun _ => ((am_cI 74 [am_R x0, am_I 1] h1).bind fun r2 => some (some (am_I r2.1), r2.2))))) :=
  (am_xs_run am_ms 185 [(.iconst 0, 1, []), (.invokevirtual 171, 3, [0, 90, 4, 3, 0, 3157, 3158, 3159]), (.aload_n 0, 1, []), (.iconst 1, 1, []), (.invokevirtual 97, 3, [0, 74, 2, 1, 1, 3078, 3079, 3080]), (.ireturn, 1, [0])] 95 _ _ h (by decide +kernel)).trans rfl
set_option maxHeartbeats 4000000 in
theorem bk_188_0 (x0 : Nat) (x1 : Int) (h : am_H) : am_run am_ms 188 0 [am_R x0, am_I x1] [] h = ((am_isc h x0 1).bind fun _ => ((am_cI 64 [am_R x0, am_I x1] h).bind fun r1 => (bif decide (¬ r1.1 = 0) then am_run am_ms 188 10 [am_R x0, am_I x1] [] r1.2 else some (some (am_I (-1)), r1.2)))) :=
  (am_xs_run am_ms 188 [(.aload_n 0, 1, []), (.iload_n 1, 1, []), (.invokevirtual 86, 3, [0, 64, 2, 1, 1, 3042, 3043, 3044]), (.ifCond .ne 5, 3, []), (.iconst (-1), 1, []), (.ireturn, 1, [0])] 0 _ _ h (by decide +kernel)).trans rfl
theorem en_188 (x0 : Nat) (x1 : Int) (h : am_H) : am_call am_ms 188 [am_R x0, am_I x1] h = am_run am_ms 188 0 [am_R x0, am_I x1] [] h := rfl
set_option maxHeartbeats 4000000 in
theorem bk_188_10 (x0 : Nat) (x1 : Int) (h : am_H) : am_run am_ms 188 10 [am_R x0, am_I x1] [] h = ((am_gfR h x0 1 2).bind fun f1 => ((am_rd h f1 0 x1).bind fun v2 => (bif decide (v2 = 1) then am_run am_ms 188 23 [am_R x0, am_I x1] [] h else some (some (am_I (-3)), h)))) :=
  (am_xs_run am_ms 188 [(.aload_n 0, 1, []), (.getfield 18, 3, [1, 2, 1152, 3]), (.iload_n 1, 1, []), (.iaload, 1, []), (.iconst 1, 1, []), (.if_icmp .eq 6, 3, []), (.bipush (-3), 2, []), (.ireturn, 1, [0])] 10 _ _ h (by decide +kernel)).trans rfl
set_option maxHeartbeats 4000000 in
theorem bk_188_23 (x0 : Nat) (x1 : Int) (h : am_H) : am_run am_ms 188 23 [am_R x0, am_I x1] [] h = ((am_isc h x0 1).bind fun _ => ((am_cV 96 [am_R x0, am_I x1] h).bind fun h1 => ((am_isc h1 x0 1).bind fun _ => ((am_cI 74 [am_R x0, am_I 1] h1).bind fun r2 => some (some (am_I r2.1), r2.2))))) :=
  (am_xs_run am_ms 188 [(.aload_n 0, 1, []), (.iload_n 1, 1, []), (.invokevirtual 196, 3, [0, 96, 2, 1, 0, 3173, 3175, 22]), (.aload_n 0, 1, []), (.iconst 1, 1, []), (.invokevirtual 97, 3, [0, 74, 2, 1, 1, 3078, 3079, 3080]), (.ireturn, 1, [0])] 23 _ _ h (by decide +kernel)).trans rfl
set_option maxHeartbeats 4000000 in
theorem bk_191_0 (x0 : Nat) (x1 : Int) (h : am_H) : am_run am_ms 191 0 [am_R x0, am_I x1] [] h = ((am_isc h x0 1).bind fun _ => ((am_cI 64 [am_R x0, am_I x1] h).bind fun r1 => (bif decide (¬ r1.1 = 0) then am_run am_ms 191 10 [am_R x0, am_I x1] [] r1.2 else some (some (am_I (-1)), r1.2)))) :=
  (am_xs_run am_ms 191 [(.aload_n 0, 1, []), (.iload_n 1, 1, []), (.invokevirtual 86, 3, [0, 64, 2, 1, 1, 3042, 3043, 3044]), (.ifCond .ne 5, 3, []), (.iconst (-1), 1, []), (.ireturn, 1, [0])] 0 _ _ h (by decide +kernel)).trans rfl
theorem en_191 (x0 : Nat) (x1 : Int) (h : am_H) : am_call am_ms 191 [am_R x0, am_I x1] h = am_run am_ms 191 0 [am_R x0, am_I x1] [] h := rfl
set_option maxHeartbeats 4000000 in
theorem bk_191_10 (x0 : Nat) (x1 : Int) (h : am_H) : am_run am_ms 191 10 [am_R x0, am_I x1] [] h = ((am_isc h x0 1).bind fun _ => ((am_cI 87 [am_R x0, am_I x1] h).bind fun r1 => (bif decide (¬ r1.1 = 0) then am_run am_ms 191 21 [am_R x0, am_I x1] [] r1.2 else some (some (am_I (-3)), r1.2)))) :=
  (am_xs_run am_ms 191 [(.aload_n 0, 1, []), (.iload_n 1, 1, []), (.invokevirtual 187, 3, [0, 87, 2, 1, 1, 3145, 3146, 3147]), (.ifCond .ne 6, 3, []), (.bipush (-3), 2, []), (.ireturn, 1, [0])] 10 _ _ h (by decide +kernel)).trans rfl
set_option maxHeartbeats 4000000 in
theorem bk_191_21 (x0 : Nat) (x1 : Int) (h : am_H) : am_run am_ms 191 21 [am_R x0, am_I x1] [] h = ((am_isc h x0 1).bind fun _ => ((am_cV 91 [am_R x0, am_I x1] h).bind fun h1 => ((am_gfR h1 x0 1 3).bind fun f2 => ((am_rd h1 f2 0 x1).bind fun v3 => some (some (am_I v3), h1))))) :=
  (am_xs_run am_ms 191 [(.aload_n 0, 1, []), (.iload_n 1, 1, []), (.invokevirtual 181, 3, [0, 91, 2, 1, 0, 3153, 3155, 18]), (.aload_n 0, 1, []), (.getfield 21, 3, [1, 3, 1155, 3]), (.iload_n 1, 1, []), (.iaload, 1, []), (.ireturn, 1, [0])] 21 _ _ h (by decide +kernel)).trans rfl
set_option maxHeartbeats 4000000 in
theorem bk_194_0 (x0 : Nat) (x1 : Int) (h : am_H) : am_run am_ms 194 0 [am_R x0, am_I x1] [] h = ((am_isc h x0 1).bind fun _ => ((am_cI 64 [am_R x0, am_I x1] h).bind fun r1 => (bif decide (¬ r1.1 = 0) then am_run am_ms 194 10 [am_R x0, am_I x1] [] r1.2 else some (some (am_I (-1)), r1.2)))) :=
  (am_xs_run am_ms 194 [(.aload_n 0, 1, []), (.iload_n 1, 1, []), (.invokevirtual 86, 3, [0, 64, 2, 1, 1, 3042, 3043, 3044]), (.ifCond .ne 5, 3, []), (.iconst (-1), 1, []), (.ireturn, 1, [0])] 0 _ _ h (by decide +kernel)).trans rfl
theorem en_194 (x0 : Nat) (x1 : Int) (h : am_H) : am_call am_ms 194 [am_R x0, am_I x1] h = am_run am_ms 194 0 [am_R x0, am_I x1] [] h := rfl
set_option maxHeartbeats 4000000 in
theorem bk_194_10 (x0 : Nat) (x1 : Int) (h : am_H) : am_run am_ms 194 10 [am_R x0, am_I x1] [] h = ((am_gfR h x0 1 2).bind fun f1 => ((am_rd h f1 0 x1).bind fun v2 => (bif decide (¬ v2 = 0) then am_run am_ms 194 22 [am_R x0, am_I x1] [] h else some (some (am_I (-3)), h)))) :=
  (am_xs_run am_ms 194 [(.aload_n 0, 1, []), (.getfield 18, 3, [1, 2, 1152, 3]), (.iload_n 1, 1, []), (.iaload, 1, []), (.ifCond .ne 6, 3, []), (.bipush (-3), 2, []), (.ireturn, 1, [0])] 10 _ _ h (by decide +kernel)).trans rfl
set_option maxHeartbeats 4000000 in
theorem bk_194_22 (x0 : Nat) (x1 : Int) (h : am_H) : am_run am_ms 194 22 [am_R x0, am_I x1] [] h = ((am_isc h x0 1).bind fun _ => ((am_cI 79 [am_R x0, am_I x1] h).bind fun r1 => (bif decide (r1.1 ≤ 0) then am_run am_ms 194 33 [am_R x0, am_I x1] [] r1.2 else some (some (am_I (-4)), r1.2)))) :=
  (am_xs_run am_ms 194 [(.aload_n 0, 1, []), (.iload_n 1, 1, []), (.invokevirtual 103, 3, [0, 79, 2, 1, 1, 3103, 3104, 3105]), (.ifCond .le 6, 3, []), (.bipush (-4), 2, []), (.ireturn, 1, [0])] 22 _ _ h (by decide +kernel)).trans rfl
set_option maxHeartbeats 4000000 in
theorem bk_194_33 (x0 : Nat) (x1 : Int) (h : am_H) : am_run am_ms 194 33 [am_R x0, am_I x1] [] h = ((am_isc h x0 1).bind fun _ => ((am_cV 100 [am_R x0, am_I x1] h).bind fun h1 => ((am_gfR h1 x0 1 4).bind fun f2 => ((am_rd h1 f2 0 x1).bind fun v3 => some (some (am_I v3), h1))))) :=
  (am_xs_run am_ms 194 [(.aload_n 0, 1, []), (.iload_n 1, 1, []), (.invokevirtual 162, 3, [0, 100, 2, 1, 0, 3185, 3187, 25]), (.aload_n 0, 1, []), (.getfield 24, 3, [1, 4, 1157, 3]), (.iload_n 1, 1, []), (.iaload, 1, []), (.ireturn, 1, [0])] 33 _ _ h (by decide +kernel)).trans rfl
set_option maxHeartbeats 4000000 in
theorem bk_198_0 (x0 : Nat) (x1 : Int) (h : am_H) : am_run am_ms 198 0 [am_R x0, am_I x1, am_K 1] [] h = ((am_gfR h x0 1 0).bind fun f1 => ((am_rd h f1 0 0).bind fun v2 => (bif decide (¬ v2 = 0) then am_run am_ms 198 11 [am_R x0, am_I x1, am_K 1] [] h else some (some (am_I (-1)), h)))) :=
  (am_xs_run am_ms 198 [(.aload_n 0, 1, []), (.getfield 9, 3, [1, 0, 1146, 3]), (.iconst 0, 1, []), (.iaload, 1, []), (.ifCond .ne 5, 3, []), (.iconst (-1), 1, []), (.ireturn, 1, [0])] 0 _ _ h (by decide +kernel)).trans rfl
theorem en_198 (x0 : Nat) (x1 : Int) (h : am_H) : am_call am_ms 198 [am_R x0, am_I x1] h = am_run am_ms 198 0 [am_R x0, am_I x1, am_K 1] [] h := rfl
set_option maxHeartbeats 4000000 in
theorem bk_198_11 (x0 : Nat) (x1 : Int) (h : am_H) : am_run am_ms 198 11 [am_R x0, am_I x1, am_K 1] [] h = ((am_cI 197 [am_I x1] h).bind fun r1 => (bif decide (¬ r1.1 = 0) then am_run am_ms 198 21 [am_R x0, am_I x1, am_K 1] [] r1.2 else some (some (am_I (-2)), r1.2))) :=
  (am_xs_run am_ms 198 [(.iload_n 1, 1, []), (.invokestatic 214, 3, [4, 197, 1, 0, 1, 4096, 4097]), (.ifCond .ne 6, 3, []), (.bipush (-2), 2, []), (.ireturn, 1, [0])] 11 _ _ h (by decide +kernel)).trans rfl
set_option maxHeartbeats 4000000 in
theorem bk_198_21 (x0 : Nat) (x1 : Int) (h : am_H) : am_run am_ms 198 21 [am_R x0, am_I x1, am_K 1] [] h = ((am_gfR h x0 1 0).bind fun f1 => ((am_rd h f1 0 6).bind fun v2 => (bif decide (¬ v2 = x1) then am_run am_ms 198 37 [am_R x0, am_I x1, am_I v2] [] h else some (some (am_I (-3)), h)))) :=
  (am_xs_run am_ms 198 [(.aload_n 0, 1, []), (.getfield 9, 3, [1, 0, 1146, 3]), (.bipush 6, 2, []), (.iaload, 1, []), (.istore_n 2, 1, []), (.iload_n 2, 1, []), (.iload_n 1, 1, []), (.if_icmp .ne 6, 3, []), (.bipush (-3), 2, []), (.ireturn, 1, [0])] 21 _ _ h (by decide +kernel)).trans rfl
set_option maxHeartbeats 4000000 in
theorem bk_198_37 (x0 : Nat) (x1 : Int) (x2 : Int) (h : am_H) : am_run am_ms 198 37 [am_R x0, am_I x1, am_I x2] [] h = ((am_gfR h x0 1 0).bind fun f1 => ((am_wr h f1 0 6 x1).bind fun h2 => some (some (am_I x2), h2))) :=
  (am_xs_run am_ms 198 [(.aload_n 0, 1, []), (.getfield 9, 3, [1, 0, 1146, 3]), (.bipush 6, 2, []), (.iload_n 1, 1, []), (.iastore, 1, []), (.iload_n 2, 1, []), (.ireturn, 1, [0])] 37 _ _ h (by decide +kernel)).trans rfl
set_option maxHeartbeats 4000000 in
theorem bk_221_0 (x0 : Nat) (h : am_H) : am_run am_ms 221 0 [am_R x0] [] h = ((am_gfR h x0 1 1).bind fun f1 => ((am_rd h f1 0 0).bind fun v2 => ((am_gfR h x0 1 1).bind fun f3 => ((am_rd h f3 0 1).bind fun v4 => some (some (am_I (am_w (v2 + v4))), h))))) :=
  (am_xs_run am_ms 221 [(.aload_n 0, 1, []), (.getfield 15, 3, [1, 1, 1150, 3]), (.iconst 0, 1, []), (.iaload, 1, []), (.aload_n 0, 1, []), (.getfield 15, 3, [1, 1, 1150, 3]), (.iconst 1, 1, []), (.iaload, 1, []), (.iadd, 1, []), (.ireturn, 1, [0])] 0 _ _ h (by decide +kernel)).trans rfl
theorem en_221 (x0 : Nat) (h : am_H) : am_call am_ms 221 [am_R x0] h = am_run am_ms 221 0 [am_R x0] [] h := rfl
set_option maxHeartbeats 4000000 in
theorem bk_275_0 (x0 : Nat) (h : am_H) : am_run am_ms 275 0 [am_R x0, am_K 1, am_K 1] [] h = am_run am_ms 275 4 [am_R x0, am_I 0, am_I 0] [] h :=
  (am_xs_run am_ms 275 [(.iconst 0, 1, []), (.istore_n 1, 1, []), (.iconst 0, 1, []), (.istore_n 2, 1, [])] 0 _ _ h (by decide +kernel)).trans rfl
theorem en_275 (x0 : Nat) (h : am_H) : am_call am_ms 275 [am_R x0] h = am_run am_ms 275 0 [am_R x0, am_K 1, am_K 1] [] h := rfl
set_option maxHeartbeats 4000000 in
theorem bk_275_4 (x0 : Nat) (x1 : Int) (x2 : Int) (h : am_H) : am_run am_ms 275 4 [am_R x0, am_I x1, am_I x2] [] h = ((am_gfR h x0 1 0).bind fun f1 => ((am_rd h f1 0 0).bind fun v2 => (bif decide (v2 ≤ x2) then am_run am_ms 275 29 [am_R x0, am_I x1, am_I x2] [] h else ((am_gfR h x0 1 3).bind fun f3 => ((am_rd h f3 0 x2).bind fun v4 => am_run am_ms 275 26 [am_R x0, am_I (am_w (x1 + v4)), am_I (am_w (x2 + 1))] [] h))))) :=
  (am_xs_run am_ms 275 [(.iload_n 2, 1, []), (.aload_n 0, 1, []), (.getfield 9, 3, [1, 0, 1146, 3]), (.iconst 0, 1, []), (.iaload, 1, []), (.if_icmp .ge 18, 3, []), (.iload_n 1, 1, []), (.aload_n 0, 1, []), (.getfield 21, 3, [1, 3, 1155, 3]), (.iload_n 2, 1, []), (.iaload, 1, []), (.iadd, 1, []), (.istore_n 1, 1, []), (.iinc 2 1, 3, [])] 4 _ _ h (by decide +kernel)).trans rfl
set_option maxHeartbeats 4000000 in
theorem bk_275_26 (x0 : Nat) (x1 : Int) (x2 : Int) (h : am_H) : am_run am_ms 275 26 [am_R x0, am_I x1, am_I x2] [] h = am_run am_ms 275 4 [am_R x0, am_I x1, am_I x2] [] h :=
  (am_xs_run am_ms 275 [(.goto (-22), 3, [])] 26 _ _ h (by decide +kernel)).trans rfl
set_option maxHeartbeats 4000000 in
theorem bk_275_29 (x0 : Nat) (x1 : Int) (x2 : Int) (h : am_H) : am_run am_ms 275 29 [am_R x0, am_I x1, am_I x2] [] h = some (some (am_I x1), h) :=
  (am_xs_run am_ms 275 [(.iload_n 1, 1, []), (.ireturn, 1, [0])] 29 _ _ h (by decide +kernel)).trans rfl
