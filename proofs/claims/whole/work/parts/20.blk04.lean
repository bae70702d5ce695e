/-! ===== BLOCK LAWS: printed by a program of ours ===== -/
set_option maxHeartbeats 4000000 in
theorem bk_283_0 (x0 : Nat) (h : am_H) : am_run am_ms 283 0 [am_R x0, am_K 1, am_K 1, am_K 1] [] h = am_run am_ms 283 6 [am_R x0, am_I (-1), am_I 0, am_I 0] [] h :=
  (am_xs_run am_ms 283 [(.iconst (-1), 1, []), (.istore_n 1, 1, []), (.iconst 0, 1, []), (.istore_n 2, 1, []), (.iconst 0, 1, []), (.istore_n 3, 1, [])] 0 _ _ h (by decide +kernel)).trans rfl
theorem en_283 (x0 : Nat) (h : am_H) : am_call am_ms 283 [am_R x0] h = am_run am_ms 283 0 [am_R x0, am_K 1, am_K 1, am_K 1] [] h := rfl
set_option maxHeartbeats 4000000 in
theorem bk_283_6 (x0 : Nat) (x1 : Int) (x2 : Int) (x3 : Int) (h : am_H) : am_run am_ms 283 6 [am_R x0, am_I x1, am_I x2, am_I x3] [] h = ((am_gfR h x0 1 0).bind fun f1 => ((am_rd h f1 0 0).bind fun v2 => (bif decide (v2 ≤ x3) then am_run am_ms 283 54 [am_R x0, am_I x1, am_I x2, am_I x3] [] h else ((am_gfR h x0 1 2).bind fun f3 => ((am_rd h f3 0 x3).bind fun v4 => (bif decide (¬ v4 = 3) then am_run am_ms 283 48 [am_R x0, am_I x1, am_I x2, am_I x3] [] h else am_run am_ms 283 28 [am_R x0, am_I x1, am_I x2, am_I x3] [am_I (-1), am_I x1] h)))))) :=
  (am_xs_run am_ms 283 [(.iload_n 3, 1, []), (.aload_n 0, 1, []), (.getfield 32, 3, [1, 0, 1148, 3]), (.iconst 0, 1, []), (.iaload, 1, []), (.if_icmp .ge 41, 3, []), (.aload_n 0, 1, []), (.getfield 70, 3, [1, 2, 1153, 3]), (.iload_n 3, 1, []), (.iaload, 1, []), (.iconst 3, 1, []), (.if_icmp .ne 25, 3, []), (.iload_n 1, 1, []), (.iconst (-1), 1, [])] 6 _ _ h (by decide +kernel)).trans rfl
set_option maxHeartbeats 4000000 in
theorem bk_283_28 (x0 : Nat) (x1 : Int) (x2 : Int) (x3 : Int) (y0 : Int) (y1 : Int) (h : am_H) : am_run am_ms 283 28 [am_R x0, am_I x1, am_I x2, am_I x3] [am_I y0, am_I y1] h = (bif decide (y1 = y0) then am_run am_ms 283 40 [am_R x0, am_I x1, am_I x2, am_I x3] [] h else ((am_isc h x0 1).bind fun _ => ((am_cI 80 [am_R x0, am_I x3] h).bind fun r1 => (bif decide (r1.1 ≤ x2) then am_run am_ms 283 48 [am_R x0, am_I x1, am_I x2, am_I x3] [] r1.2 else am_run am_ms 283 40 [am_R x0, am_I x1, am_I x2, am_I x3] [] r1.2)))) :=
  (am_xs_run am_ms 283 [(.if_icmp .eq 12, 3, []), (.aload_n 0, 1, []), (.iload_n 3, 1, []), (.invokevirtual 73, 3, [0, 80, 2, 1, 1, 5069, 3100, 3101]), (.iload_n 2, 1, []), (.if_icmp .le 11, 3, [])] 28 _ _ h (by decide +kernel)).trans rfl
set_option maxHeartbeats 4000000 in
theorem bk_283_40 (x0 : Nat) (x1 : Int) (x2 : Int) (x3 : Int) (h : am_H) : am_run am_ms 283 40 [am_R x0, am_I x1, am_I x2, am_I x3] [] h = ((am_isc h x0 1).bind fun _ => ((am_cI 80 [am_R x0, am_I x3] h).bind fun r1 => am_run am_ms 283 48 [am_R x0, am_I x3, am_I r1.1, am_I x3] [] r1.2)) :=
  (am_xs_run am_ms 283 [(.iload_n 3, 1, []), (.istore_n 1, 1, []), (.aload_n 0, 1, []), (.iload_n 3, 1, []), (.invokevirtual 73, 3, [0, 80, 2, 1, 1, 5069, 3100, 3101]), (.istore_n 2, 1, [])] 40 _ _ h (by decide +kernel)).trans rfl
set_option maxHeartbeats 4000000 in
theorem bk_283_48 (x0 : Nat) (x1 : Int) (x2 : Int) (x3 : Int) (h : am_H) : am_run am_ms 283 48 [am_R x0, am_I x1, am_I x2, am_I x3] [] h = am_run am_ms 283 6 [am_R x0, am_I x1, am_I x2, am_I (am_w (x3 + 1))] [] h :=
  (am_xs_run am_ms 283 [(.iinc 3 1, 3, []), (.goto (-45), 3, [])] 48 _ _ h (by decide +kernel)).trans rfl
set_option maxHeartbeats 4000000 in
theorem bk_283_54 (x0 : Nat) (x1 : Int) (x2 : Int) (x3 : Int) (h : am_H) : am_run am_ms 283 54 [am_R x0, am_I x1, am_I x2, am_I x3] [] h = some (some (am_I x1), h) :=
  (am_xs_run am_ms 283 [(.iload_n 1, 1, []), (.ireturn, 1, [0])] 54 _ _ h (by decide +kernel)).trans rfl
set_option maxHeartbeats 4000000 in
theorem bk_284_0 (x0 : Nat) (h : am_H) : am_run am_ms 284 0 [am_R x0, am_K 1, am_K 1] [] h = am_run am_ms 284 4 [am_R x0, am_I 0, am_I 1] [] h :=
  (am_xs_run am_ms 284 [(.iconst 0, 1, []), (.istore_n 1, 1, []), (.iconst 1, 1, []), (.istore_n 2, 1, [])] 0 _ _ h (by decide +kernel)).trans rfl
theorem en_284 (x0 : Nat) (h : am_H) : am_call am_ms 284 [am_R x0] h = am_run am_ms 284 0 [am_R x0, am_K 1, am_K 1] [] h := rfl
set_option maxHeartbeats 4000000 in
theorem bk_284_4 (x0 : Nat) (x1 : Int) (x2 : Int) (h : am_H) : am_run am_ms 284 4 [am_R x0, am_I x1, am_I x2] [] h = ((am_gfR h x0 1 0).bind fun f1 => ((am_rd h f1 0 0).bind fun v2 => (bif decide (v2 ≤ x2) then am_run am_ms 284 37 [am_R x0, am_I x1, am_I x2] [] h else ((am_gfR h x0 1 4).bind fun f3 => ((am_rd h f3 0 x2).bind fun v4 => ((am_gfR h x0 1 4).bind fun f5 => ((am_rd h f5 0 x1).bind fun v6 => am_run am_ms 284 26 [am_R x0, am_I x1, am_I x2] [am_I v6, am_I v4] h))))))) :=
  (am_xs_run am_ms 284 [(.iload_n 2, 1, []), (.aload_n 0, 1, []), (.getfield 32, 3, [1, 0, 1148, 3]), (.iconst 0, 1, []), (.iaload, 1, []), (.if_icmp .ge 26, 3, []), (.aload_n 0, 1, []), (.getfield 59, 3, [1, 4, 1158, 3]), (.iload_n 2, 1, []), (.iaload, 1, []), (.aload_n 0, 1, []), (.getfield 59, 3, [1, 4, 1158, 3]), (.iload_n 1, 1, []), (.iaload, 1, [])] 4 _ _ h (by decide +kernel)).trans rfl
set_option maxHeartbeats 4000000 in
theorem bk_284_26 (x0 : Nat) (x1 : Int) (x2 : Int) (y0 : Int) (y1 : Int) (h : am_H) : am_run am_ms 284 26 [am_R x0, am_I x1, am_I x2] [am_I y0, am_I y1] h = (bif decide (y1 ≤ y0) then am_run am_ms 284 31 [am_R x0, am_I x1, am_I x2] [] h else am_run am_ms 284 31 [am_R x0, am_I x2, am_I x2] [] h) :=
  (am_xs_run am_ms 284 [(.if_icmp .le 5, 3, []), (.iload_n 2, 1, []), (.istore_n 1, 1, [])] 26 _ _ h (by decide +kernel)).trans rfl
set_option maxHeartbeats 4000000 in
theorem bk_284_31 (x0 : Nat) (x1 : Int) (x2 : Int) (h : am_H) : am_run am_ms 284 31 [am_R x0, am_I x1, am_I x2] [] h = am_run am_ms 284 4 [am_R x0, am_I x1, am_I (am_w (x2 + 1))] [] h :=
  (am_xs_run am_ms 284 [(.iinc 2 1, 3, []), (.goto (-30), 3, [])] 31 _ _ h (by decide +kernel)).trans rfl
set_option maxHeartbeats 4000000 in
theorem bk_284_37 (x0 : Nat) (x1 : Int) (x2 : Int) (h : am_H) : am_run am_ms 284 37 [am_R x0, am_I x1, am_I x2] [] h = some (some (am_I x1), h) :=
  (am_xs_run am_ms 284 [(.iload_n 1, 1, []), (.ireturn, 1, [0])] 37 _ _ h (by decide +kernel)).trans rfl
set_option maxHeartbeats 4000000 in
theorem bk_285_0 (x0 : Nat) (h : am_H) : am_run am_ms 285 0 [am_R x0, am_K 1] [] h = ((am_cI 270 [am_R x0, am_I 0] h).bind fun r1 => (bif decide (¬ r1.1 = (-1)) then am_run am_ms 285 15 [am_R x0, am_I r1.1] [] r1.2 else am_run am_ms 285 19 [am_R x0, am_I r1.1] [am_I (-1)] r1.2)) :=
  (am_xs_run am_ms 285 [(.aload_n 0, 1, []), (.iconst 0, 1, []), (.invokestatic 76, 3, [1, 270, 2, 0, 1, 5076, 5040]), (.istore_n 1, 1, []), (.iload_n 1, 1, []), (.iconst (-1), 1, []), (.if_icmp .ne 7, 3, []), (.iconst (-1), 1, []), (.goto 7, 3, [])] 0 _ _ h (by decide +kernel)).trans rfl
theorem en_285 (x0 : Nat) (h : am_H) : am_call am_ms 285 [am_R x0] h = am_run am_ms 285 0 [am_R x0, am_K 1] [] h := rfl
set_option maxHeartbeats 4000000 in
theorem bk_285_15 (x0 : Nat) (x1 : Int) (h : am_H) : am_run am_ms 285 15 [am_R x0, am_I x1] [] h = (if 16 = 0 then none else am_run am_ms 285 19 [am_R x0, am_I x1] [am_I (am_div x1 16)] h) :=
  (am_xs_run am_ms 285 [(.iload_n 1, 1, []), (.bipush 16, 2, []), (.idiv, 1, [])] 15 _ _ h (by decide +kernel)).trans rfl
set_option maxHeartbeats 4000000 in
theorem bk_285_19 (x0 : Nat) (x1 : Int) (y0 : Int) (h : am_H) : am_run am_ms 285 19 [am_R x0, am_I x1] [am_I y0] h = some (some (am_I y0), h) :=
  (am_xs_run am_ms 285 [(.ireturn, 1, [0])] 19 _ _ h (by decide +kernel)).trans rfl
set_option maxHeartbeats 4000000 in
theorem bk_286_0 (x0 : Nat) (x1 : Int) (h : am_H) : am_run am_ms 286 0 [am_R x0, am_I x1, am_K 1, am_K 1] [] h = am_run am_ms 286 4 [am_R x0, am_I x1, am_I 0, am_I 0] [] h :=
  (am_xs_run am_ms 286 [(.iconst 0, 1, []), (.istore_n 2, 1, []), (.iconst 0, 1, []), (.istore_n 3, 1, [])] 0 _ _ h (by decide +kernel)).trans rfl
theorem en_286 (x0 : Nat) (x1 : Int) (h : am_H) : am_call am_ms 286 [am_R x0, am_I x1] h = am_run am_ms 286 0 [am_R x0, am_I x1, am_K 1, am_K 1] [] h := rfl
set_option maxHeartbeats 4000000 in
theorem bk_286_4 (x0 : Nat) (x1 : Int) (x2 : Int) (x3 : Int) (h : am_H) : am_run am_ms 286 4 [am_R x0, am_I x1, am_I x2, am_I x3] [] h = ((am_gfR h x0 1 0).bind fun f1 => ((am_rd h f1 0 0).bind fun v2 => (bif decide (v2 ≤ x3) then am_run am_ms 286 36 [am_R x0, am_I x1, am_I x2, am_I x3] [] h else ((am_gfR h x0 1 2).bind fun f3 => ((am_rd h f3 0 x3).bind fun v4 => (bif decide (¬ v4 = x1) then am_run am_ms 286 30 [am_R x0, am_I x1, am_I x2, am_I x3] [] h else am_run am_ms 286 26 [am_R x0, am_I x1, am_I x2, am_I x3] [am_I 1, am_I x2] h)))))) :=
  (am_xs_run am_ms 286 [(.iload_n 3, 1, []), (.aload_n 0, 1, []), (.getfield 32, 3, [1, 0, 1148, 3]), (.iconst 0, 1, []), (.iaload, 1, []), (.if_icmp .ge 25, 3, []), (.aload_n 0, 1, []), (.getfield 70, 3, [1, 2, 1153, 3]), (.iload_n 3, 1, []), (.iaload, 1, []), (.iload_n 1, 1, []), (.if_icmp .ne 9, 3, []), (.iload_n 2, 1, []), (.iconst 1, 1, [])] 4 _ _ h (by decide +kernel)).trans rfl
set_option maxHeartbeats 4000000 in
theorem bk_286_26 (x0 : Nat) (x1 : Int) (x2 : Int) (x3 : Int) (y0 : Int) (y1 : Int) (h : am_H) : am_run am_ms 286 26 [am_R x0, am_I x1, am_I x2, am_I x3] [am_I y0, am_I y1] h = am_run am_ms 286 30 [am_R x0, am_I x1, am_I (am_or y1 (am_shl y0 x3)), am_I x3] [] h :=
  (am_xs_run am_ms 286 [(.iload_n 3, 1, []), (.ishl, 1, []), (.ior, 1, []), (.istore_n 2, 1, [])] 26 _ _ h (by decide +kernel)).trans rfl
set_option maxHeartbeats 4000000 in
theorem bk_286_30 (x0 : Nat) (x1 : Int) (x2 : Int) (x3 : Int) (h : am_H) : am_run am_ms 286 30 [am_R x0, am_I x1, am_I x2, am_I x3] [] h = am_run am_ms 286 4 [am_R x0, am_I x1, am_I x2, am_I (am_w (x3 + 1))] [] h :=
  (am_xs_run am_ms 286 [(.iinc 3 1, 3, []), (.goto (-29), 3, [])] 30 _ _ h (by decide +kernel)).trans rfl
set_option maxHeartbeats 4000000 in
theorem bk_286_36 (x0 : Nat) (x1 : Int) (x2 : Int) (x3 : Int) (h : am_H) : am_run am_ms 286 36 [am_R x0, am_I x1, am_I x2, am_I x3] [] h = some (some (am_I x2), h) :=
  (am_xs_run am_ms 286 [(.iload_n 2, 1, []), (.ireturn, 1, [0])] 36 _ _ h (by decide +kernel)).trans rfl
set_option maxHeartbeats 4000000 in
theorem bk_287_0 (x0 : Nat) (h : am_H) : am_run am_ms 287 0 [am_R x0, am_K 1, am_K 1] [] h = am_run am_ms 287 4 [am_R x0, am_I 0, am_I 0] [] h :=
  (am_xs_run am_ms 287 [(.iconst 0, 1, []), (.istore_n 1, 1, []), (.iconst 0, 1, []), (.istore_n 2, 1, [])] 0 _ _ h (by decide +kernel)).trans rfl
theorem en_287 (x0 : Nat) (h : am_H) : am_call am_ms 287 [am_R x0] h = am_run am_ms 287 0 [am_R x0, am_K 1, am_K 1] [] h := rfl
set_option maxHeartbeats 4000000 in
theorem bk_287_4 (x0 : Nat) (x1 : Int) (x2 : Int) (h : am_H) : am_run am_ms 287 4 [am_R x0, am_I x1, am_I x2] [] h = ((am_gfR h x0 1 0).bind fun f1 => ((am_rd h f1 0 0).bind fun v2 => (bif decide (v2 ≤ x2) then am_run am_ms 287 28 [am_R x0, am_I x1, am_I x2] [] h else ((am_isc h x0 1).bind fun _ => ((am_cI 79 [am_R x0, am_I x2] h).bind fun r3 => am_run am_ms 287 4 [am_R x0, am_I (am_w (x1 + r3.1)), am_I (am_w (x2 + 1))] [] r3.2))))) :=
  (am_xs_run am_ms 287 [(.iload_n 2, 1, []), (.aload_n 0, 1, []), (.getfield 32, 3, [1, 0, 1148, 3]), (.iconst 0, 1, []), (.iaload, 1, []), (.if_icmp .ge 17, 3, []), (.iload_n 1, 1, []), (.aload_n 0, 1, []), (.iload_n 2, 1, []), (.invokevirtual 79, 3, [0, 79, 2, 1, 1, 5083, 3104, 3105]), (.iadd, 1, []), (.istore_n 1, 1, []), (.iinc 2 1, 3, []), (.goto (-21), 3, [])] 4 _ _ h (by decide +kernel)).trans rfl
set_option maxHeartbeats 4000000 in
theorem bk_287_28 (x0 : Nat) (x1 : Int) (x2 : Int) (h : am_H) : am_run am_ms 287 28 [am_R x0, am_I x1, am_I x2] [] h = some (some (am_I x1), h) :=
  (am_xs_run am_ms 287 [(.iload_n 1, 1, []), (.ireturn, 1, [0])] 28 _ _ h (by decide +kernel)).trans rfl
set_option maxHeartbeats 4000000 in
theorem bk_288_0 (x0 : Nat) (h : am_H) : am_run am_ms 288 0 [am_R x0] [] h = ((am_cI 287 [am_R x0] h).bind fun r1 => ((am_isc r1.2 x0 1).bind fun _ => ((am_cI 181 [am_R x0] r1.2).bind fun r2 => some (some (am_I (am_w (r1.1 - r2.1))), r2.2)))) :=
  (am_xs_run am_ms 288 [(.aload_n 0, 1, []), (.invokestatic 82, 3, [1, 287, 1, 0, 1, 5087, 5081]), (.aload_n 0, 1, []), (.invokevirtual 86, 3, [0, 181, 1, 1, 1, 5088, 4053, 4054]), (.isub, 1, []), (.ireturn, 1, [0])] 0 _ _ h (by decide +kernel)).trans rfl
theorem en_288 (x0 : Nat) (h : am_H) : am_call am_ms 288 [am_R x0] h = am_run am_ms 288 0 [am_R x0] [] h := rfl
set_option maxHeartbeats 4000000 in
theorem bk_289_0 (x0 : Nat) (h : am_H) : am_run am_ms 289 0 [am_R x0, am_K 1, am_K 1, am_K 1] [] h = am_run am_ms 289 6 [am_R x0, am_I (-1), am_I 0, am_I 0] [] h :=
  (am_xs_run am_ms 289 [(.iconst (-1), 1, []), (.istore_n 1, 1, []), (.iconst 0, 1, []), (.istore_n 2, 1, []), (.iconst 0, 1, []), (.istore_n 3, 1, [])] 0 _ _ h (by decide +kernel)).trans rfl
theorem en_289 (x0 : Nat) (h : am_H) : am_call am_ms 289 [am_R x0] h = am_run am_ms 289 0 [am_R x0, am_K 1, am_K 1, am_K 1] [] h := rfl
set_option maxHeartbeats 4000000 in
theorem bk_289_6 (x0 : Nat) (x1 : Int) (x2 : Int) (x3 : Int) (h : am_H) : am_run am_ms 289 6 [am_R x0, am_I x1, am_I x2, am_I x3] [] h = (bif decide (32 ≤ x3) then am_run am_ms 289 37 [am_R x0, am_I x1, am_I x2, am_I x3] [] h else ((am_gfR h x0 1 12).bind fun f1 => ((am_rd h f1 0 x3).bind fun v2 => (bif decide (v2 ≤ x2) then am_run am_ms 289 31 [am_R x0, am_I x1, am_I x2, am_I x3] [] h else ((am_gfR h x0 1 12).bind fun f3 => am_run am_ms 289 29 [am_R x0, am_I x3, am_I x2, am_I x3] [am_I x3, am_R f3] h))))) :=
  (am_xs_run am_ms 289 [(.iload_n 3, 1, []), (.bipush 32, 2, []), (.if_icmp .ge 28, 3, []), (.aload_n 0, 1, []), (.getfield 90, 3, [1, 12, 1177, 3]), (.iload_n 3, 1, []), (.iaload, 1, []), (.iload_n 2, 1, []), (.if_icmp .le 12, 3, []), (.iload_n 3, 1, []), (.istore_n 1, 1, []), (.aload_n 0, 1, []), (.getfield 90, 3, [1, 12, 1177, 3]), (.iload_n 3, 1, [])] 6 _ _ h (by decide +kernel)).trans rfl
set_option maxHeartbeats 4000000 in
theorem bk_289_29 (x0 : Nat) (x1 : Int) (x2 : Int) (x3 : Int) (y0 : Int) (y1 : Nat) (h : am_H) : am_run am_ms 289 29 [am_R x0, am_I x1, am_I x2, am_I x3] [am_I y0, am_R y1] h = ((am_rd h y1 0 y0).bind fun v1 => am_run am_ms 289 31 [am_R x0, am_I x1, am_I v1, am_I x3] [] h) :=
  (am_xs_run am_ms 289 [(.iaload, 1, []), (.istore_n 2, 1, [])] 29 _ _ h (by decide +kernel)).trans rfl
set_option maxHeartbeats 4000000 in
theorem bk_289_31 (x0 : Nat) (x1 : Int) (x2 : Int) (x3 : Int) (h : am_H) : am_run am_ms 289 31 [am_R x0, am_I x1, am_I x2, am_I x3] [] h = am_run am_ms 289 6 [am_R x0, am_I x1, am_I x2, am_I (am_w (x3 + 1))] [] h :=
  (am_xs_run am_ms 289 [(.iinc 3 1, 3, []), (.goto (-28), 3, [])] 31 _ _ h (by decide +kernel)).trans rfl
set_option maxHeartbeats 4000000 in
theorem bk_289_37 (x0 : Nat) (x1 : Int) (x2 : Int) (x3 : Int) (h : am_H) : am_run am_ms 289 37 [am_R x0, am_I x1, am_I x2, am_I x3] [] h = some (some (am_I x1), h) :=
  (am_xs_run am_ms 289 [(.iload_n 1, 1, []), (.ireturn, 1, [0])] 37 _ _ h (by decide +kernel)).trans rfl
set_option maxHeartbeats 4000000 in
theorem bk_290_0 (x0 : Nat) (x1 : Int) (h : am_H) : am_run am_ms 290 0 [am_R x0, am_I x1] [] h = ((am_isc h x0 8).bind fun _ => ((am_cI 137 [am_R x0] h).bind fun r1 => (bif decide (¬ r1.1 = 0) then am_run am_ms 290 10 [am_R x0, am_I x1] [] r1.2 else some (some (am_I (-1000000)), r1.2)))) :=
  (am_xs_run am_ms 290 [(.aload_n 0, 1, []), (.invokevirtual 136, 3, [0, 137, 1, 8, 1, 3202, 3204, 27]), (.ifCond .ne 6, 3, []), (.ldc 172, 2, [0, -1000000, 3211]), (.ireturn, 1, [0])] 0 _ _ h (by decide +kernel)).trans rfl
theorem en_290 (x0 : Nat) (x1 : Int) (h : am_H) : am_call am_ms 290 [am_R x0, am_I x1] h = am_run am_ms 290 0 [am_R x0, am_I x1] [] h := rfl
set_option maxHeartbeats 4000000 in
theorem bk_290_10 (x0 : Nat) (x1 : Int) (h : am_H) : am_run am_ms 290 10 [am_R x0, am_I x1] [] h = (bif decide (x1 < 11) then am_run am_ms 290 35 [am_R x0, am_I x1] [] h else (bif decide (15 < x1) then am_run am_ms 290 35 [am_R x0, am_I x1] [] h else ((am_gfR h x0 8 4).bind fun f1 => ((am_gfR h f1 1 1).bind fun f2 => ((am_rd h f2 0 (am_w (x1 - 11))).bind fun v3 => some (some (am_I v3), h)))))) :=
  (am_xs_run am_ms 290 [(.iload_n 1, 1, []), (.bipush 11, 2, []), (.if_icmp .lt 22, 3, []), (.iload_n 1, 1, []), (.bipush 15, 2, []), (.if_icmp .gt 16, 3, []), (.aload_n 0, 1, []), (.getfield 34, 3, [8, 4, 2041, 3]), (.getfield 245, 3, [1, 1, 1151, 3]), (.iload_n 1, 1, []), (.bipush 11, 2, []), (.isub, 1, []), (.iaload, 1, []), (.ireturn, 1, [0])] 10 _ _ h (by decide +kernel)).trans rfl
set_option maxHeartbeats 4000000 in
theorem bk_290_35 (x0 : Nat) (x1 : Int) (h : am_H) : am_run am_ms 290 35 [am_R x0, am_I x1] [] h = am_run am_ms 290 36 [am_R x0, am_I x1] [am_I x1] h :=
  (am_xs_run am_ms 290 [(.iload_n 1, 1, [])] 35 _ _ h (by decide +kernel)).trans rfl
theorem bk_290_36 (x0 : Nat) (x1 : Int) (y0 : Int) (h : am_H) : am_run am_ms 290 36 [am_R x0, am_I x1] [am_I y0] h = am_run am_ms 290 (am_tsw 36 193 0 16 #[84, 92, 100, 108, 117, 126, 144, 153, 161, 169, 177, 193, 193, 193, 193, 193, 185] y0) [am_R x0, am_I x1] [] h := by
  rw [am_run_eq, show am_code am_ms 290 36 = some (.tableswitch 193 0 16 #[84, 92, 100, 108, 117, 126, 144, 153, 161, 169, 177, 193, 193, 193, 193, 193, 185], 84, []) from by decide +kernel]
  rfl
set_option maxHeartbeats 4000000 in
theorem bk_290_120 (x0 : Nat) (x1 : Int) (h : am_H) : am_run am_ms 290 120 [am_R x0, am_I x1] [] h = ((am_gfR h x0 8 4).bind fun f1 => ((am_cI 283 [am_R f1] h).bind fun r2 => some (some (am_I r2.1), r2.2))) :=
  (am_xs_run am_ms 290 [(.aload_n 0, 1, []), (.getfield 34, 3, [8, 4, 2041, 3]), (.invokestatic 354, 3, [1, 283, 1, 0, 1, 5066, 5067]), (.ireturn, 1, [0])] 120 _ _ h (by decide +kernel)).trans rfl
set_option maxHeartbeats 4000000 in
theorem bk_290_128 (x0 : Nat) (x1 : Int) (h : am_H) : am_run am_ms 290 128 [am_R x0, am_I x1] [] h = ((am_gfR h x0 8 4).bind fun f1 => ((am_cI 284 [am_R f1] h).bind fun r2 => some (some (am_I r2.1), r2.2))) :=
  (am_xs_run am_ms 290 [(.aload_n 0, 1, []), (.getfield 34, 3, [8, 4, 2041, 3]), (.invokestatic 357, 3, [1, 284, 1, 0, 1, 5070, 5071]), (.ireturn, 1, [0])] 128 _ _ h (by decide +kernel)).trans rfl
set_option maxHeartbeats 4000000 in
theorem bk_290_136 (x0 : Nat) (x1 : Int) (h : am_H) : am_run am_ms 290 136 [am_R x0, am_I x1] [] h = ((am_gfR h x0 8 4).bind fun f1 => ((am_cI 285 [am_R f1] h).bind fun r2 => some (some (am_I r2.1), r2.2))) :=
  (am_xs_run am_ms 290 [(.aload_n 0, 1, []), (.getfield 34, 3, [8, 4, 2041, 3]), (.invokestatic 360, 3, [1, 285, 1, 0, 1, 5073, 5074]), (.ireturn, 1, [0])] 136 _ _ h (by decide +kernel)).trans rfl
set_option maxHeartbeats 4000000 in
theorem bk_290_144 (x0 : Nat) (x1 : Int) (h : am_H) : am_run am_ms 290 144 [am_R x0, am_I x1] [] h = ((am_gfR h x0 8 4).bind fun f1 => ((am_cI 286 [am_R f1, am_I 0] h).bind fun r2 => some (some (am_I r2.1), r2.2))) :=
  (am_xs_run am_ms 290 [(.aload_n 0, 1, []), (.getfield 34, 3, [8, 4, 2041, 3]), (.iconst 0, 1, []), (.invokestatic 363, 3, [1, 286, 2, 0, 1, 5077, 5078]), (.ireturn, 1, [0])] 144 _ _ h (by decide +kernel)).trans rfl
set_option maxHeartbeats 4000000 in
theorem bk_290_153 (x0 : Nat) (x1 : Int) (h : am_H) : am_run am_ms 290 153 [am_R x0, am_I x1] [] h = ((am_gfR h x0 8 4).bind fun f1 => ((am_cI 286 [am_R f1, am_I 1] h).bind fun r2 => some (some (am_I r2.1), r2.2))) :=
  (am_xs_run am_ms 290 [(.aload_n 0, 1, []), (.getfield 34, 3, [8, 4, 2041, 3]), (.iconst 1, 1, []), (.invokestatic 363, 3, [1, 286, 2, 0, 1, 5077, 5078]), (.ireturn, 1, [0])] 153 _ _ h (by decide +kernel)).trans rfl
set_option maxHeartbeats 4000000 in
theorem bk_290_162 (x0 : Nat) (x1 : Int) (h : am_H) : am_run am_ms 290 162 [am_R x0, am_I x1] [] h = ((am_gfR h x0 8 4).bind fun f1 => ((am_cI 286 [am_R f1, am_I 1] h).bind fun r2 => ((am_gfR r2.2 x0 8 4).bind fun f3 => ((am_cI 286 [am_R f3, am_I 2] r2.2).bind fun r4 => some (some (am_I (am_or r2.1 r4.1)), r4.2))))) :=
  (am_xs_run am_ms 290 [(.aload_n 0, 1, []), (.getfield 34, 3, [8, 4, 2041, 3]), (.iconst 1, 1, []), (.invokestatic 363, 3, [1, 286, 2, 0, 1, 5077, 5078]), (.aload_n 0, 1, []), (.getfield 34, 3, [8, 4, 2041, 3]), (.iconst 2, 1, []), (.invokestatic 363, 3, [1, 286, 2, 0, 1, 5077, 5078]), (.ior, 1, []), (.ireturn, 1, [0])] 162 _ _ h (by decide +kernel)).trans rfl
set_option maxHeartbeats 4000000 in
theorem bk_290_180 (x0 : Nat) (x1 : Int) (h : am_H) : am_run am_ms 290 180 [am_R x0, am_I x1] [] h = ((am_gfR h x0 8 4).bind fun f1 => ((am_cI 286 [am_R f1, am_I 3] h).bind fun r2 => some (some (am_I r2.1), r2.2))) :=
  (am_xs_run am_ms 290 [(.aload_n 0, 1, []), (.getfield 34, 3, [8, 4, 2041, 3]), (.iconst 3, 1, []), (.invokestatic 363, 3, [1, 286, 2, 0, 1, 5077, 5078]), (.ireturn, 1, [0])] 180 _ _ h (by decide +kernel)).trans rfl
set_option maxHeartbeats 4000000 in
theorem bk_290_189 (x0 : Nat) (x1 : Int) (h : am_H) : am_run am_ms 290 189 [am_R x0, am_I x1] [] h = ((am_gfR h x0 8 4).bind fun f1 => ((am_cI 287 [am_R f1] h).bind fun r2 => some (some (am_I r2.1), r2.2))) :=
  (am_xs_run am_ms 290 [(.aload_n 0, 1, []), (.getfield 34, 3, [8, 4, 2041, 3]), (.invokestatic 366, 3, [1, 287, 1, 0, 1, 5080, 5081]), (.ireturn, 1, [0])] 189 _ _ h (by decide +kernel)).trans rfl
set_option maxHeartbeats 4000000 in
theorem bk_290_197 (x0 : Nat) (x1 : Int) (h : am_H) : am_run am_ms 290 197 [am_R x0, am_I x1] [] h = ((am_gfR h x0 8 4).bind fun f1 => ((am_isc h f1 1).bind fun _ => ((am_cI 275 [am_R f1] h).bind fun r2 => some (some (am_I r2.1), r2.2)))) :=
  (am_xs_run am_ms 290 [(.aload_n 0, 1, []), (.getfield 34, 3, [8, 4, 2041, 3]), (.invokevirtual 351, 3, [0, 275, 1, 1, 1, 5050, 5051, 5052]), (.ireturn, 1, [0])] 197 _ _ h (by decide +kernel)).trans rfl
set_option maxHeartbeats 4000000 in
theorem bk_290_205 (x0 : Nat) (x1 : Int) (h : am_H) : am_run am_ms 290 205 [am_R x0, am_I x1] [] h = ((am_gfR h x0 8 4).bind fun f1 => ((am_cI 288 [am_R f1] h).bind fun r2 => some (some (am_I r2.1), r2.2))) :=
  (am_xs_run am_ms 290 [(.aload_n 0, 1, []), (.getfield 34, 3, [8, 4, 2041, 3]), (.invokestatic 369, 3, [1, 288, 1, 0, 1, 5084, 5085]), (.ireturn, 1, [0])] 205 _ _ h (by decide +kernel)).trans rfl
set_option maxHeartbeats 4000000 in
theorem bk_290_213 (x0 : Nat) (x1 : Int) (h : am_H) : am_run am_ms 290 213 [am_R x0, am_I x1] [] h = ((am_gfR h x0 8 4).bind fun f1 => ((am_isc h f1 1).bind fun _ => ((am_cI 181 [am_R f1] h).bind fun r2 => some (some (am_I r2.1), r2.2)))) :=
  (am_xs_run am_ms 290 [(.aload_n 0, 1, []), (.getfield 34, 3, [8, 4, 2041, 3]), (.invokevirtual 372, 3, [0, 181, 1, 1, 1, 5089, 4053, 4054]), (.ireturn, 1, [0])] 213 _ _ h (by decide +kernel)).trans rfl
set_option maxHeartbeats 4000000 in
theorem bk_290_221 (x0 : Nat) (x1 : Int) (h : am_H) : am_run am_ms 290 221 [am_R x0, am_I x1] [] h = ((am_gfR h x0 8 4).bind fun f1 => ((am_cI 289 [am_R f1] h).bind fun r2 => some (some (am_I r2.1), r2.2))) :=
  (am_xs_run am_ms 290 [(.aload_n 0, 1, []), (.getfield 34, 3, [8, 4, 2041, 3]), (.invokestatic 375, 3, [1, 289, 1, 0, 1, 5090, 5091]), (.ireturn, 1, [0])] 221 _ _ h (by decide +kernel)).trans rfl
set_option maxHeartbeats 4000000 in
theorem bk_290_229 (x0 : Nat) (x1 : Int) (h : am_H) : am_run am_ms 290 229 [am_R x0, am_I x1] [] h = some (some (am_I (-1000000)), h) :=
  (am_xs_run am_ms 290 [(.ldc 172, 2, [0, -1000000, 3211]), (.ireturn, 1, [0])] 229 _ _ h (by decide +kernel)).trans rfl
set_option maxHeartbeats 4000000 in
theorem bk_291_0 (x0 : Nat) (h : am_H) : am_run am_ms 291 0 [am_R x0, am_K 1, am_K 1] [] h = am_run am_ms 291 4 [am_R x0, am_I (-1), am_I 0] [] h :=
  (am_xs_run am_ms 291 [(.iconst (-1), 1, []), (.istore_n 1, 1, []), (.iconst 0, 1, []), (.istore_n 2, 1, [])] 0 _ _ h (by decide +kernel)).trans rfl
theorem en_291 (x0 : Nat) (h : am_H) : am_call am_ms 291 [am_R x0] h = am_run am_ms 291 0 [am_R x0, am_K 1, am_K 1] [] h := rfl
set_option maxHeartbeats 4000000 in
theorem bk_291_4 (x0 : Nat) (x1 : Int) (x2 : Int) (h : am_H) : am_run am_ms 291 4 [am_R x0, am_I x1, am_I x2] [] h = ((am_gfR h x0 9 6).bind fun f1 => ((am_rd h f1 0 0).bind fun v2 => (bif decide (v2 ≤ x2) then am_run am_ms 291 60 [am_R x0, am_I x1, am_I x2] [] h else ((am_gfR h x0 9 15).bind fun f3 => ((am_rd h f3 0 (am_w (0 + x2))).bind fun v4 => (bif decide (¬ v4 = 3) then am_run am_ms 291 54 [am_R x0, am_I x1, am_I x2] [] h else am_run am_ms 291 26 [am_R x0, am_I x1, am_I x2] [] h)))))) :=
  (am_xs_run am_ms 291 [(.iload_n 2, 1, []), (.aload_n 0, 1, []), (.getfield 17, 3, [9, 6, 5189, 3]), (.iconst 0, 1, []), (.iaload, 1, []), (.if_icmp .ge 49, 3, []), (.aload_n 0, 1, []), (.getfield 32, 3, [9, 15, 5198, 3]), (.iconst 0, 1, []), (.iload_n 2, 1, []), (.iadd, 1, []), (.iaload, 1, []), (.iconst 3, 1, []), (.if_icmp .ne 31, 3, [])] 4 _ _ h (by decide +kernel)).trans rfl
set_option maxHeartbeats 4000000 in
theorem bk_291_26 (x0 : Nat) (x1 : Int) (x2 : Int) (h : am_H) : am_run am_ms 291 26 [am_R x0, am_I x1, am_I x2] [] h = (bif decide (x1 = (-1)) then am_run am_ms 291 52 [am_R x0, am_I x1, am_I x2] [] h else ((am_gfR h x0 9 15).bind fun f1 => ((am_isc h x0 9).bind fun _ => ((am_cI 116 [am_R x0, am_R f1, am_I x2] h).bind fun r2 => ((am_gfR r2.2 x0 9 15).bind fun f3 => ((am_isc r2.2 x0 9).bind fun _ => ((am_cI 116 [am_R x0, am_R f3, am_I x1] r2.2).bind fun r4 => (bif decide (r2.1 ≤ r4.1) then am_run am_ms 291 54 [am_R x0, am_I x1, am_I x2] [] r4.2 else am_run am_ms 291 52 [am_R x0, am_I x1, am_I x2] [] r4.2)))))))) :=
  (am_xs_run am_ms 291 [(.iload_n 1, 1, []), (.iconst (-1), 1, []), (.if_icmp .eq 24, 3, []), (.aload_n 0, 1, []), (.aload_n 0, 1, []), (.getfield 32, 3, [9, 15, 5198, 3]), (.iload_n 2, 1, []), (.invokevirtual 240, 3, [0, 116, 3, 9, 1, 6182, 6184, 56]), (.aload_n 0, 1, []), (.aload_n 0, 1, []), (.getfield 32, 3, [9, 15, 5198, 3]), (.iload_n 1, 1, []), (.invokevirtual 240, 3, [0, 116, 3, 9, 1, 6182, 6184, 56]), (.if_icmp .le 5, 3, [])] 26 _ _ h (by decide +kernel)).trans rfl
set_option maxHeartbeats 4000000 in
theorem bk_291_52 (x0 : Nat) (x1 : Int) (x2 : Int) (h : am_H) : am_run am_ms 291 52 [am_R x0, am_I x1, am_I x2] [] h = am_run am_ms 291 54 [am_R x0, am_I x2, am_I x2] [] h :=
  (am_xs_run am_ms 291 [(.iload_n 2, 1, []), (.istore_n 1, 1, [])] 52 _ _ h (by decide +kernel)).trans rfl
set_option maxHeartbeats 4000000 in
theorem bk_291_54 (x0 : Nat) (x1 : Int) (x2 : Int) (h : am_H) : am_run am_ms 291 54 [am_R x0, am_I x1, am_I x2] [] h = am_run am_ms 291 4 [am_R x0, am_I x1, am_I (am_w (x2 + 1))] [] h :=
  (am_xs_run am_ms 291 [(.iinc 2 1, 3, []), (.goto (-53), 3, [])] 54 _ _ h (by decide +kernel)).trans rfl
set_option maxHeartbeats 4000000 in
theorem bk_291_60 (x0 : Nat) (x1 : Int) (x2 : Int) (h : am_H) : am_run am_ms 291 60 [am_R x0, am_I x1, am_I x2] [] h = some (some (am_I x1), h) :=
  (am_xs_run am_ms 291 [(.iload_n 1, 1, []), (.ireturn, 1, [0])] 60 _ _ h (by decide +kernel)).trans rfl
set_option maxHeartbeats 4000000 in
theorem bk_292_0 (x0 : Nat) (h : am_H) : am_run am_ms 292 0 [am_R x0, am_K 1, am_K 1] [] h = am_run am_ms 292 4 [am_R x0, am_I 0, am_I 1] [] h :=
  (am_xs_run am_ms 292 [(.iconst 0, 1, []), (.istore_n 1, 1, []), (.iconst 1, 1, []), (.istore_n 2, 1, [])] 0 _ _ h (by decide +kernel)).trans rfl
theorem en_292 (x0 : Nat) (h : am_H) : am_call am_ms 292 [am_R x0] h = am_run am_ms 292 0 [am_R x0, am_K 1, am_K 1] [] h := rfl
set_option maxHeartbeats 4000000 in
theorem bk_292_4 (x0 : Nat) (x1 : Int) (x2 : Int) (h : am_H) : am_run am_ms 292 4 [am_R x0, am_I x1, am_I x2] [] h = ((am_gfR h x0 9 6).bind fun f1 => ((am_rd h f1 0 0).bind fun v2 => (bif decide (v2 ≤ x2) then am_run am_ms 292 43 [am_R x0, am_I x1, am_I x2] [] h else ((am_gfR h x0 9 15).bind fun f3 => ((am_rd h f3 0 (am_w (16 + x2))).bind fun v4 => ((am_gfR h x0 9 15).bind fun f5 => am_run am_ms 292 27 [am_R x0, am_I x1, am_I x2] [am_R f5, am_I v4] h)))))) :=
  (am_xs_run am_ms 292 [(.iload_n 2, 1, []), (.aload_n 0, 1, []), (.getfield 17, 3, [9, 6, 5189, 3]), (.iconst 0, 1, []), (.iaload, 1, []), (.if_icmp .ge 32, 3, []), (.aload_n 0, 1, []), (.getfield 32, 3, [9, 15, 5198, 3]), (.bipush 16, 2, []), (.iload_n 2, 1, []), (.iadd, 1, []), (.iaload, 1, []), (.aload_n 0, 1, []), (.getfield 32, 3, [9, 15, 5198, 3])] 4 _ _ h (by decide +kernel)).trans rfl
set_option maxHeartbeats 4000000 in
theorem bk_292_27 (x0 : Nat) (x1 : Int) (x2 : Int) (y0 : Nat) (y1 : Int) (h : am_H) : am_run am_ms 292 27 [am_R x0, am_I x1, am_I x2] [am_R y0, am_I y1] h = ((am_rd h y0 0 (am_w (16 + x1))).bind fun v1 => (bif decide (y1 ≤ v1) then am_run am_ms 292 37 [am_R x0, am_I x1, am_I x2] [] h else am_run am_ms 292 37 [am_R x0, am_I x2, am_I x2] [] h)) :=
  (am_xs_run am_ms 292 [(.bipush 16, 2, []), (.iload_n 1, 1, []), (.iadd, 1, []), (.iaload, 1, []), (.if_icmp .le 5, 3, []), (.iload_n 2, 1, []), (.istore_n 1, 1, [])] 27 _ _ h (by decide +kernel)).trans rfl
set_option maxHeartbeats 4000000 in
theorem bk_292_37 (x0 : Nat) (x1 : Int) (x2 : Int) (h : am_H) : am_run am_ms 292 37 [am_R x0, am_I x1, am_I x2] [] h = am_run am_ms 292 4 [am_R x0, am_I x1, am_I (am_w (x2 + 1))] [] h :=
  (am_xs_run am_ms 292 [(.iinc 2 1, 3, []), (.goto (-36), 3, [])] 37 _ _ h (by decide +kernel)).trans rfl
set_option maxHeartbeats 4000000 in
theorem bk_292_43 (x0 : Nat) (x1 : Int) (x2 : Int) (h : am_H) : am_run am_ms 292 43 [am_R x0, am_I x1, am_I x2] [] h = some (some (am_I x1), h) :=
  (am_xs_run am_ms 292 [(.iload_n 1, 1, []), (.ireturn, 1, [0])] 43 _ _ h (by decide +kernel)).trans rfl
set_option maxHeartbeats 4000000 in
theorem bk_293_0 (x0 : Nat) (h : am_H) : am_run am_ms 293 0 [am_R x0, am_K 1] [] h = ((am_isc h x0 9).bind fun _ => ((am_cV 272 [am_R x0] h).bind fun h1 => ((am_isc h1 x0 9).bind fun _ => ((am_cI 273 [am_R x0, am_I 0] h1).bind fun r2 => (bif decide (¬ r2.1 = (-1)) then am_run am_ms 293 19 [am_R x0, am_I r2.1] [] r2.2 else am_run am_ms 293 23 [am_R x0, am_I r2.1] [am_I (-1)] r2.2))))) :=
  (am_xs_run am_ms 293 [(.aload_n 0, 1, []), (.invokevirtual 390, 3, [0, 272, 1, 9, 0, 8038, 8040, 98]), (.aload_n 0, 1, []), (.iconst 0, 1, []), (.invokevirtual 393, 3, [0, 273, 2, 9, 1, 8042, 8044, 99]), (.istore_n 1, 1, []), (.iload_n 1, 1, []), (.iconst (-1), 1, []), (.if_icmp .ne 7, 3, []), (.iconst (-1), 1, []), (.goto 7, 3, [])] 0 _ _ h (by decide +kernel)).trans rfl
theorem en_293 (x0 : Nat) (h : am_H) : am_call am_ms 293 [am_R x0] h = am_run am_ms 293 0 [am_R x0, am_K 1] [] h := rfl
set_option maxHeartbeats 4000000 in
theorem bk_293_19 (x0 : Nat) (x1 : Int) (h : am_H) : am_run am_ms 293 19 [am_R x0, am_I x1] [] h = (if 16 = 0 then none else am_run am_ms 293 23 [am_R x0, am_I x1] [am_I (am_div x1 16)] h) :=
  (am_xs_run am_ms 293 [(.iload_n 1, 1, []), (.bipush 16, 2, []), (.idiv, 1, [])] 19 _ _ h (by decide +kernel)).trans rfl
set_option maxHeartbeats 4000000 in
theorem bk_293_23 (x0 : Nat) (x1 : Int) (y0 : Int) (h : am_H) : am_run am_ms 293 23 [am_R x0, am_I x1] [am_I y0] h = some (some (am_I y0), h) :=
  (am_xs_run am_ms 293 [(.ireturn, 1, [0])] 23 _ _ h (by decide +kernel)).trans rfl
set_option maxHeartbeats 4000000 in
theorem bk_294_0 (x0 : Nat) (x1 : Int) (x2 : Int) (h : am_H) : am_run am_ms 294 0 [am_R x0, am_I x1, am_I x2, am_K 1, am_K 1] [] h = am_run am_ms 294 5 [am_R x0, am_I x1, am_I x2, am_I 0, am_I 0] [] h :=
  (am_xs_run am_ms 294 [(.iconst 0, 1, []), (.istore_n 3, 1, []), (.iconst 0, 1, []), (.istore 4, 2, [])] 0 _ _ h (by decide +kernel)).trans rfl
theorem en_294 (x0 : Nat) (x1 : Int) (x2 : Int) (h : am_H) : am_call am_ms 294 [am_R x0, am_I x1, am_I x2] h = am_run am_ms 294 0 [am_R x0, am_I x1, am_I x2, am_K 1, am_K 1] [] h := rfl
set_option maxHeartbeats 4000000 in
theorem bk_294_5 (x0 : Nat) (x1 : Int) (x2 : Int) (x3 : Int) (x4 : Int) (h : am_H) : am_run am_ms 294 5 [am_R x0, am_I x1, am_I x2, am_I x3, am_I x4] [] h = ((am_gfR h x0 9 6).bind fun f1 => ((am_rd h f1 0 0).bind fun v2 => (bif decide (v2 ≤ x4) then am_run am_ms 294 59 [am_R x0, am_I x1, am_I x2, am_I x3, am_I x4] [] h else ((am_gfR h x0 9 15).bind fun f3 => ((am_rd h f3 0 (am_w (0 + x4))).bind fun v4 => am_run am_ms 294 27 [am_R x0, am_I x1, am_I x2, am_I x3, am_I x4] [am_I x1, am_I v4, am_I x3] h))))) :=
  (am_xs_run am_ms 294 [(.iload 4, 2, []), (.aload_n 0, 1, []), (.getfield 17, 3, [9, 6, 5189, 3]), (.iconst 0, 1, []), (.iaload, 1, []), (.if_icmp .ge 46, 3, []), (.iload_n 3, 1, []), (.aload_n 0, 1, []), (.getfield 32, 3, [9, 15, 5198, 3]), (.iconst 0, 1, []), (.iload 4, 2, []), (.iadd, 1, []), (.iaload, 1, []), (.iload_n 1, 1, [])] 5 _ _ h (by decide +kernel)).trans rfl
set_option maxHeartbeats 4000000 in
theorem bk_294_27 (x0 : Nat) (x1 : Int) (x2 : Int) (x3 : Int) (x4 : Int) (y0 : Int) (y1 : Int) (y2 : Int) (h : am_H) : am_run am_ms 294 27 [am_R x0, am_I x1, am_I x2, am_I x3, am_I x4] [am_I y0, am_I y1, am_I y2] h = (bif decide (y1 = y0) then am_run am_ms 294 43 [am_R x0, am_I x1, am_I x2, am_I x3, am_I x4] [am_I y2] h else ((am_gfR h x0 9 15).bind fun f1 => ((am_rd h f1 0 (am_w (0 + x4))).bind fun v2 => (bif decide (¬ v2 = x2) then am_run am_ms 294 50 [am_R x0, am_I x1, am_I x2, am_I x3, am_I x4] [am_I y2] h else am_run am_ms 294 43 [am_R x0, am_I x1, am_I x2, am_I x3, am_I x4] [am_I y2] h)))) :=
  (am_xs_run am_ms 294 [(.if_icmp .eq 16, 3, []), (.aload_n 0, 1, []), (.getfield 32, 3, [9, 15, 5198, 3]), (.iconst 0, 1, []), (.iload 4, 2, []), (.iadd, 1, []), (.iaload, 1, []), (.iload_n 2, 1, []), (.if_icmp .ne 10, 3, [])] 27 _ _ h (by decide +kernel)).trans rfl
set_option maxHeartbeats 4000000 in
theorem bk_294_43 (x0 : Nat) (x1 : Int) (x2 : Int) (x3 : Int) (x4 : Int) (y0 : Int) (h : am_H) : am_run am_ms 294 43 [am_R x0, am_I x1, am_I x2, am_I x3, am_I x4] [am_I y0] h = am_run am_ms 294 51 [am_R x0, am_I x1, am_I x2, am_I x3, am_I x4] [am_I (am_shl 1 x4), am_I y0] h :=
  (am_xs_run am_ms 294 [(.iconst 1, 1, []), (.iload 4, 2, []), (.ishl, 1, []), (.goto 4, 3, [])] 43 _ _ h (by decide +kernel)).trans rfl
set_option maxHeartbeats 4000000 in
theorem bk_294_50 (x0 : Nat) (x1 : Int) (x2 : Int) (x3 : Int) (x4 : Int) (y0 : Int) (h : am_H) : am_run am_ms 294 50 [am_R x0, am_I x1, am_I x2, am_I x3, am_I x4] [am_I y0] h = am_run am_ms 294 51 [am_R x0, am_I x1, am_I x2, am_I x3, am_I x4] [am_I 0, am_I y0] h :=
  (am_xs_run am_ms 294 [(.iconst 0, 1, [])] 50 _ _ h (by decide +kernel)).trans rfl
set_option maxHeartbeats 4000000 in
theorem bk_294_51 (x0 : Nat) (x1 : Int) (x2 : Int) (x3 : Int) (x4 : Int) (y0 : Int) (y1 : Int) (h : am_H) : am_run am_ms 294 51 [am_R x0, am_I x1, am_I x2, am_I x3, am_I x4] [am_I y0, am_I y1] h = am_run am_ms 294 5 [am_R x0, am_I x1, am_I x2, am_I (am_or y1 y0), am_I (am_w (x4 + 1))] [] h :=
  (am_xs_run am_ms 294 [(.ior, 1, []), (.istore_n 3, 1, []), (.iinc 4 1, 3, []), (.goto (-51), 3, [])] 51 _ _ h (by decide +kernel)).trans rfl
set_option maxHeartbeats 4000000 in
theorem bk_294_59 (x0 : Nat) (x1 : Int) (x2 : Int) (x3 : Int) (x4 : Int) (h : am_H) : am_run am_ms 294 59 [am_R x0, am_I x1, am_I x2, am_I x3, am_I x4] [] h = some (some (am_I x3), h) :=
  (am_xs_run am_ms 294 [(.iload_n 3, 1, []), (.ireturn, 1, [0])] 59 _ _ h (by decide +kernel)).trans rfl
set_option maxHeartbeats 4000000 in
theorem bk_295_0 (x0 : Nat) (x1 : Int) (h : am_H) : am_run am_ms 295 0 [am_R x0, am_I x1, am_K 1, am_K 1] [] h = ((am_isc h x0 9).bind fun _ => ((am_cV 272 [am_R x0] h).bind fun h1 => am_run am_ms 295 8 [am_R x0, am_I x1, am_I 0, am_I 0] [] h1)) :=
  (am_xs_run am_ms 295 [(.aload_n 0, 1, []), (.invokevirtual 390, 3, [0, 272, 1, 9, 0, 8038, 8040, 98]), (.iconst 0, 1, []), (.istore_n 2, 1, []), (.iconst 0, 1, []), (.istore_n 3, 1, [])] 0 _ _ h (by decide +kernel)).trans rfl
theorem en_295 (x0 : Nat) (x1 : Int) (h : am_H) : am_call am_ms 295 [am_R x0, am_I x1] h = am_run am_ms 295 0 [am_R x0, am_I x1, am_K 1, am_K 1] [] h := rfl
set_option maxHeartbeats 4000000 in
theorem bk_295_8 (x0 : Nat) (x1 : Int) (x2 : Int) (x3 : Int) (h : am_H) : am_run am_ms 295 8 [am_R x0, am_I x1, am_I x2, am_I x3] [] h = (bif decide (128 ≤ x3) then am_run am_ms 295 56 [am_R x0, am_I x1, am_I x2, am_I x3] [] h else ((am_gfR h x0 9 30).bind fun f1 => ((am_rd h f1 0 x3).bind fun v2 => (bif decide (v2 ≤ 0) then am_run am_ms 295 47 [am_R x0, am_I x1, am_I x2, am_I x3] [am_I x2] h else (bif decide (x1 = 0) then am_run am_ms 295 43 [am_R x0, am_I x1, am_I x2, am_I x3] [am_I x2] h else ((am_gfR h x0 9 15).bind fun f3 => am_run am_ms 295 36 [am_R x0, am_I x1, am_I x2, am_I x3] [am_I 160, am_R f3, am_I x2] h)))))) :=
  (am_xs_run am_ms 295 [(.iload_n 3, 1, []), (.sipush 128, 3, []), (.if_icmp .ge 44, 3, []), (.iload_n 2, 1, []), (.aload_n 0, 1, []), (.getfield 50, 3, [9, 30, 5213, 3]), (.iload_n 3, 1, []), (.iaload, 1, []), (.ifCond .le 25, 3, []), (.iload_n 1, 1, []), (.ifCond .eq 17, 3, []), (.aload_n 0, 1, []), (.getfield 32, 3, [9, 15, 5198, 3]), (.sipush 160, 3, [])] 8 _ _ h (by decide +kernel)).trans rfl
set_option maxHeartbeats 4000000 in
theorem bk_295_36 (x0 : Nat) (x1 : Int) (x2 : Int) (x3 : Int) (y0 : Int) (y1 : Nat) (y2 : Int) (h : am_H) : am_run am_ms 295 36 [am_R x0, am_I x1, am_I x2, am_I x3] [am_I y0, am_R y1, am_I y2] h = ((am_rd h y1 0 (am_w (y0 + x3))).bind fun v1 => (bif decide (¬ v1 = (-1)) then am_run am_ms 295 47 [am_R x0, am_I x1, am_I x2, am_I x3] [am_I y2] h else am_run am_ms 295 43 [am_R x0, am_I x1, am_I x2, am_I x3] [am_I y2] h)) :=
  (am_xs_run am_ms 295 [(.iload_n 3, 1, []), (.iadd, 1, []), (.iaload, 1, []), (.iconst (-1), 1, []), (.if_icmp .ne 7, 3, [])] 36 _ _ h (by decide +kernel)).trans rfl
set_option maxHeartbeats 4000000 in
theorem bk_295_43 (x0 : Nat) (x1 : Int) (x2 : Int) (x3 : Int) (y0 : Int) (h : am_H) : am_run am_ms 295 43 [am_R x0, am_I x1, am_I x2, am_I x3] [am_I y0] h = am_run am_ms 295 48 [am_R x0, am_I x1, am_I x2, am_I x3] [am_I 1, am_I y0] h :=
  (am_xs_run am_ms 295 [(.iconst 1, 1, []), (.goto 4, 3, [])] 43 _ _ h (by decide +kernel)).trans rfl
set_option maxHeartbeats 4000000 in
theorem bk_295_47 (x0 : Nat) (x1 : Int) (x2 : Int) (x3 : Int) (y0 : Int) (h : am_H) : am_run am_ms 295 47 [am_R x0, am_I x1, am_I x2, am_I x3] [am_I y0] h = am_run am_ms 295 48 [am_R x0, am_I x1, am_I x2, am_I x3] [am_I 0, am_I y0] h :=
  (am_xs_run am_ms 295 [(.iconst 0, 1, [])] 47 _ _ h (by decide +kernel)).trans rfl
set_option maxHeartbeats 4000000 in
theorem bk_295_48 (x0 : Nat) (x1 : Int) (x2 : Int) (x3 : Int) (y0 : Int) (y1 : Int) (h : am_H) : am_run am_ms 295 48 [am_R x0, am_I x1, am_I x2, am_I x3] [am_I y0, am_I y1] h = am_run am_ms 295 8 [am_R x0, am_I x1, am_I (am_w (y1 + y0)), am_I (am_w (x3 + 1))] [] h :=
  (am_xs_run am_ms 295 [(.iadd, 1, []), (.istore_n 2, 1, []), (.iinc 3 1, 3, []), (.goto (-45), 3, [])] 48 _ _ h (by decide +kernel)).trans rfl
set_option maxHeartbeats 4000000 in
theorem bk_295_56 (x0 : Nat) (x1 : Int) (x2 : Int) (x3 : Int) (h : am_H) : am_run am_ms 295 56 [am_R x0, am_I x1, am_I x2, am_I x3] [] h = some (some (am_I x2), h) :=
  (am_xs_run am_ms 295 [(.iload_n 2, 1, []), (.ireturn, 1, [0])] 56 _ _ h (by decide +kernel)).trans rfl
set_option maxHeartbeats 4000000 in
theorem bk_296_0 (x0 : Nat) (h : am_H) : am_run am_ms 296 0 [am_R x0, am_K 1, am_K 1] [] h = ((am_isc h x0 9).bind fun _ => ((am_cI 281 [am_R x0] h).bind fun r1 => (bif decide (¬ r1.1 = 0) then am_run am_ms 296 9 [am_R x0, am_K 1, am_K 1] [] r1.2 else some (some (am_I (-1)), r1.2)))) :=
  (am_xs_run am_ms 296 [(.aload_n 0, 1, []), (.invokevirtual 396, 3, [0, 281, 1, 9, 1, 8058, 8060, 100]), (.ifCond .ne 5, 3, []), (.iconst (-1), 1, []), (.ireturn, 1, [0])] 0 _ _ h (by decide +kernel)).trans rfl
theorem en_296 (x0 : Nat) (h : am_H) : am_call am_ms 296 [am_R x0] h = am_run am_ms 296 0 [am_R x0, am_K 1, am_K 1] [] h := rfl
set_option maxHeartbeats 4000000 in
theorem bk_296_9 (x0 : Nat) (h : am_H) : am_run am_ms 296 9 [am_R x0, am_K 1, am_K 1] [] h = am_run am_ms 296 13 [am_R x0, am_I 0, am_I 1] [] h :=
  (am_xs_run am_ms 296 [(.iconst 0, 1, []), (.istore_n 1, 1, []), (.iconst 1, 1, []), (.istore_n 2, 1, [])] 9 _ _ h (by decide +kernel)).trans rfl
set_option maxHeartbeats 4000000 in
theorem bk_296_13 (x0 : Nat) (x1 : Int) (x2 : Int) (h : am_H) : am_run am_ms 296 13 [am_R x0, am_I x1, am_I x2] [] h = (bif decide (32 ≤ x2) then am_run am_ms 296 54 [am_R x0, am_I x1, am_I x2] [] h else ((am_gfR h x0 9 15).bind fun f1 => ((am_isc h x0 9).bind fun _ => ((am_cI 113 [am_R x0, am_R f1, am_I x2, am_I 2147483647] h).bind fun r2 => ((am_gfR r2.2 x0 9 15).bind fun f3 => am_run am_ms 296 40 [am_R x0, am_I x1, am_I x2] [am_I 2147483647, am_I x1, am_R f3, am_R x0, am_I r2.1] r2.2))))) :=
  (am_xs_run am_ms 296 [(.iload_n 2, 1, []), (.bipush 32, 2, []), (.if_icmp .ge 38, 3, []), (.aload_n 0, 1, []), (.aload_n 0, 1, []), (.getfield 32, 3, [9, 15, 5198, 3]), (.iload_n 2, 1, []), (.ldc_w 357, 3, [0, 2147483647, 7172]), (.invokevirtual 184, 3, [0, 113, 4, 9, 1, 6194, 6196, 59]), (.aload_n 0, 1, []), (.aload_n 0, 1, []), (.getfield 32, 3, [9, 15, 5198, 3]), (.iload_n 1, 1, []), (.ldc_w 357, 3, [0, 2147483647, 7172])] 13 _ _ h (by decide +kernel)).trans rfl
set_option maxHeartbeats 4000000 in
theorem bk_296_40 (x0 : Nat) (x1 : Int) (x2 : Int) (y0 : Int) (y1 : Int) (y2 : Nat) (y3 : Nat) (y4 : Int) (h : am_H) : am_run am_ms 296 40 [am_R x0, am_I x1, am_I x2] [am_I y0, am_I y1, am_R y2, am_R y3, am_I y4] h = ((am_isc h y3 9).bind fun _ => ((am_cI 113 [am_R y3, am_R y2, am_I y1, am_I y0] h).bind fun r1 => (bif decide (y4 ≤ r1.1) then am_run am_ms 296 48 [am_R x0, am_I x1, am_I x2] [] r1.2 else am_run am_ms 296 48 [am_R x0, am_I x2, am_I x2] [] r1.2))) :=
  (am_xs_run am_ms 296 [(.invokevirtual 184, 3, [0, 113, 4, 9, 1, 6194, 6196, 59]), (.if_icmp .le 5, 3, []), (.iload_n 2, 1, []), (.istore_n 1, 1, [])] 40 _ _ h (by decide +kernel)).trans rfl
set_option maxHeartbeats 4000000 in
theorem bk_296_48 (x0 : Nat) (x1 : Int) (x2 : Int) (h : am_H) : am_run am_ms 296 48 [am_R x0, am_I x1, am_I x2] [] h = am_run am_ms 296 13 [am_R x0, am_I x1, am_I (am_w (x2 + 1))] [] h :=
  (am_xs_run am_ms 296 [(.iinc 2 1, 3, []), (.goto (-38), 3, [])] 48 _ _ h (by decide +kernel)).trans rfl
set_option maxHeartbeats 4000000 in
theorem bk_296_54 (x0 : Nat) (x1 : Int) (x2 : Int) (h : am_H) : am_run am_ms 296 54 [am_R x0, am_I x1, am_I x2] [] h = some (some (am_I x1), h) :=
  (am_xs_run am_ms 296 [(.iload_n 1, 1, []), (.ireturn, 1, [0])] 54 _ _ h (by decide +kernel)).trans rfl
set_option maxHeartbeats 4000000 in
theorem bk_297_0 (x0 : Nat) (x1 : Int) (h : am_H) : am_run am_ms 297 0 [am_R x0, am_I x1] [] h = ((am_pf h x0 9 0 (am_I 0)).bind fun h1 => ((am_gfI h1 x0 9 14).bind fun f2 => (bif decide (¬ f2 = 0) then am_run am_ms 297 16 [am_R x0, am_I x1] [] h1 else some (some (am_I (-1000000)), h1)))) :=
  (am_xs_run am_ms 297 [(.aload_n 0, 1, []), (.iconst 0, 1, []), (.putfield 53, 3, [9, 0, 5183, 0]), (.aload_n 0, 1, []), (.getfield 155, 3, [9, 14, 5197, 1]), (.ifCond .ne 7, 3, []), (.ldc_w 350, 3, [0, -1000000, 7149]), (.ireturn, 1, [0])] 0 _ _ h (by decide +kernel)).trans rfl
theorem en_297 (x0 : Nat) (x1 : Int) (h : am_H) : am_call am_ms 297 [am_R x0, am_I x1] h = am_run am_ms 297 0 [am_R x0, am_I x1] [] h := rfl
set_option maxHeartbeats 4000000 in
theorem bk_297_16 (x0 : Nat) (x1 : Int) (h : am_H) : am_run am_ms 297 16 [am_R x0, am_I x1] [] h = am_run am_ms 297 17 [am_R x0, am_I x1] [am_I x1] h :=
  (am_xs_run am_ms 297 [(.iload_n 1, 1, [])] 16 _ _ h (by decide +kernel)).trans rfl
theorem bk_297_17 (x0 : Nat) (x1 : Int) (y0 : Int) (h : am_H) : am_run am_ms 297 17 [am_R x0, am_I x1] [am_I y0] h = am_run am_ms 297 (am_tsw 17 202 0 16 #[83, 88, 93, 98, 105, 112, 119, 126, 132, 137, 143, 152, 161, 170, 179, 188, 197] y0) [am_R x0, am_I x1] [] h := by
  rw [am_run_eq, show am_code am_ms 297 17 = some (.tableswitch 202 0 16 #[83, 88, 93, 98, 105, 112, 119, 126, 132, 137, 143, 152, 161, 170, 179, 188, 197], 83, []) from by decide +kernel]
  rfl
set_option maxHeartbeats 4000000 in
theorem bk_297_100 (x0 : Nat) (x1 : Int) (h : am_H) : am_run am_ms 297 100 [am_R x0, am_I x1] [] h = ((am_isc h x0 9).bind fun _ => ((am_cI 291 [am_R x0] h).bind fun r1 => some (some (am_I r1.1), r1.2))) :=
  (am_xs_run am_ms 297 [(.aload_n 0, 1, []), (.invokevirtual 399, 3, [0, 291, 1, 9, 1, 8066, 8068, 101]), (.ireturn, 1, [0])] 100 _ _ h (by decide +kernel)).trans rfl
set_option maxHeartbeats 4000000 in
theorem bk_297_105 (x0 : Nat) (x1 : Int) (h : am_H) : am_run am_ms 297 105 [am_R x0, am_I x1] [] h = ((am_isc h x0 9).bind fun _ => ((am_cI 292 [am_R x0] h).bind fun r1 => some (some (am_I r1.1), r1.2))) :=
  (am_xs_run am_ms 297 [(.aload_n 0, 1, []), (.invokevirtual 402, 3, [0, 292, 1, 9, 1, 8070, 8072, 102]), (.ireturn, 1, [0])] 105 _ _ h (by decide +kernel)).trans rfl
set_option maxHeartbeats 4000000 in
theorem bk_297_110 (x0 : Nat) (x1 : Int) (h : am_H) : am_run am_ms 297 110 [am_R x0, am_I x1] [] h = ((am_isc h x0 9).bind fun _ => ((am_cI 293 [am_R x0] h).bind fun r1 => some (some (am_I r1.1), r1.2))) :=
  (am_xs_run am_ms 297 [(.aload_n 0, 1, []), (.invokevirtual 405, 3, [0, 293, 1, 9, 1, 8074, 8076, 103]), (.ireturn, 1, [0])] 110 _ _ h (by decide +kernel)).trans rfl
set_option maxHeartbeats 4000000 in
theorem bk_297_115 (x0 : Nat) (x1 : Int) (h : am_H) : am_run am_ms 297 115 [am_R x0, am_I x1] [] h = ((am_isc h x0 9).bind fun _ => ((am_cI 294 [am_R x0, am_I 0, am_I 0] h).bind fun r1 => some (some (am_I r1.1), r1.2))) :=
  (am_xs_run am_ms 297 [(.aload_n 0, 1, []), (.iconst 0, 1, []), (.iconst 0, 1, []), (.invokevirtual 408, 3, [0, 294, 3, 9, 1, 8078, 8080, 104]), (.ireturn, 1, [0])] 115 _ _ h (by decide +kernel)).trans rfl
set_option maxHeartbeats 4000000 in
theorem bk_297_122 (x0 : Nat) (x1 : Int) (h : am_H) : am_run am_ms 297 122 [am_R x0, am_I x1] [] h = ((am_isc h x0 9).bind fun _ => ((am_cI 294 [am_R x0, am_I 1, am_I 1] h).bind fun r1 => some (some (am_I r1.1), r1.2))) :=
  (am_xs_run am_ms 297 [(.aload_n 0, 1, []), (.iconst 1, 1, []), (.iconst 1, 1, []), (.invokevirtual 408, 3, [0, 294, 3, 9, 1, 8078, 8080, 104]), (.ireturn, 1, [0])] 122 _ _ h (by decide +kernel)).trans rfl
set_option maxHeartbeats 4000000 in
theorem bk_297_129 (x0 : Nat) (x1 : Int) (h : am_H) : am_run am_ms 297 129 [am_R x0, am_I x1] [] h = ((am_isc h x0 9).bind fun _ => ((am_cI 294 [am_R x0, am_I 1, am_I 2] h).bind fun r1 => some (some (am_I r1.1), r1.2))) :=
  (am_xs_run am_ms 297 [(.aload_n 0, 1, []), (.iconst 1, 1, []), (.iconst 2, 1, []), (.invokevirtual 408, 3, [0, 294, 3, 9, 1, 8078, 8080, 104]), (.ireturn, 1, [0])] 129 _ _ h (by decide +kernel)).trans rfl
set_option maxHeartbeats 4000000 in
theorem bk_297_136 (x0 : Nat) (x1 : Int) (h : am_H) : am_run am_ms 297 136 [am_R x0, am_I x1] [] h = ((am_isc h x0 9).bind fun _ => ((am_cI 294 [am_R x0, am_I 3, am_I 3] h).bind fun r1 => some (some (am_I r1.1), r1.2))) :=
  (am_xs_run am_ms 297 [(.aload_n 0, 1, []), (.iconst 3, 1, []), (.iconst 3, 1, []), (.invokevirtual 408, 3, [0, 294, 3, 9, 1, 8078, 8080, 104]), (.ireturn, 1, [0])] 136 _ _ h (by decide +kernel)).trans rfl
set_option maxHeartbeats 4000000 in
theorem bk_297_143 (x0 : Nat) (x1 : Int) (h : am_H) : am_run am_ms 297 143 [am_R x0, am_I x1] [] h = ((am_isc h x0 9).bind fun _ => ((am_cI 295 [am_R x0, am_I 0] h).bind fun r1 => some (some (am_I r1.1), r1.2))) :=
  (am_xs_run am_ms 297 [(.aload_n 0, 1, []), (.iconst 0, 1, []), (.invokevirtual 411, 3, [0, 295, 2, 9, 1, 8082, 8084, 105]), (.ireturn, 1, [0])] 143 _ _ h (by decide +kernel)).trans rfl
set_option maxHeartbeats 4000000 in
theorem bk_297_149 (x0 : Nat) (x1 : Int) (h : am_H) : am_run am_ms 297 149 [am_R x0, am_I x1] [] h = ((am_isc h x0 9).bind fun _ => ((am_cI 281 [am_R x0] h).bind fun r1 => some (some (am_I r1.1), r1.2))) :=
  (am_xs_run am_ms 297 [(.aload_n 0, 1, []), (.invokevirtual 396, 3, [0, 281, 1, 9, 1, 8058, 8060, 100]), (.ireturn, 1, [0])] 149 _ _ h (by decide +kernel)).trans rfl
set_option maxHeartbeats 4000000 in
theorem bk_297_154 (x0 : Nat) (x1 : Int) (h : am_H) : am_run am_ms 297 154 [am_R x0, am_I x1] [] h = ((am_isc h x0 9).bind fun _ => ((am_cI 295 [am_R x0, am_I 1] h).bind fun r1 => some (some (am_I r1.1), r1.2))) :=
  (am_xs_run am_ms 297 [(.aload_n 0, 1, []), (.iconst 1, 1, []), (.invokevirtual 411, 3, [0, 295, 2, 9, 1, 8082, 8084, 105]), (.ireturn, 1, [0])] 154 _ _ h (by decide +kernel)).trans rfl
set_option maxHeartbeats 4000000 in
theorem bk_297_160 (x0 : Nat) (x1 : Int) (h : am_H) : am_run am_ms 297 160 [am_R x0, am_I x1] [] h = ((am_gfR h x0 9 15).bind fun f1 => ((am_isc h x0 9).bind fun _ => ((am_cI 165 [am_R x0, am_R f1] h).bind fun r2 => some (some (am_I r2.1), r2.2)))) :=
  (am_xs_run am_ms 297 [(.aload_n 0, 1, []), (.aload_n 0, 1, []), (.getfield 32, 3, [9, 15, 5198, 3]), (.invokevirtual 278, 3, [0, 165, 2, 9, 1, 7065, 7067, 84]), (.ireturn, 1, [0])] 160 _ _ h (by decide +kernel)).trans rfl
set_option maxHeartbeats 4000000 in
theorem bk_297_169 (x0 : Nat) (x1 : Int) (h : am_H) : am_run am_ms 297 169 [am_R x0, am_I x1] [] h = ((am_gfR h x0 9 15).bind fun f1 => ((am_rd h f1 0 422).bind fun v2 => some (some (am_I v2), h))) :=
  (am_xs_run am_ms 297 [(.aload_n 0, 1, []), (.getfield 32, 3, [9, 15, 5198, 3]), (.sipush 422, 3, []), (.iaload, 1, []), (.ireturn, 1, [0])] 169 _ _ h (by decide +kernel)).trans rfl
set_option maxHeartbeats 4000000 in
theorem bk_297_178 (x0 : Nat) (x1 : Int) (h : am_H) : am_run am_ms 297 178 [am_R x0, am_I x1] [] h = ((am_gfR h x0 9 15).bind fun f1 => ((am_rd h f1 0 423).bind fun v2 => some (some (am_I v2), h))) :=
  (am_xs_run am_ms 297 [(.aload_n 0, 1, []), (.getfield 32, 3, [9, 15, 5198, 3]), (.sipush 423, 3, []), (.iaload, 1, []), (.ireturn, 1, [0])] 178 _ _ h (by decide +kernel)).trans rfl
set_option maxHeartbeats 4000000 in
theorem bk_297_187 (x0 : Nat) (x1 : Int) (h : am_H) : am_run am_ms 297 187 [am_R x0, am_I x1] [] h = ((am_gfR h x0 9 15).bind fun f1 => ((am_rd h f1 0 424).bind fun v2 => some (some (am_I v2), h))) :=
  (am_xs_run am_ms 297 [(.aload_n 0, 1, []), (.getfield 32, 3, [9, 15, 5198, 3]), (.sipush 424, 3, []), (.iaload, 1, []), (.ireturn, 1, [0])] 187 _ _ h (by decide +kernel)).trans rfl
set_option maxHeartbeats 4000000 in
theorem bk_297_196 (x0 : Nat) (x1 : Int) (h : am_H) : am_run am_ms 297 196 [am_R x0, am_I x1] [] h = ((am_gfR h x0 9 15).bind fun f1 => ((am_rd h f1 0 425).bind fun v2 => some (some (am_I v2), h))) :=
  (am_xs_run am_ms 297 [(.aload_n 0, 1, []), (.getfield 32, 3, [9, 15, 5198, 3]), (.sipush 425, 3, []), (.iaload, 1, []), (.ireturn, 1, [0])] 196 _ _ h (by decide +kernel)).trans rfl
set_option maxHeartbeats 4000000 in
theorem bk_297_205 (x0 : Nat) (x1 : Int) (h : am_H) : am_run am_ms 297 205 [am_R x0, am_I x1] [] h = ((am_gfR h x0 9 15).bind fun f1 => ((am_rd h f1 0 419).bind fun v2 => some (some (am_I v2), h))) :=
  (am_xs_run am_ms 297 [(.aload_n 0, 1, []), (.getfield 32, 3, [9, 15, 5198, 3]), (.sipush 419, 3, []), (.iaload, 1, []), (.ireturn, 1, [0])] 205 _ _ h (by decide +kernel)).trans rfl
set_option maxHeartbeats 4000000 in
theorem bk_297_214 (x0 : Nat) (x1 : Int) (h : am_H) : am_run am_ms 297 214 [am_R x0, am_I x1] [] h = ((am_isc h x0 9).bind fun _ => ((am_cI 296 [am_R x0] h).bind fun r1 => some (some (am_I r1.1), r1.2))) :=
  (am_xs_run am_ms 297 [(.aload_n 0, 1, []), (.invokevirtual 415, 3, [0, 296, 1, 9, 1, 8086, 8088, 106]), (.ireturn, 1, [0])] 214 _ _ h (by decide +kernel)).trans rfl
set_option maxHeartbeats 4000000 in
theorem bk_297_219 (x0 : Nat) (x1 : Int) (h : am_H) : am_run am_ms 297 219 [am_R x0, am_I x1] [] h = some (some (am_I (-1000000)), h) :=
  (am_xs_run am_ms 297 [(.ldc_w 350, 3, [0, -1000000, 7149]), (.ireturn, 1, [0])] 219 _ _ h (by decide +kernel)).trans rfl
set_option maxHeartbeats 4000000 in
theorem bk_298_0 (x0 : Nat) (h : am_H) : am_run am_ms 298 0 [am_R x0] [] h = ((am_isc h x0 8).bind fun _ => ((am_cI 137 [am_R x0] h).bind fun r1 => (bif decide (¬ r1.1 = 0) then am_run am_ms 298 9 [am_R x0] [] r1.2 else some (some (am_I (-1)), r1.2)))) :=
  (am_xs_run am_ms 298 [(.aload_n 0, 1, []), (.invokevirtual 136, 3, [0, 137, 1, 8, 1, 3202, 3204, 27]), (.ifCond .ne 5, 3, []), (.iconst (-1), 1, []), (.ireturn, 1, [0])] 0 _ _ h (by decide +kernel)).trans rfl
theorem en_298 (x0 : Nat) (h : am_H) : am_call am_ms 298 [am_R x0] h = am_run am_ms 298 0 [am_R x0] [] h := rfl
set_option maxHeartbeats 4000000 in
theorem bk_298_9 (x0 : Nat) (h : am_H) : am_run am_ms 298 9 [am_R x0] [] h = ((am_gfR h x0 8 6).bind fun f1 => ((am_gfR h x0 8 4).bind fun f2 => ((am_isc h f1 1).bind fun _ => ((am_cV 77 [am_R f1, am_R f2] h).bind fun h3 => ((am_pf h3 x0 8 7 (am_I 1)).bind fun h4 => ((am_gfR h4 x0 8 4).bind fun f5 => ((am_gfR h4 f5 1 1).bind fun f6 => ((am_rd h4 f6 0 4).bind fun v7 => some (some (am_I v7), h4))))))))) :=
  (am_xs_run am_ms 298 [(.aload_n 0, 1, []), (.getfield 41, 3, [8, 6, 2043, 3]), (.aload_n 0, 1, []), (.getfield 34, 3, [8, 4, 2041, 3]), (.invokevirtual 272, 3, [0, 77, 2, 1, 0, 4151, 3083, 3084]), (.aload_n 0, 1, []), (.iconst 1, 1, []), (.putfield 100, 3, [8, 7, 2044, 1]), (.aload_n 0, 1, []), (.getfield 34, 3, [8, 4, 2041, 3]), (.getfield 245, 3, [1, 1, 1151, 3]), (.iconst 4, 1, []), (.iaload, 1, []), (.ireturn, 1, [0])] 9 _ _ h (by decide +kernel)).trans rfl
set_option maxHeartbeats 4000000 in
theorem bk_299_0 (x0 : Nat) (h : am_H) : am_run am_ms 299 0 [am_R x0] [] h = ((am_pf h x0 9 0 (am_I 0)).bind fun h1 => ((am_gfI h1 x0 9 14).bind fun f2 => (bif decide (¬ f2 = 0) then am_run am_ms 299 14 [am_R x0] [] h1 else some (some (am_I (-1)), h1)))) :=
  (am_xs_run am_ms 299 [(.aload_n 0, 1, []), (.iconst 0, 1, []), (.putfield 53, 3, [9, 0, 5183, 0]), (.aload_n 0, 1, []), (.getfield 155, 3, [9, 14, 5197, 1]), (.ifCond .ne 5, 3, []), (.iconst (-1), 1, []), (.ireturn, 1, [0])] 0 _ _ h (by decide +kernel)).trans rfl
theorem en_299 (x0 : Nat) (h : am_H) : am_call am_ms 299 [am_R x0] h = am_run am_ms 299 0 [am_R x0] [] h := rfl
set_option maxHeartbeats 4000000 in
theorem bk_299_14 (x0 : Nat) (h : am_H) : am_run am_ms 299 14 [am_R x0] [] h = ((am_gfR h x0 9 15).bind fun f1 => ((am_gfR h x0 9 18).bind fun f2 => ((am_cV 108 [am_R f1, am_I 0, am_R f2, am_I 0] h).bind fun h3 => ((am_pf h3 x0 9 22 (am_I 1)).bind fun h4 => ((am_gfR h4 x0 9 15).bind fun f5 => ((am_rd h4 f5 0 419).bind fun v6 => am_run am_ms 299 40 [am_R x0] [am_I v6] h4)))))) :=
  (am_xs_run am_ms 299 [(.aload_n 0, 1, []), (.getfield 32, 3, [9, 15, 5198, 3]), (.iconst 0, 1, []), (.aload_n 0, 1, []), (.getfield 41, 3, [9, 18, 5201, 3]), (.iconst 0, 1, []), (.invokestatic 259, 3, [1, 108, 4, 0, 0, 6155, 6156]), (.aload_n 0, 1, []), (.iconst 1, 1, []), (.putfield 168, 3, [9, 22, 5205, 1]), (.aload_n 0, 1, []), (.getfield 32, 3, [9, 15, 5198, 3]), (.sipush 419, 3, []), (.iaload, 1, [])] 14 _ _ h (by decide +kernel)).trans rfl
set_option maxHeartbeats 4000000 in
theorem bk_299_40 (x0 : Nat) (y0 : Int) (h : am_H) : am_run am_ms 299 40 [am_R x0] [am_I y0] h = some (some (am_I y0), h) :=
  (am_xs_run am_ms 299 [(.ireturn, 1, [0])] 40 _ _ h (by decide +kernel)).trans rfl
set_option maxHeartbeats 4000000 in
theorem bk_300_0 (x0 : Nat) (h : am_H) : am_run am_ms 300 0 [am_R x0] [] h = ((am_gfI h x0 8 7).bind fun f1 => (bif decide (¬ f1 = 0) then am_run am_ms 300 9 [am_R x0] [] h else some (some (am_I (-1)), h))) :=
  (am_xs_run am_ms 300 [(.aload_n 0, 1, []), (.getfield 100, 3, [8, 7, 2044, 1]), (.ifCond .ne 5, 3, []), (.iconst (-1), 1, []), (.ireturn, 1, [0])] 0 _ _ h (by decide +kernel)).trans rfl
theorem en_300 (x0 : Nat) (h : am_H) : am_call am_ms 300 [am_R x0] h = am_run am_ms 300 0 [am_R x0] [] h := rfl
set_option maxHeartbeats 4000000 in
theorem bk_300_9 (x0 : Nat) (h : am_H) : am_run am_ms 300 9 [am_R x0] [] h = ((am_gfR h x0 8 4).bind fun f1 => ((am_gfR h x0 8 6).bind fun f2 => ((am_isc h f1 1).bind fun _ => ((am_cV 77 [am_R f1, am_R f2] h).bind fun h3 => ((am_gfR h3 x0 8 9).bind fun f4 => ((am_isc h3 f4 2).bind fun _ => ((am_cV 61 [am_R f4] h3).bind fun h5 => ((am_gfR h5 x0 8 4).bind fun f6 => ((am_gfR h5 f6 1 1).bind fun f7 => ((am_rd h5 f7 0 4).bind fun v8 => some (some (am_I v8), h5))))))))))) :=
  (am_xs_run am_ms 300 [(.aload_n 0, 1, []), (.getfield 34, 3, [8, 4, 2041, 3]), (.aload_n 0, 1, []), (.getfield 41, 3, [8, 6, 2043, 3]), (.invokevirtual 272, 3, [0, 77, 2, 1, 0, 4151, 3083, 3084]), (.aload_n 0, 1, []), (.getfield 56, 3, [8, 9, 2046, 3]), (.invokevirtual 97, 3, [0, 61, 1, 2, 0, 3017, 3018, 3019]), (.aload_n 0, 1, []), (.getfield 34, 3, [8, 4, 2041, 3]), (.getfield 245, 3, [1, 1, 1151, 3]), (.iconst 4, 1, []), (.iaload, 1, []), (.ireturn, 1, [0])] 9 _ _ h (by decide +kernel)).trans rfl
set_option maxHeartbeats 4000000 in
theorem bk_301_0 (x0 : Nat) (h : am_H) : am_run am_ms 301 0 [am_R x0] [] h = ((am_pf h x0 9 0 (am_I 0)).bind fun h1 => ((am_gfI h1 x0 9 22).bind fun f2 => (bif decide (¬ f2 = 0) then am_run am_ms 301 14 [am_R x0] [] h1 else some (some (am_I (-1)), h1)))) :=
  (am_xs_run am_ms 301 [(.aload_n 0, 1, []), (.iconst 0, 1, []), (.putfield 53, 3, [9, 0, 5183, 0]), (.aload_n 0, 1, []), (.getfield 168, 3, [9, 22, 5205, 1]), (.ifCond .ne 5, 3, []), (.iconst (-1), 1, []), (.ireturn, 1, [0])] 0 _ _ h (by decide +kernel)).trans rfl
theorem en_301 (x0 : Nat) (h : am_H) : am_call am_ms 301 [am_R x0] h = am_run am_ms 301 0 [am_R x0] [] h := rfl
set_option maxHeartbeats 4000000 in
theorem bk_301_14 (x0 : Nat) (h : am_H) : am_run am_ms 301 14 [am_R x0] [] h = ((am_gfR h x0 9 18).bind fun f1 => ((am_gfR h x0 9 15).bind fun f2 => ((am_cV 108 [am_R f1, am_I 0, am_R f2, am_I 0] h).bind fun h3 => ((am_pf h3 x0 9 21 (am_I 0)).bind fun h4 => ((am_gfR h4 x0 9 15).bind fun f5 => ((am_rd h4 f5 0 419).bind fun v6 => am_run am_ms 301 40 [am_R x0] [am_I v6] h4)))))) :=
  (am_xs_run am_ms 301 [(.aload_n 0, 1, []), (.getfield 41, 3, [9, 18, 5201, 3]), (.iconst 0, 1, []), (.aload_n 0, 1, []), (.getfield 32, 3, [9, 15, 5198, 3]), (.iconst 0, 1, []), (.invokestatic 259, 3, [1, 108, 4, 0, 0, 6155, 6156]), (.aload_n 0, 1, []), (.iconst 0, 1, []), (.putfield 165, 3, [9, 21, 5204, 0]), (.aload_n 0, 1, []), (.getfield 32, 3, [9, 15, 5198, 3]), (.sipush 419, 3, []), (.iaload, 1, [])] 14 _ _ h (by decide +kernel)).trans rfl
set_option maxHeartbeats 4000000 in
theorem bk_301_40 (x0 : Nat) (y0 : Int) (h : am_H) : am_run am_ms 301 40 [am_R x0] [am_I y0] h = some (some (am_I y0), h) :=
  (am_xs_run am_ms 301 [(.ireturn, 1, [0])] 40 _ _ h (by decide +kernel)).trans rfl
set_option maxHeartbeats 4000000 in
theorem bk_302_0 (x0 : Nat) (x1 : Int) (h : am_H) : am_run am_ms 302 0 [am_R x0, am_I x1] [] h = am_run am_ms 302 1 [am_R x0, am_I x1] [am_I x1] h :=
  (am_xs_run am_ms 302 [(.iload_n 1, 1, [])] 0 _ _ h (by decide +kernel)).trans rfl
theorem en_302 (x0 : Nat) (x1 : Int) (h : am_H) : am_call am_ms 302 [am_R x0, am_I x1] h = am_run am_ms 302 0 [am_R x0, am_I x1] [] h := rfl
theorem bk_302_1 (x0 : Nat) (x1 : Int) (y0 : Int) (h : am_H) : am_run am_ms 302 1 [am_R x0, am_I x1] [am_I y0] h = am_run am_ms 302 (am_tsw 1 77 0 4 #[35, 45, 50, 58, 69] y0) [am_R x0, am_I x1] [] h := by
  rw [am_run_eq, show am_code am_ms 302 1 = some (.tableswitch 77 0 4 #[35, 45, 50, 58, 69], 35, []) from by decide +kernel]
  rfl
set_option maxHeartbeats 4000000 in
theorem bk_302_36 (x0 : Nat) (x1 : Int) (h : am_H) : am_run am_ms 302 36 [am_R x0, am_I x1] [] h = ((am_gfR h x0 8 4).bind fun f1 => ((am_gfR h f1 1 0).bind fun f2 => ((am_rd h f2 0 0).bind fun v3 => some (some (am_I v3), h)))) :=
  (am_xs_run am_ms 302 [(.aload_n 0, 1, []), (.getfield 34, 3, [8, 4, 2041, 3]), (.getfield 124, 3, [1, 0, 1149, 3]), (.iconst 0, 1, []), (.iaload, 1, []), (.ireturn, 1, [0])] 36 _ _ h (by decide +kernel)).trans rfl
set_option maxHeartbeats 4000000 in
theorem bk_302_46 (x0 : Nat) (x1 : Int) (h : am_H) : am_run am_ms 302 46 [am_R x0, am_I x1] [] h = ((am_gfI h x0 8 3).bind fun f1 => some (some (am_I f1), h)) :=
  (am_xs_run am_ms 302 [(.aload_n 0, 1, []), (.getfield 125, 3, [8, 3, 2040, 0]), (.ireturn, 1, [0])] 46 _ _ h (by decide +kernel)).trans rfl
set_option maxHeartbeats 4000000 in
theorem bk_302_51 (x0 : Nat) (x1 : Int) (h : am_H) : am_run am_ms 302 51 [am_R x0, am_I x1] [] h = ((am_gfR h x0 8 0).bind fun f1 => ((am_gfI h f1 6 1).bind fun f2 => some (some (am_I f2), h))) :=
  (am_xs_run am_ms 302 [(.aload_n 0, 1, []), (.getfield 10, 3, [8, 0, 2037, 3]), (.getfield 76, 3, [6, 1, 1040, 0]), (.ireturn, 1, [0])] 51 _ _ h (by decide +kernel)).trans rfl
set_option maxHeartbeats 4000000 in
theorem bk_302_59 (x0 : Nat) (x1 : Int) (h : am_H) : am_run am_ms 302 59 [am_R x0, am_I x1] [] h = ((am_gfR h x0 8 4).bind fun f1 => ((am_gfR h f1 1 13).bind fun f2 => ((am_gfI h f2 3 4).bind fun f3 => some (some (am_I f3), h)))) :=
  (am_xs_run am_ms 302 [(.aload_n 0, 1, []), (.getfield 34, 3, [8, 4, 2041, 3]), (.getfield 254, 3, [1, 13, 1179, 3]), (.getfield 378, 3, [3, 4, 1134, 0]), (.ireturn, 1, [0])] 59 _ _ h (by decide +kernel)).trans rfl
set_option maxHeartbeats 4000000 in
theorem bk_302_70 (x0 : Nat) (x1 : Int) (h : am_H) : am_run am_ms 302 70 [am_R x0, am_I x1] [] h = ((am_gfR h x0 8 9).bind fun f1 => ((am_gfI h f1 2 2).bind fun f2 => some (some (am_I f2), h))) :=
  (am_xs_run am_ms 302 [(.aload_n 0, 1, []), (.getfield 56, 3, [8, 9, 2046, 3]), (.getfield 248, 3, [2, 2, 2026, 0]), (.ireturn, 1, [0])] 70 _ _ h (by decide +kernel)).trans rfl
set_option maxHeartbeats 4000000 in
theorem bk_302_78 (x0 : Nat) (x1 : Int) (h : am_H) : am_run am_ms 302 78 [am_R x0, am_I x1] [] h = some (some (am_I (-1000000)), h) :=
  (am_xs_run am_ms 302 [(.ldc 172, 2, [0, -1000000, 3211]), (.ireturn, 1, [0])] 78 _ _ h (by decide +kernel)).trans rfl
set_option maxHeartbeats 4000000 in
theorem bk_303_0 (x0 : Nat) (x1 : Int) (h : am_H) : am_run am_ms 303 0 [am_R x0, am_I x1] [] h = ((am_pf h x0 9 0 (am_I 0)).bind fun h1 => am_run am_ms 303 6 [am_R x0, am_I x1] [am_I x1] h1) :=
  (am_xs_run am_ms 303 [(.aload_n 0, 1, []), (.iconst 0, 1, []), (.putfield 53, 3, [9, 0, 5183, 0]), (.iload_n 1, 1, [])] 0 _ _ h (by decide +kernel)).trans rfl
theorem en_303 (x0 : Nat) (x1 : Int) (h : am_H) : am_call am_ms 303 [am_R x0, am_I x1] h = am_run am_ms 303 0 [am_R x0, am_I x1] [] h := rfl
theorem bk_303_6 (x0 : Nat) (x1 : Int) (y0 : Int) (h : am_H) : am_run am_ms 303 6 [am_R x0, am_I x1] [am_I y0] h = am_run am_ms 303 (am_tsw 6 76 0 4 #[34, 52, 57, 62, 71] y0) [am_R x0, am_I x1] [] h := by
  rw [am_run_eq, show am_code am_ms 303 6 = some (.tableswitch 76 0 4 #[34, 52, 57, 62, 71], 34, []) from by decide +kernel]
  rfl
set_option maxHeartbeats 4000000 in
theorem bk_303_40 (x0 : Nat) (x1 : Int) (h : am_H) : am_run am_ms 303 40 [am_R x0, am_I x1] [] h = ((am_gfI h x0 9 14).bind fun f1 => (bif decide (f1 = 0) then am_run am_ms 303 56 [am_R x0, am_I x1] [] h else ((am_gfR h x0 9 6).bind fun f2 => ((am_rd h f2 0 0).bind fun v3 => am_run am_ms 303 57 [am_R x0, am_I x1] [am_I v3] h)))) :=
  (am_xs_run am_ms 303 [(.aload_n 0, 1, []), (.getfield 155, 3, [9, 14, 5197, 1]), (.ifCond .eq 12, 3, []), (.aload_n 0, 1, []), (.getfield 17, 3, [9, 6, 5189, 3]), (.iconst 0, 1, []), (.iaload, 1, []), (.goto 4, 3, [])] 40 _ _ h (by decide +kernel)).trans rfl
set_option maxHeartbeats 4000000 in
theorem bk_303_56 (x0 : Nat) (x1 : Int) (h : am_H) : am_run am_ms 303 56 [am_R x0, am_I x1] [] h = am_run am_ms 303 57 [am_R x0, am_I x1] [am_I 0] h :=
  (am_xs_run am_ms 303 [(.iconst 0, 1, [])] 56 _ _ h (by decide +kernel)).trans rfl
set_option maxHeartbeats 4000000 in
theorem bk_303_57 (x0 : Nat) (x1 : Int) (y0 : Int) (h : am_H) : am_run am_ms 303 57 [am_R x0, am_I x1] [am_I y0] h = some (some (am_I y0), h) :=
  (am_xs_run am_ms 303 [(.ireturn, 1, [0])] 57 _ _ h (by decide +kernel)).trans rfl
set_option maxHeartbeats 4000000 in
theorem bk_303_58 (x0 : Nat) (x1 : Int) (h : am_H) : am_run am_ms 303 58 [am_R x0, am_I x1] [] h = ((am_gfI h x0 9 12).bind fun f1 => some (some (am_I f1), h)) :=
  (am_xs_run am_ms 303 [(.aload_n 0, 1, []), (.getfield 150, 3, [9, 12, 5195, 0]), (.ireturn, 1, [0])] 58 _ _ h (by decide +kernel)).trans rfl
set_option maxHeartbeats 4000000 in
theorem bk_303_63 (x0 : Nat) (x1 : Int) (h : am_H) : am_run am_ms 303 63 [am_R x0, am_I x1] [] h = ((am_gfI h x0 9 2).bind fun f1 => some (some (am_I f1), h)) :=
  (am_xs_run am_ms 303 [(.aload_n 0, 1, []), (.getfield 57, 3, [9, 2, 5185, 0]), (.ireturn, 1, [0])] 63 _ _ h (by decide +kernel)).trans rfl
set_option maxHeartbeats 4000000 in
theorem bk_303_68 (x0 : Nat) (x1 : Int) (h : am_H) : am_run am_ms 303 68 [am_R x0, am_I x1] [] h = ((am_gfR h x0 9 15).bind fun f1 => ((am_rd h f1 0 428).bind fun v2 => some (some (am_I v2), h))) :=
  (am_xs_run am_ms 303 [(.aload_n 0, 1, []), (.getfield 32, 3, [9, 15, 5198, 3]), (.sipush 428, 3, []), (.iaload, 1, []), (.ireturn, 1, [0])] 68 _ _ h (by decide +kernel)).trans rfl
set_option maxHeartbeats 4000000 in
theorem bk_303_77 (x0 : Nat) (x1 : Int) (h : am_H) : am_run am_ms 303 77 [am_R x0, am_I x1] [] h = ((am_gfI h x0 9 21).bind fun f1 => some (some (am_I f1), h)) :=
  (am_xs_run am_ms 303 [(.aload_n 0, 1, []), (.getfield 165, 3, [9, 21, 5204, 0]), (.ireturn, 1, [0])] 77 _ _ h (by decide +kernel)).trans rfl
set_option maxHeartbeats 4000000 in
theorem bk_303_82 (x0 : Nat) (x1 : Int) (h : am_H) : am_run am_ms 303 82 [am_R x0, am_I x1] [] h = some (some (am_I (-1000000)), h) :=
  (am_xs_run am_ms 303 [(.ldc_w 350, 3, [0, -1000000, 7149]), (.ireturn, 1, [0])] 82 _ _ h (by decide +kernel)).trans rfl
set_option maxHeartbeats 4000000 in
theorem bk_305_0 (x0 : Nat) (x1 : Int) (x2 : Int) (h : am_H) : am_run am_ms 305 0 [am_R x0, am_I x1, am_I x2] [] h = ((am_gfR h x0 8 4).bind fun f1 => ((am_isc h f1 1).bind fun _ => ((am_cI 64 [am_R f1, am_I x1] h).bind fun r2 => (bif decide (r2.1 = 0) then am_run am_ms 305 21 [am_R x0, am_I x1, am_I x2] [] r2.2 else (bif decide (x2 < 0) then am_run am_ms 305 21 [am_R x0, am_I x1, am_I x2] [] r2.2 else (bif decide (x2 ≤ 7) then am_run am_ms 305 29 [am_R x0, am_I x1, am_I x2] [] r2.2 else am_run am_ms 305 21 [am_R x0, am_I x1, am_I x2] [] r2.2)))))) :=
  (am_xs_run am_ms 305 [(.aload_n 0, 1, []), (.getfield 34, 3, [8, 4, 2041, 3]), (.iload_n 1, 1, []), (.invokevirtual 140, 3, [0, 64, 2, 1, 1, 3210, 3043, 3044]), (.ifCond .eq 13, 3, []), (.iload_n 2, 1, []), (.ifCond .lt 9, 3, []), (.iload_n 2, 1, []), (.bipush 7, 2, []), (.if_icmp .le 11, 3, [])] 0 _ _ h (by decide +kernel)).trans rfl
theorem en_305 (x0 : Nat) (x1 : Int) (x2 : Int) (h : am_H) : am_call am_ms 305 [am_R x0, am_I x1, am_I x2] h = am_run am_ms 305 0 [am_R x0, am_I x1, am_I x2] [] h := rfl
set_option maxHeartbeats 4000000 in
theorem bk_305_29 (x0 : Nat) (x1 : Int) (x2 : Int) (h : am_H) : am_run am_ms 305 29 [am_R x0, am_I x1, am_I x2] [] h = am_run am_ms 305 30 [am_R x0, am_I x1, am_I x2] [am_I x2] h :=
  (am_xs_run am_ms 305 [(.iload_n 2, 1, [])] 29 _ _ h (by decide +kernel)).trans rfl
theorem bk_305_30 (x0 : Nat) (x1 : Int) (x2 : Int) (y0 : Int) (h : am_H) : am_run am_ms 305 30 [am_R x0, am_I x1, am_I x2] [am_I y0] h = am_run am_ms 305 (am_tsw 30 108 0 6 #[42, 52, 62, 71, 80, 90, 99] y0) [am_R x0, am_I x1, am_I x2] [] h := by
  rw [am_run_eq, show am_code am_ms 305 30 = some (.tableswitch 108 0 6 #[42, 52, 62, 71, 80, 90, 99], 42, []) from by decide +kernel]
  rfl
set_option maxHeartbeats 4000000 in
theorem bk_305_72 (x0 : Nat) (x1 : Int) (x2 : Int) (h : am_H) : am_run am_ms 305 72 [am_R x0, am_I x1, am_I x2] [] h = ((am_gfR h x0 8 4).bind fun f1 => ((am_gfR h f1 1 2).bind fun f2 => ((am_rd h f2 0 x1).bind fun v3 => some (some (am_I v3), h)))) :=
  (am_xs_run am_ms 305 [(.aload_n 0, 1, []), (.getfield 34, 3, [8, 4, 2041, 3]), (.getfield 147, 3, [1, 2, 1154, 3]), (.iload_n 1, 1, []), (.iaload, 1, []), (.ireturn, 1, [0])] 72 _ _ h (by decide +kernel)).trans rfl
set_option maxHeartbeats 4000000 in
theorem bk_305_82 (x0 : Nat) (x1 : Int) (x2 : Int) (h : am_H) : am_run am_ms 305 82 [am_R x0, am_I x1, am_I x2] [] h = ((am_gfR h x0 8 4).bind fun f1 => ((am_gfR h f1 1 3).bind fun f2 => ((am_rd h f2 0 x1).bind fun v3 => some (some (am_I v3), h)))) :=
  (am_xs_run am_ms 305 [(.aload_n 0, 1, []), (.getfield 34, 3, [8, 4, 2041, 3]), (.getfield 150, 3, [1, 3, 1156, 3]), (.iload_n 1, 1, []), (.iaload, 1, []), (.ireturn, 1, [0])] 82 _ _ h (by decide +kernel)).trans rfl
set_option maxHeartbeats 4000000 in
theorem bk_305_92 (x0 : Nat) (x1 : Int) (x2 : Int) (h : am_H) : am_run am_ms 305 92 [am_R x0, am_I x1, am_I x2] [] h = ((am_gfR h x0 8 4).bind fun f1 => ((am_isc h f1 1).bind fun _ => ((am_cI 79 [am_R f1, am_I x1] h).bind fun r2 => some (some (am_I r2.1), r2.2)))) :=
  (am_xs_run am_ms 305 [(.aload_n 0, 1, []), (.getfield 34, 3, [8, 4, 2041, 3]), (.iload_n 1, 1, []), (.invokevirtual 153, 3, [0, 79, 2, 1, 1, 4170, 3104, 3105]), (.ireturn, 1, [0])] 92 _ _ h (by decide +kernel)).trans rfl
set_option maxHeartbeats 4000000 in
theorem bk_305_101 (x0 : Nat) (x1 : Int) (x2 : Int) (h : am_H) : am_run am_ms 305 101 [am_R x0, am_I x1, am_I x2] [] h = ((am_gfR h x0 8 4).bind fun f1 => ((am_isc h f1 1).bind fun _ => ((am_cI 80 [am_R f1, am_I x1] h).bind fun r2 => some (some (am_I r2.1), r2.2)))) :=
  (am_xs_run am_ms 305 [(.aload_n 0, 1, []), (.getfield 34, 3, [8, 4, 2041, 3]), (.iload_n 1, 1, []), (.invokevirtual 156, 3, [0, 80, 2, 1, 1, 5174, 3100, 3101]), (.ireturn, 1, [0])] 101 _ _ h (by decide +kernel)).trans rfl
set_option maxHeartbeats 4000000 in
theorem bk_305_110 (x0 : Nat) (x1 : Int) (x2 : Int) (h : am_H) : am_run am_ms 305 110 [am_R x0, am_I x1, am_I x2] [] h = ((am_gfR h x0 8 4).bind fun f1 => ((am_gfR h f1 1 4).bind fun f2 => ((am_rd h f2 0 x1).bind fun v3 => some (some (am_I v3), h)))) :=
  (am_xs_run am_ms 305 [(.aload_n 0, 1, []), (.getfield 34, 3, [8, 4, 2041, 3]), (.getfield 159, 3, [1, 4, 1159, 3]), (.iload_n 1, 1, []), (.iaload, 1, []), (.ireturn, 1, [0])] 110 _ _ h (by decide +kernel)).trans rfl
set_option maxHeartbeats 4000000 in
theorem bk_305_120 (x0 : Nat) (x1 : Int) (x2 : Int) (h : am_H) : am_run am_ms 305 120 [am_R x0, am_I x1, am_I x2] [] h = ((am_gfR h x0 8 4).bind fun f1 => ((am_isc h f1 1).bind fun _ => ((am_cI 82 [am_R f1, am_I x1] h).bind fun r2 => some (some (am_I r2.1), r2.2)))) :=
  (am_xs_run am_ms 305 [(.aload_n 0, 1, []), (.getfield 34, 3, [8, 4, 2041, 3]), (.iload_n 1, 1, []), (.invokevirtual 162, 3, [0, 82, 2, 1, 1, 5175, 3117, 3118]), (.ireturn, 1, [0])] 120 _ _ h (by decide +kernel)).trans rfl
set_option maxHeartbeats 4000000 in
theorem bk_305_129 (x0 : Nat) (x1 : Int) (x2 : Int) (h : am_H) : am_run am_ms 305 129 [am_R x0, am_I x1, am_I x2] [] h = ((am_gfR h x0 8 4).bind fun f1 => ((am_isc h f1 1).bind fun _ => ((am_cI 88 [am_R f1, am_I x1] h).bind fun r2 => some (some (am_I r2.1), r2.2)))) :=
  (am_xs_run am_ms 305 [(.aload_n 0, 1, []), (.getfield 34, 3, [8, 4, 2041, 3]), (.iload_n 1, 1, []), (.invokevirtual 165, 3, [0, 88, 2, 1, 1, 5176, 3150, 3151]), (.ireturn, 1, [0])] 129 _ _ h (by decide +kernel)).trans rfl
set_option maxHeartbeats 4000000 in
theorem bk_305_138 (x0 : Nat) (x1 : Int) (x2 : Int) (h : am_H) : am_run am_ms 305 138 [am_R x0, am_I x1, am_I x2] [] h = ((am_gfR h x0 8 4).bind fun f1 => ((am_gfR h x0 8 4).bind fun f2 => ((am_gfR h f2 1 0).bind fun f3 => ((am_rd h f3 0 6).bind fun v4 => ((am_isc h f1 1).bind fun _ => ((am_cI 83 [am_R f1, am_I x1, am_I v4] h).bind fun r5 => some (some (am_I r5.1), r5.2))))))) :=
  (am_xs_run am_ms 305 [(.aload_n 0, 1, []), (.getfield 34, 3, [8, 4, 2041, 3]), (.iload_n 1, 1, []), (.aload_n 0, 1, []), (.getfield 34, 3, [8, 4, 2041, 3]), (.getfield 124, 3, [1, 0, 1149, 3]), (.bipush 6, 2, []), (.iaload, 1, []), (.invokevirtual 168, 3, [0, 83, 3, 1, 1, 4201, 3112, 3113]), (.ireturn, 1, [0])] 138 _ _ h (by decide +kernel)).trans rfl
