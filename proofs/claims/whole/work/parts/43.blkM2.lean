/-! ===== BLOCK LAWS: printed by a program of ours ===== -/
set_option maxHeartbeats 4000000 in
theorem bk_164_0 (x0 : Nat) (x1 : Nat) (x2 : Int) (x3 : Int) (x4 : Int) (h : am_H) : am_run am_ms 164 0 [am_R x0, am_R x1, am_I x2, am_I x3, am_I x4] [] h = am_run am_ms 164 1 [am_R x0, am_R x1, am_I x2, am_I x3, am_I x4] [am_I x2] h :=
  (am_xs_run am_ms 164 [(.iload_n 2, 1, [])] 0 _ _ h (by decide +kernel)).trans rfl
theorem en_164 (x0 : Nat) (x1 : Nat) (x2 : Int) (x3 : Int) (x4 : Int) (h : am_H) : am_call am_ms 164 [am_R x0, am_R x1, am_I x2, am_I x3, am_I x4] h = am_run am_ms 164 0 [am_R x0, am_R x1, am_I x2, am_I x3, am_I x4] [] h := rfl
theorem bk_164_1 (x0 : Nat) (x1 : Nat) (x2 : Int) (x3 : Int) (x4 : Int) (y0 : Int) (h : am_H) : am_run am_ms 164 1 [am_R x0, am_R x1, am_I x2, am_I x3, am_I x4] [am_I y0] h = am_run am_ms 164 (am_tsw 1 235 0 7 #[47, 78, 106, 123, 136, 143, 170, 196] y0) [am_R x0, am_R x1, am_I x2, am_I x3, am_I x4] [] h := by
  rw [am_run_eq, show am_code am_ms 164 1 = some (.tableswitch 235 0 7 #[47, 78, 106, 123, 136, 143, 170, 196], 47, []) from by decide +kernel]
  rfl
set_option maxHeartbeats 4000000 in
theorem bk_164_48 (x0 : Nat) (x1 : Nat) (x2 : Int) (x3 : Int) (x4 : Int) (h : am_H) : am_run am_ms 164 48 [am_R x0, am_R x1, am_I x2, am_I x3, am_I x4] [] h = ((am_isc h x0 9).bind fun _ => ((am_cI 146 [am_R x0, am_I x3] h).bind fun r1 => (bif decide (¬ r1.1 = 0) then am_run am_ms 164 60 [am_R x0, am_R x1, am_I x2, am_I x3, am_I x4] [] r1.2 else am_run am_ms 164 78 [am_R x0, am_R x1, am_I x2, am_I x3, am_I x4] [am_I 0] r1.2))) :=
  (am_xs_run am_ms 164 [(.aload_n 0, 1, []), (.iload_n 3, 1, []), (.invokevirtual 286, 3, [0, 146, 2, 9, 1, 7038, 7040, 78]), (.ifCond .ne 7, 3, []), (.iconst 0, 1, []), (.goto 21, 3, [])] 48 _ _ h (by decide +kernel)).trans rfl
set_option maxHeartbeats 4000000 in
theorem bk_164_60 (x0 : Nat) (x1 : Nat) (x2 : Int) (x3 : Int) (x4 : Int) (h : am_H) : am_run am_ms 164 60 [am_R x0, am_R x1, am_I x2, am_I x3, am_I x4] [] h = ((am_cI 40 [am_L x4, am_L 0, am_L 999] h).bind fun r1 => (bif decide (¬ r1.1 = 0) then am_run am_ms 164 77 [am_R x0, am_R x1, am_I x2, am_I x3, am_I x4] [] r1.2 else am_run am_ms 164 78 [am_R x0, am_R x1, am_I x2, am_I x3, am_I x4] [am_I 1] r1.2)) :=
  (am_xs_run am_ms 164 [(.iload 4, 2, []), (.i2l, 1, []), (.lconst 0, 1, []), (.ldc2_w 290, 3, [0, 999, 7043]), (.invokestatic 96, 3, [1, 40, 3, 0, 1, 6060, 6061]), (.ifCond .ne 7, 3, []), (.iconst 1, 1, []), (.goto 4, 3, [])] 60 _ _ h (by decide +kernel)).trans rfl
set_option maxHeartbeats 4000000 in
theorem bk_164_77 (x0 : Nat) (x1 : Nat) (x2 : Int) (x3 : Int) (x4 : Int) (h : am_H) : am_run am_ms 164 77 [am_R x0, am_R x1, am_I x2, am_I x3, am_I x4] [] h = am_run am_ms 164 78 [am_R x0, am_R x1, am_I x2, am_I x3, am_I x4] [am_I (-1)] h :=
  (am_xs_run am_ms 164 [(.iconst (-1), 1, [])] 77 _ _ h (by decide +kernel)).trans rfl
set_option maxHeartbeats 4000000 in
theorem bk_164_78 (x0 : Nat) (x1 : Nat) (x2 : Int) (x3 : Int) (x4 : Int) (y0 : Int) (h : am_H) : am_run am_ms 164 78 [am_R x0, am_R x1, am_I x2, am_I x3, am_I x4] [am_I y0] h = some (some (am_I y0), h) :=
  (am_xs_run am_ms 164 [(.ireturn, 1, [0])] 78 _ _ h (by decide +kernel)).trans rfl
set_option maxHeartbeats 4000000 in
theorem bk_164_79 (x0 : Nat) (x1 : Nat) (x2 : Int) (x3 : Int) (x4 : Int) (h : am_H) : am_run am_ms 164 79 [am_R x0, am_R x1, am_I x2, am_I x3, am_I x4] [] h = ((am_isc h x0 9).bind fun _ => ((am_cI 146 [am_R x0, am_I x3] h).bind fun r1 => (bif decide (¬ r1.1 = 0) then am_run am_ms 164 91 [am_R x0, am_R x1, am_I x2, am_I x3, am_I x4] [] r1.2 else am_run am_ms 164 106 [am_R x0, am_R x1, am_I x2, am_I x3, am_I x4] [am_I 0] r1.2))) :=
  (am_xs_run am_ms 164 [(.aload_n 0, 1, []), (.iload_n 3, 1, []), (.invokevirtual 286, 3, [0, 146, 2, 9, 1, 7038, 7040, 78]), (.ifCond .ne 7, 3, []), (.iconst 0, 1, []), (.goto 18, 3, [])] 79 _ _ h (by decide +kernel)).trans rfl
set_option maxHeartbeats 4000000 in
theorem bk_164_91 (x0 : Nat) (x1 : Nat) (x2 : Int) (x3 : Int) (x4 : Int) (h : am_H) : am_run am_ms 164 91 [am_R x0, am_R x1, am_I x2, am_I x3, am_I x4] [] h = ((am_isc h x0 9).bind fun _ => ((am_cI 147 [am_R x0, am_R x1, am_I x3] h).bind fun r1 => (bif decide (¬ r1.1 = (-1)) then am_run am_ms 164 105 [am_R x0, am_R x1, am_I x2, am_I x3, am_I x4] [] r1.2 else am_run am_ms 164 106 [am_R x0, am_R x1, am_I x2, am_I x3, am_I x4] [am_I 2] r1.2))) :=
  (am_xs_run am_ms 164 [(.aload_n 0, 1, []), (.aload_n 1, 1, []), (.iload_n 3, 1, []), (.invokevirtual 275, 3, [0, 147, 3, 9, 1, 7044, 7046, 79]), (.iconst (-1), 1, []), (.if_icmp .ne 7, 3, []), (.iconst 2, 1, []), (.goto 4, 3, [])] 91 _ _ h (by decide +kernel)).trans rfl
set_option maxHeartbeats 4000000 in
theorem bk_164_105 (x0 : Nat) (x1 : Nat) (x2 : Int) (x3 : Int) (x4 : Int) (h : am_H) : am_run am_ms 164 105 [am_R x0, am_R x1, am_I x2, am_I x3, am_I x4] [] h = am_run am_ms 164 106 [am_R x0, am_R x1, am_I x2, am_I x3, am_I x4] [am_I (-1)] h :=
  (am_xs_run am_ms 164 [(.iconst (-1), 1, [])] 105 _ _ h (by decide +kernel)).trans rfl
set_option maxHeartbeats 4000000 in
theorem bk_164_106 (x0 : Nat) (x1 : Nat) (x2 : Int) (x3 : Int) (x4 : Int) (y0 : Int) (h : am_H) : am_run am_ms 164 106 [am_R x0, am_R x1, am_I x2, am_I x3, am_I x4] [am_I y0] h = some (some (am_I y0), h) :=
  (am_xs_run am_ms 164 [(.ireturn, 1, [0])] 106 _ _ h (by decide +kernel)).trans rfl
set_option maxHeartbeats 4000000 in
theorem bk_164_107 (x0 : Nat) (x1 : Nat) (x2 : Int) (x3 : Int) (x4 : Int) (h : am_H) : am_run am_ms 164 107 [am_R x0, am_R x1, am_I x2, am_I x3, am_I x4] [] h = ((am_gfI h x0 9 14).bind fun f1 => (bif decide (¬ f1 = 0) then am_run am_ms 164 118 [am_R x0, am_R x1, am_I x2, am_I x3, am_I x4] [] h else am_run am_ms 164 123 [am_R x0, am_R x1, am_I x2, am_I x3, am_I x4] [am_I 0] h)) :=
  (am_xs_run am_ms 164 [(.aload_n 0, 1, []), (.getfield 155, 3, [9, 14, 5197, 1]), (.ifCond .ne 7, 3, []), (.iconst 0, 1, []), (.goto 8, 3, [])] 107 _ _ h (by decide +kernel)).trans rfl
set_option maxHeartbeats 4000000 in
theorem bk_164_118 (x0 : Nat) (x1 : Nat) (x2 : Int) (x3 : Int) (x4 : Int) (h : am_H) : am_run am_ms 164 118 [am_R x0, am_R x1, am_I x2, am_I x3, am_I x4] [] h = ((am_isc h x0 9).bind fun _ => ((am_cI 121 [am_R x0, am_R x1] h).bind fun r1 => am_run am_ms 164 123 [am_R x0, am_R x1, am_I x2, am_I x3, am_I x4] [am_I r1.1] r1.2)) :=
  (am_xs_run am_ms 164 [(.aload_n 0, 1, []), (.aload_n 1, 1, []), (.invokevirtual 266, 3, [0, 121, 2, 9, 1, 6174, 6176, 54])] 118 _ _ h (by decide +kernel)).trans rfl
set_option maxHeartbeats 4000000 in
theorem bk_164_123 (x0 : Nat) (x1 : Nat) (x2 : Int) (x3 : Int) (x4 : Int) (y0 : Int) (h : am_H) : am_run am_ms 164 123 [am_R x0, am_R x1, am_I x2, am_I x3, am_I x4] [am_I y0] h = some (some (am_I y0), h) :=
  (am_xs_run am_ms 164 [(.ireturn, 1, [0])] 123 _ _ h (by decide +kernel)).trans rfl
set_option maxHeartbeats 4000000 in
theorem bk_164_124 (x0 : Nat) (x1 : Nat) (x2 : Int) (x3 : Int) (x4 : Int) (h : am_H) : am_run am_ms 164 124 [am_R x0, am_R x1, am_I x2, am_I x3, am_I x4] [] h = ((am_gfI h x0 9 14).bind fun f1 => (bif decide (f1 = 0) then am_run am_ms 164 135 [am_R x0, am_R x1, am_I x2, am_I x3, am_I x4] [] h else am_run am_ms 164 136 [am_R x0, am_R x1, am_I x2, am_I x3, am_I x4] [am_I (-1)] h)) :=
  (am_xs_run am_ms 164 [(.aload_n 0, 1, []), (.getfield 155, 3, [9, 14, 5197, 1]), (.ifCond .eq 7, 3, []), (.iconst (-1), 1, []), (.goto 4, 3, [])] 124 _ _ h (by decide +kernel)).trans rfl
set_option maxHeartbeats 4000000 in
theorem bk_164_135 (x0 : Nat) (x1 : Nat) (x2 : Int) (x3 : Int) (x4 : Int) (h : am_H) : am_run am_ms 164 135 [am_R x0, am_R x1, am_I x2, am_I x3, am_I x4] [] h = am_run am_ms 164 136 [am_R x0, am_R x1, am_I x2, am_I x3, am_I x4] [am_I 0] h :=
  (am_xs_run am_ms 164 [(.iconst 0, 1, [])] 135 _ _ h (by decide +kernel)).trans rfl
set_option maxHeartbeats 4000000 in
theorem bk_164_136 (x0 : Nat) (x1 : Nat) (x2 : Int) (x3 : Int) (x4 : Int) (y0 : Int) (h : am_H) : am_run am_ms 164 136 [am_R x0, am_R x1, am_I x2, am_I x3, am_I x4] [am_I y0] h = some (some (am_I y0), h) :=
  (am_xs_run am_ms 164 [(.ireturn, 1, [0])] 136 _ _ h (by decide +kernel)).trans rfl
set_option maxHeartbeats 4000000 in
theorem bk_164_137 (x0 : Nat) (x1 : Nat) (x2 : Int) (x3 : Int) (x4 : Int) (h : am_H) : am_run am_ms 164 137 [am_R x0, am_R x1, am_I x2, am_I x3, am_I x4] [] h = ((am_isc h x0 9).bind fun _ => ((am_cI 163 [am_R x0, am_R x1, am_I x3] h).bind fun r1 => some (some (am_I r1.1), r1.2))) :=
  (am_xs_run am_ms 164 [(.aload_n 0, 1, []), (.aload_n 1, 1, []), (.iload_n 3, 1, []), (.invokevirtual 292, 3, [0, 163, 3, 9, 1, 7048, 7050, 80]), (.ireturn, 1, [0])] 137 _ _ h (by decide +kernel)).trans rfl
set_option maxHeartbeats 4000000 in
theorem bk_164_144 (x0 : Nat) (x1 : Nat) (x2 : Int) (x3 : Int) (x4 : Int) (h : am_H) : am_run am_ms 164 144 [am_R x0, am_R x1, am_I x2, am_I x3, am_I x4] [] h = ((am_isc h x0 9).bind fun _ => ((am_cI 140 [am_R x0, am_I x3] h).bind fun r1 => (bif decide (¬ r1.1 = 0) then am_run am_ms 164 156 [am_R x0, am_R x1, am_I x2, am_I x3, am_I x4] [] r1.2 else am_run am_ms 164 170 [am_R x0, am_R x1, am_I x2, am_I x3, am_I x4] [am_I 0] r1.2))) :=
  (am_xs_run am_ms 164 [(.aload_n 0, 1, []), (.iload_n 3, 1, []), (.invokevirtual 295, 3, [0, 140, 2, 9, 1, 7052, 7054, 81]), (.ifCond .ne 7, 3, []), (.iconst 0, 1, []), (.goto 17, 3, [])] 144 _ _ h (by decide +kernel)).trans rfl
set_option maxHeartbeats 4000000 in
theorem bk_164_156 (x0 : Nat) (x1 : Nat) (x2 : Int) (x3 : Int) (x4 : Int) (h : am_H) : am_run am_ms 164 156 [am_R x0, am_R x1, am_I x2, am_I x3, am_I x4] [] h = ((am_rd h x1 0 (am_w (0 + x3))).bind fun v1 => (bif decide (v1 = 1) then am_run am_ms 164 169 [am_R x0, am_R x1, am_I x2, am_I x3, am_I x4] [] h else am_run am_ms 164 170 [am_R x0, am_R x1, am_I x2, am_I x3, am_I x4] [am_I 2] h)) :=
  (am_xs_run am_ms 164 [(.aload_n 1, 1, []), (.iconst 0, 1, []), (.iload_n 3, 1, []), (.iadd, 1, []), (.iaload, 1, []), (.iconst 1, 1, []), (.if_icmp .eq 7, 3, []), (.iconst 2, 1, []), (.goto 4, 3, [])] 156 _ _ h (by decide +kernel)).trans rfl
set_option maxHeartbeats 4000000 in
theorem bk_164_169 (x0 : Nat) (x1 : Nat) (x2 : Int) (x3 : Int) (x4 : Int) (h : am_H) : am_run am_ms 164 169 [am_R x0, am_R x1, am_I x2, am_I x3, am_I x4] [] h = am_run am_ms 164 170 [am_R x0, am_R x1, am_I x2, am_I x3, am_I x4] [am_I (-1)] h :=
  (am_xs_run am_ms 164 [(.iconst (-1), 1, [])] 169 _ _ h (by decide +kernel)).trans rfl
set_option maxHeartbeats 4000000 in
theorem bk_164_170 (x0 : Nat) (x1 : Nat) (x2 : Int) (x3 : Int) (x4 : Int) (y0 : Int) (h : am_H) : am_run am_ms 164 170 [am_R x0, am_R x1, am_I x2, am_I x3, am_I x4] [am_I y0] h = some (some (am_I y0), h) :=
  (am_xs_run am_ms 164 [(.ireturn, 1, [0])] 170 _ _ h (by decide +kernel)).trans rfl
set_option maxHeartbeats 4000000 in
theorem bk_164_171 (x0 : Nat) (x1 : Nat) (x2 : Int) (x3 : Int) (x4 : Int) (h : am_H) : am_run am_ms 164 171 [am_R x0, am_R x1, am_I x2, am_I x3, am_I x4] [] h = ((am_isc h x0 9).bind fun _ => ((am_cI 140 [am_R x0, am_I x3] h).bind fun r1 => (bif decide (¬ r1.1 = 0) then am_run am_ms 164 183 [am_R x0, am_R x1, am_I x2, am_I x3, am_I x4] [] r1.2 else am_run am_ms 164 196 [am_R x0, am_R x1, am_I x2, am_I x3, am_I x4] [am_I 0] r1.2))) :=
  (am_xs_run am_ms 164 [(.aload_n 0, 1, []), (.iload_n 3, 1, []), (.invokevirtual 295, 3, [0, 140, 2, 9, 1, 7052, 7054, 81]), (.ifCond .ne 7, 3, []), (.iconst 0, 1, []), (.goto 16, 3, [])] 171 _ _ h (by decide +kernel)).trans rfl
set_option maxHeartbeats 4000000 in
theorem bk_164_183 (x0 : Nat) (x1 : Nat) (x2 : Int) (x3 : Int) (x4 : Int) (h : am_H) : am_run am_ms 164 183 [am_R x0, am_R x1, am_I x2, am_I x3, am_I x4] [] h = ((am_cI 124 [am_R x1, am_I x3] h).bind fun r1 => (bif decide (¬ r1.1 = 0) then am_run am_ms 164 195 [am_R x0, am_R x1, am_I x2, am_I x3, am_I x4] [] r1.2 else am_run am_ms 164 196 [am_R x0, am_R x1, am_I x2, am_I x3, am_I x4] [am_I 2] r1.2)) :=
  (am_xs_run am_ms 164 [(.aload_n 1, 1, []), (.iload_n 3, 1, []), (.invokestatic 215, 3, [1, 124, 2, 0, 1, 6231, 6232]), (.ifCond .ne 7, 3, []), (.iconst 2, 1, []), (.goto 4, 3, [])] 183 _ _ h (by decide +kernel)).trans rfl
set_option maxHeartbeats 4000000 in
theorem bk_164_195 (x0 : Nat) (x1 : Nat) (x2 : Int) (x3 : Int) (x4 : Int) (h : am_H) : am_run am_ms 164 195 [am_R x0, am_R x1, am_I x2, am_I x3, am_I x4] [] h = am_run am_ms 164 196 [am_R x0, am_R x1, am_I x2, am_I x3, am_I x4] [am_I (-1)] h :=
  (am_xs_run am_ms 164 [(.iconst (-1), 1, [])] 195 _ _ h (by decide +kernel)).trans rfl
set_option maxHeartbeats 4000000 in
theorem bk_164_196 (x0 : Nat) (x1 : Nat) (x2 : Int) (x3 : Int) (x4 : Int) (y0 : Int) (h : am_H) : am_run am_ms 164 196 [am_R x0, am_R x1, am_I x2, am_I x3, am_I x4] [am_I y0] h = some (some (am_I y0), h) :=
  (am_xs_run am_ms 164 [(.ireturn, 1, [0])] 196 _ _ h (by decide +kernel)).trans rfl
set_option maxHeartbeats 4000000 in
theorem bk_164_197 (x0 : Nat) (x1 : Nat) (x2 : Int) (x3 : Int) (x4 : Int) (h : am_H) : am_run am_ms 164 197 [am_R x0, am_R x1, am_I x2, am_I x3, am_I x4] [] h = ((am_isc h x0 9).bind fun _ => ((am_cI 140 [am_R x0, am_I x3] h).bind fun r1 => (bif decide (¬ r1.1 = 0) then am_run am_ms 164 209 [am_R x0, am_R x1, am_I x2, am_I x3, am_I x4] [] r1.2 else am_run am_ms 164 235 [am_R x0, am_R x1, am_I x2, am_I x3, am_I x4] [am_I 0] r1.2))) :=
  (am_xs_run am_ms 164 [(.aload_n 0, 1, []), (.iload_n 3, 1, []), (.invokevirtual 295, 3, [0, 140, 2, 9, 1, 7052, 7054, 81]), (.ifCond .ne 7, 3, []), (.iconst 0, 1, []), (.goto 29, 3, [])] 197 _ _ h (by decide +kernel)).trans rfl
set_option maxHeartbeats 4000000 in
theorem bk_164_209 (x0 : Nat) (x1 : Nat) (x2 : Int) (x3 : Int) (x4 : Int) (h : am_H) : am_run am_ms 164 209 [am_R x0, am_R x1, am_I x2, am_I x3, am_I x4] [] h = ((am_rd h x1 0 (am_w (0 + x3))).bind fun v1 => (bif decide (¬ v1 = 0) then am_run am_ms 164 221 [am_R x0, am_R x1, am_I x2, am_I x3, am_I x4] [] h else am_run am_ms 164 235 [am_R x0, am_R x1, am_I x2, am_I x3, am_I x4] [am_I 2] h)) :=
  (am_xs_run am_ms 164 [(.aload_n 1, 1, []), (.iconst 0, 1, []), (.iload_n 3, 1, []), (.iadd, 1, []), (.iaload, 1, []), (.ifCond .ne 7, 3, []), (.iconst 2, 1, []), (.goto 17, 3, [])] 209 _ _ h (by decide +kernel)).trans rfl
set_option maxHeartbeats 4000000 in
theorem bk_164_221 (x0 : Nat) (x1 : Nat) (x2 : Int) (x3 : Int) (x4 : Int) (h : am_H) : am_run am_ms 164 221 [am_R x0, am_R x1, am_I x2, am_I x3, am_I x4] [] h = ((am_isc h x0 9).bind fun _ => ((am_cI 115 [am_R x0, am_R x1, am_I x3] h).bind fun r1 => (bif decide (r1.1 ≤ 0) then am_run am_ms 164 234 [am_R x0, am_R x1, am_I x2, am_I x3, am_I x4] [] r1.2 else am_run am_ms 164 235 [am_R x0, am_R x1, am_I x2, am_I x3, am_I x4] [am_I 3] r1.2))) :=
  (am_xs_run am_ms 164 [(.aload_n 0, 1, []), (.aload_n 1, 1, []), (.iload_n 3, 1, []), (.invokevirtual 192, 3, [0, 115, 3, 9, 1, 6186, 6188, 57]), (.ifCond .le 7, 3, []), (.iconst 3, 1, []), (.goto 4, 3, [])] 221 _ _ h (by decide +kernel)).trans rfl
set_option maxHeartbeats 4000000 in
theorem bk_164_234 (x0 : Nat) (x1 : Nat) (x2 : Int) (x3 : Int) (x4 : Int) (h : am_H) : am_run am_ms 164 234 [am_R x0, am_R x1, am_I x2, am_I x3, am_I x4] [] h = am_run am_ms 164 235 [am_R x0, am_R x1, am_I x2, am_I x3, am_I x4] [am_I (-1)] h :=
  (am_xs_run am_ms 164 [(.iconst (-1), 1, [])] 234 _ _ h (by decide +kernel)).trans rfl
set_option maxHeartbeats 4000000 in
theorem bk_164_235 (x0 : Nat) (x1 : Nat) (x2 : Int) (x3 : Int) (x4 : Int) (y0 : Int) (h : am_H) : am_run am_ms 164 235 [am_R x0, am_R x1, am_I x2, am_I x3, am_I x4] [am_I y0] h = some (some (am_I y0), h) :=
  (am_xs_run am_ms 164 [(.ireturn, 1, [0])] 235 _ _ h (by decide +kernel)).trans rfl
set_option maxHeartbeats 4000000 in
theorem bk_164_236 (x0 : Nat) (x1 : Nat) (x2 : Int) (x3 : Int) (x4 : Int) (h : am_H) : am_run am_ms 164 236 [am_R x0, am_R x1, am_I x2, am_I x3, am_I x4] [] h = ((am_gfI h x0 9 14).bind fun f1 => (bif decide (¬ f1 = 0) then am_run am_ms 164 247 [am_R x0, am_R x1, am_I x2, am_I x3, am_I x4] [] h else am_run am_ms 164 277 [am_R x0, am_R x1, am_I x2, am_I x3, am_I x4] [am_I 0] h)) :=
  (am_xs_run am_ms 164 [(.aload_n 0, 1, []), (.getfield 155, 3, [9, 14, 5197, 1]), (.ifCond .ne 7, 3, []), (.iconst 0, 1, []), (.goto 33, 3, [])] 236 _ _ h (by decide +kernel)).trans rfl
set_option maxHeartbeats 4000000 in
theorem bk_164_247 (x0 : Nat) (x1 : Nat) (x2 : Int) (x3 : Int) (x4 : Int) (h : am_H) : am_run am_ms 164 247 [am_R x0, am_R x1, am_I x2, am_I x3, am_I x4] [] h = ((am_cI 40 [am_L x3, am_L 0, am_L 3] h).bind fun r1 => (bif decide (¬ r1.1 = 0) then am_run am_ms 164 263 [am_R x0, am_R x1, am_I x2, am_I x3, am_I x4] [] r1.2 else am_run am_ms 164 277 [am_R x0, am_R x1, am_I x2, am_I x3, am_I x4] [am_I 1] r1.2)) :=
  (am_xs_run am_ms 164 [(.iload_n 3, 1, []), (.i2l, 1, []), (.lconst 0, 1, []), (.ldc2_w 298, 3, [0, 3, 7056]), (.invokestatic 96, 3, [1, 40, 3, 0, 1, 6060, 6061]), (.ifCond .ne 7, 3, []), (.iconst 1, 1, []), (.goto 17, 3, [])] 247 _ _ h (by decide +kernel)).trans rfl
set_option maxHeartbeats 4000000 in
theorem bk_164_263 (x0 : Nat) (x1 : Nat) (x2 : Int) (x3 : Int) (x4 : Int) (h : am_H) : am_run am_ms 164 263 [am_R x0, am_R x1, am_I x2, am_I x3, am_I x4] [] h = ((am_rd h x1 0 420).bind fun v1 => (bif decide (¬ v1 = x3) then am_run am_ms 164 276 [am_R x0, am_R x1, am_I x2, am_I x3, am_I x4] [] h else am_run am_ms 164 277 [am_R x0, am_R x1, am_I x2, am_I x3, am_I x4] [am_I 2] h)) :=
  (am_xs_run am_ms 164 [(.aload_n 1, 1, []), (.sipush 420, 3, []), (.iaload, 1, []), (.iload_n 3, 1, []), (.if_icmp .ne 7, 3, []), (.iconst 2, 1, []), (.goto 4, 3, [])] 263 _ _ h (by decide +kernel)).trans rfl
set_option maxHeartbeats 4000000 in
theorem bk_164_276 (x0 : Nat) (x1 : Nat) (x2 : Int) (x3 : Int) (x4 : Int) (h : am_H) : am_run am_ms 164 276 [am_R x0, am_R x1, am_I x2, am_I x3, am_I x4] [] h = am_run am_ms 164 277 [am_R x0, am_R x1, am_I x2, am_I x3, am_I x4] [am_I (-1)] h :=
  (am_xs_run am_ms 164 [(.iconst (-1), 1, [])] 276 _ _ h (by decide +kernel)).trans rfl
set_option maxHeartbeats 4000000 in
theorem bk_164_277 (x0 : Nat) (x1 : Nat) (x2 : Int) (x3 : Int) (x4 : Int) (y0 : Int) (h : am_H) : am_run am_ms 164 277 [am_R x0, am_R x1, am_I x2, am_I x3, am_I x4] [am_I y0] h = some (some (am_I y0), h) :=
  (am_xs_run am_ms 164 [(.ireturn, 1, [0])] 277 _ _ h (by decide +kernel)).trans rfl
set_option maxHeartbeats 4000000 in
theorem bk_165_0 (x0 : Nat) (x1 : Nat) (h : am_H) : am_run am_ms 165 0 [am_R x0, am_R x1, am_K 1, am_K 1] [] h = am_run am_ms 165 4 [am_R x0, am_R x1, am_I 0, am_I 0] [] h :=
  (am_xs_run am_ms 165 [(.iconst 0, 1, []), (.istore_n 2, 1, []), (.iconst 0, 1, []), (.istore_n 3, 1, [])] 0 _ _ h (by decide +kernel)).trans rfl
theorem en_165 (x0 : Nat) (x1 : Nat) (h : am_H) : am_call am_ms 165 [am_R x0, am_R x1] h = am_run am_ms 165 0 [am_R x0, am_R x1, am_K 1, am_K 1] [] h := rfl
set_option maxHeartbeats 4000000 in
theorem bk_165_4 (x0 : Nat) (x1 : Nat) (x2 : Int) (x3 : Int) (h : am_H) : am_run am_ms 165 4 [am_R x0, am_R x1, am_I x2, am_I x3] [] h = (bif decide (32 ≤ x3) then am_run am_ms 165 34 [am_R x0, am_R x1, am_I x2, am_I x3] [] h else ((am_isc h x0 9).bind fun _ => ((am_cI 147 [am_R x0, am_R x1, am_I x3] h).bind fun r1 => (bif decide (¬ r1.1 = (-1)) then am_run am_ms 165 25 [am_R x0, am_R x1, am_I x2, am_I x3] [am_I x2] r1.2 else am_run am_ms 165 26 [am_R x0, am_R x1, am_I x2, am_I x3] [am_I 0, am_I x2] r1.2)))) :=
  (am_xs_run am_ms 165 [(.iload_n 3, 1, []), (.bipush 32, 2, []), (.if_icmp .ge 27, 3, []), (.iload_n 2, 1, []), (.aload_n 0, 1, []), (.aload_n 1, 1, []), (.iload_n 3, 1, []), (.invokevirtual 275, 3, [0, 147, 3, 9, 1, 7044, 7046, 79]), (.iconst (-1), 1, []), (.if_icmp .ne 7, 3, []), (.iconst 0, 1, []), (.goto 4, 3, [])] 4 _ _ h (by decide +kernel)).trans rfl
set_option maxHeartbeats 4000000 in
theorem bk_165_25 (x0 : Nat) (x1 : Nat) (x2 : Int) (x3 : Int) (y0 : Int) (h : am_H) : am_run am_ms 165 25 [am_R x0, am_R x1, am_I x2, am_I x3] [am_I y0] h = am_run am_ms 165 26 [am_R x0, am_R x1, am_I x2, am_I x3] [am_I 1, am_I y0] h :=
  (am_xs_run am_ms 165 [(.iconst 1, 1, [])] 25 _ _ h (by decide +kernel)).trans rfl
set_option maxHeartbeats 4000000 in
theorem bk_165_26 (x0 : Nat) (x1 : Nat) (x2 : Int) (x3 : Int) (y0 : Int) (y1 : Int) (h : am_H) : am_run am_ms 165 26 [am_R x0, am_R x1, am_I x2, am_I x3] [am_I y0, am_I y1] h = am_run am_ms 165 4 [am_R x0, am_R x1, am_I (am_w (y1 + y0)), am_I (am_w (x3 + 1))] [] h :=
  (am_xs_run am_ms 165 [(.iadd, 1, []), (.istore_n 2, 1, []), (.iinc 3 1, 3, []), (.goto (-27), 3, [])] 26 _ _ h (by decide +kernel)).trans rfl
set_option maxHeartbeats 4000000 in
theorem bk_165_34 (x0 : Nat) (x1 : Nat) (x2 : Int) (x3 : Int) (h : am_H) : am_run am_ms 165 34 [am_R x0, am_R x1, am_I x2, am_I x3] [] h = some (some (am_I x2), h) :=
  (am_xs_run am_ms 165 [(.iload_n 2, 1, []), (.ireturn, 1, [0])] 34 _ _ h (by decide +kernel)).trans rfl
set_option maxHeartbeats 4000000 in
theorem bk_166_0 (x0 : Nat) (x1 : Nat) (h : am_H) : am_run am_ms 166 0 [am_R x0, am_R x1, am_K 1, am_K 1, am_K 1] [] h = am_run am_ms 166 2 [am_R x0, am_R x1, am_I 0, am_K 1, am_K 1] [] h :=
  (am_xs_run am_ms 166 [(.iconst 0, 1, []), (.istore_n 2, 1, [])] 0 _ _ h (by decide +kernel)).trans rfl
theorem en_166 (x0 : Nat) (x1 : Nat) (h : am_H) : am_call am_ms 166 [am_R x0, am_R x1] h = am_run am_ms 166 0 [am_R x0, am_R x1, am_K 1, am_K 1, am_K 1] [] h := rfl
set_option maxHeartbeats 4000000 in
theorem bk_166_2 (x0 : Nat) (x1 : Nat) (x2 : Int) (h : am_H) : am_run am_ms 166 2 [am_R x0, am_R x1, am_I x2, am_K 1, am_K 1] [] h = ((am_gfR h x0 9 6).bind fun f1 => ((am_rd h f1 0 0).bind fun v2 => (bif decide (v2 ≤ x2) then am_run am_ms 166 46 [am_R x0, am_R x1, am_I x2, am_K 1, am_K 1] [] h else ((am_rd h x1 0 (am_w (0 + x2))).bind fun v3 => (bif decide (¬ v3 = 1) then am_run am_ms 166 40 [am_R x0, am_R x1, am_I x2, am_K 1, am_K 1] [] h else am_run am_ms 166 22 [am_R x0, am_R x1, am_I x2, am_K 1, am_K 1] [am_R x1] h))))) :=
  (am_xs_run am_ms 166 [(.iload_n 2, 1, []), (.aload_n 0, 1, []), (.getfield 17, 3, [9, 6, 5189, 3]), (.iconst 0, 1, []), (.iaload, 1, []), (.if_icmp .ge 37, 3, []), (.aload_n 1, 1, []), (.iconst 0, 1, []), (.iload_n 2, 1, []), (.iadd, 1, []), (.iaload, 1, []), (.iconst 1, 1, []), (.if_icmp .ne 22, 3, []), (.aload_n 1, 1, [])] 2 _ _ h (by decide +kernel)).trans rfl
set_option maxHeartbeats 4000000 in
theorem bk_166_22 (x0 : Nat) (x1 : Nat) (x2 : Int) (y0 : Nat) (h : am_H) : am_run am_ms 166 22 [am_R x0, am_R x1, am_I x2, am_K 1, am_K 1] [am_R y0] h = ((am_rd h x1 0 (am_w (8 + x2))).bind fun v1 => (bif decide (¬ v1 = 0) then am_run am_ms 166 38 [am_R x0, am_R x1, am_I x2, am_K 1, am_K 1] [am_I (am_w (0 + x2)), am_R y0] h else am_run am_ms 166 39 [am_R x0, am_R x1, am_I x2, am_K 1, am_K 1] [am_I 0, am_I (am_w (0 + x2)), am_R y0] h)) :=
  (am_xs_run am_ms 166 [(.iconst 0, 1, []), (.iload_n 2, 1, []), (.iadd, 1, []), (.aload_n 1, 1, []), (.bipush 8, 2, []), (.iload_n 2, 1, []), (.iadd, 1, []), (.iaload, 1, []), (.ifCond .ne 7, 3, []), (.iconst 0, 1, []), (.goto 4, 3, [])] 22 _ _ h (by decide +kernel)).trans rfl
set_option maxHeartbeats 4000000 in
theorem bk_166_38 (x0 : Nat) (x1 : Nat) (x2 : Int) (y0 : Int) (y1 : Nat) (h : am_H) : am_run am_ms 166 38 [am_R x0, am_R x1, am_I x2, am_K 1, am_K 1] [am_I y0, am_R y1] h = am_run am_ms 166 39 [am_R x0, am_R x1, am_I x2, am_K 1, am_K 1] [am_I 2, am_I y0, am_R y1] h :=
  (am_xs_run am_ms 166 [(.iconst 2, 1, [])] 38 _ _ h (by decide +kernel)).trans rfl
set_option maxHeartbeats 4000000 in
theorem bk_166_39 (x0 : Nat) (x1 : Nat) (x2 : Int) (y0 : Int) (y1 : Int) (y2 : Nat) (h : am_H) : am_run am_ms 166 39 [am_R x0, am_R x1, am_I x2, am_K 1, am_K 1] [am_I y0, am_I y1, am_R y2] h = ((am_wr h y2 0 y1 y0).bind fun h1 => am_run am_ms 166 40 [am_R x0, am_R x1, am_I x2, am_K 1, am_K 1] [] h1) :=
  (am_xs_run am_ms 166 [(.iastore, 1, [])] 39 _ _ h (by decide +kernel)).trans rfl
set_option maxHeartbeats 4000000 in
theorem bk_166_40 (x0 : Nat) (x1 : Nat) (x2 : Int) (h : am_H) : am_run am_ms 166 40 [am_R x0, am_R x1, am_I x2, am_K 1, am_K 1] [] h = am_run am_ms 166 2 [am_R x0, am_R x1, am_I (am_w (x2 + 1)), am_K 1, am_K 1] [] h :=
  (am_xs_run am_ms 166 [(.iinc 2 1, 3, []), (.goto (-41), 3, [])] 40 _ _ h (by decide +kernel)).trans rfl
set_option maxHeartbeats 4000000 in
theorem bk_166_46 (x0 : Nat) (x1 : Nat) (x2 : Int) (h : am_H) : am_run am_ms 166 46 [am_R x0, am_R x1, am_I x2, am_K 1, am_K 1] [] h = am_run am_ms 166 50 [am_R x0, am_R x1, am_I 0, am_I 0, am_K 1] [] h :=
  (am_xs_run am_ms 166 [(.iconst 0, 1, []), (.istore_n 2, 1, []), (.iconst 0, 1, []), (.istore_n 3, 1, [])] 46 _ _ h (by decide +kernel)).trans rfl
set_option maxHeartbeats 4000000 in
theorem bk_166_50 (x0 : Nat) (x1 : Nat) (x2 : Int) (x3 : Int) (x4 : am_V) (h : am_H) : am_run am_ms 166 50 [am_R x0, am_R x1, am_I x2, am_I x3, x4] [] h = ((am_gfR h x0 9 6).bind fun f1 => ((am_rd h f1 0 0).bind fun v2 => (bif decide (v2 ≤ x3) then am_run am_ms 166 121 [am_R x0, am_R x1, am_I x2, am_I x3, x4] [] h else am_run am_ms 166 63 [am_R x0, am_R x1, am_I x2, am_I x3, am_I 0] [] h))) :=
  (am_xs_run am_ms 166 [(.iload_n 3, 1, []), (.aload_n 0, 1, []), (.getfield 17, 3, [9, 6, 5189, 3]), (.iconst 0, 1, []), (.iaload, 1, []), (.if_icmp .ge 64, 3, []), (.iconst 0, 1, []), (.istore 4, 2, [])] 50 _ _ h (by decide +kernel)).trans rfl
set_option maxHeartbeats 4000000 in
theorem bk_166_63 (x0 : Nat) (x1 : Nat) (x2 : Int) (x3 : Int) (x4 : Int) (h : am_H) : am_run am_ms 166 63 [am_R x0, am_R x1, am_I x2, am_I x3, am_I x4] [] h = ((am_rd h x1 0 (am_w (8 + x3))).bind fun v1 => (bif decide (v1 ≤ x4) then am_run am_ms 166 115 [am_R x0, am_R x1, am_I x2, am_I x3, am_I x4] [] h else am_run am_ms 166 85 [am_R x0, am_R x1, am_I x2, am_I x3, am_I x4] [am_I x4, am_I (am_w (288 + (am_w (16 * x3)))), am_R x1] h)) :=
  (am_xs_run am_ms 166 [(.iload 4, 2, []), (.aload_n 1, 1, []), (.bipush 8, 2, []), (.iload_n 3, 1, []), (.iadd, 1, []), (.iaload, 1, []), (.if_icmp .ge 44, 3, []), (.aload_n 1, 1, []), (.sipush 288, 3, []), (.bipush 16, 2, []), (.iload_n 3, 1, []), (.imul, 1, []), (.iadd, 1, []), (.iload 4, 2, [])] 63 _ _ h (by decide +kernel)).trans rfl
set_option maxHeartbeats 4000000 in
theorem bk_166_85 (x0 : Nat) (x1 : Nat) (x2 : Int) (x3 : Int) (x4 : Int) (y0 : Int) (y1 : Int) (y2 : Nat) (h : am_H) : am_run am_ms 166 85 [am_R x0, am_R x1, am_I x2, am_I x3, am_I x4] [am_I y0, am_I y1, am_R y2] h = ((am_rd h y2 0 (am_w (y1 + y0))).bind fun v1 => (bif decide (v1 ≤ x2) then am_run am_ms 166 107 [am_R x0, am_R x1, am_I x2, am_I x3, am_I x4] [] h else ((am_rd h x1 0 (am_w ((am_w (288 + (am_w (16 * x3)))) + x4))).bind fun v2 => am_run am_ms 166 108 [am_R x0, am_R x1, am_I x2, am_I x3, am_I x4] [am_I v2] h))) :=
  (am_xs_run am_ms 166 [(.iadd, 1, []), (.iaload, 1, []), (.iload_n 2, 1, []), (.if_icmp .le 19, 3, []), (.aload_n 1, 1, []), (.sipush 288, 3, []), (.bipush 16, 2, []), (.iload_n 3, 1, []), (.imul, 1, []), (.iadd, 1, []), (.iload 4, 2, []), (.iadd, 1, []), (.iaload, 1, []), (.goto 4, 3, [])] 85 _ _ h (by decide +kernel)).trans rfl
set_option maxHeartbeats 4000000 in
theorem bk_166_107 (x0 : Nat) (x1 : Nat) (x2 : Int) (x3 : Int) (x4 : Int) (h : am_H) : am_run am_ms 166 107 [am_R x0, am_R x1, am_I x2, am_I x3, am_I x4] [] h = am_run am_ms 166 108 [am_R x0, am_R x1, am_I x2, am_I x3, am_I x4] [am_I x2] h :=
  (am_xs_run am_ms 166 [(.iload_n 2, 1, [])] 107 _ _ h (by decide +kernel)).trans rfl
set_option maxHeartbeats 4000000 in
theorem bk_166_108 (x0 : Nat) (x1 : Nat) (x2 : Int) (x3 : Int) (x4 : Int) (y0 : Int) (h : am_H) : am_run am_ms 166 108 [am_R x0, am_R x1, am_I x2, am_I x3, am_I x4] [am_I y0] h = am_run am_ms 166 63 [am_R x0, am_R x1, am_I y0, am_I x3, am_I (am_w (x4 + 1))] [] h :=
  (am_xs_run am_ms 166 [(.istore_n 2, 1, []), (.iinc 4 1, 3, []), (.goto (-49), 3, [])] 108 _ _ h (by decide +kernel)).trans rfl
set_option maxHeartbeats 4000000 in
theorem bk_166_115 (x0 : Nat) (x1 : Nat) (x2 : Int) (x3 : Int) (x4 : Int) (h : am_H) : am_run am_ms 166 115 [am_R x0, am_R x1, am_I x2, am_I x3, am_I x4] [] h = am_run am_ms 166 50 [am_R x0, am_R x1, am_I x2, am_I (am_w (x3 + 1)), am_I x4] [] h :=
  (am_xs_run am_ms 166 [(.iinc 3 1, 3, []), (.goto (-68), 3, [])] 115 _ _ h (by decide +kernel)).trans rfl
set_option maxHeartbeats 4000000 in
theorem bk_166_121 (x0 : Nat) (x1 : Nat) (x2 : Int) (x3 : Int) (x4 : am_V) (h : am_H) : am_run am_ms 166 121 [am_R x0, am_R x1, am_I x2, am_I x3, x4] [] h = ((am_wr h x1 0 419 x2).bind fun h1 => am_run am_ms 166 129 [am_R x0, am_R x1, am_I x2, am_I 0, x4] [] h1) :=
  (am_xs_run am_ms 166 [(.aload_n 1, 1, []), (.sipush 419, 3, []), (.iload_n 2, 1, []), (.iastore, 1, []), (.iconst 0, 1, []), (.istore_n 3, 1, [])] 121 _ _ h (by decide +kernel)).trans rfl
set_option maxHeartbeats 4000000 in
theorem bk_166_129 (x0 : Nat) (x1 : Nat) (x2 : Int) (x3 : Int) (x4 : am_V) (h : am_H) : am_run am_ms 166 129 [am_R x0, am_R x1, am_I x2, am_I x3, x4] [] h = (bif decide (3 ≤ x3) then am_run am_ms 166 148 [am_R x0, am_R x1, am_I x2, am_I x3, x4] [] h else ((am_wr h x1 0 (am_w (416 + x3)) (-1)).bind fun h1 => am_run am_ms 166 129 [am_R x0, am_R x1, am_I x2, am_I (am_w (x3 + 1)), x4] [] h1)) :=
  (am_xs_run am_ms 166 [(.iload_n 3, 1, []), (.iconst 3, 1, []), (.if_icmp .ge 17, 3, []), (.aload_n 1, 1, []), (.sipush 416, 3, []), (.iload_n 3, 1, []), (.iadd, 1, []), (.iconst (-1), 1, []), (.iastore, 1, []), (.iinc 3 1, 3, []), (.goto (-16), 3, [])] 129 _ _ h (by decide +kernel)).trans rfl
set_option maxHeartbeats 4000000 in
theorem bk_166_148 (x0 : Nat) (x1 : Nat) (x2 : Int) (x3 : Int) (x4 : am_V) (h : am_H) : am_run am_ms 166 148 [am_R x0, am_R x1, am_I x2, am_I x3, x4] [] h = am_run am_ms 166 153 [am_R x0, am_R x1, am_I x2, am_I 0, am_I 0] [] h :=
  (am_xs_run am_ms 166 [(.iconst 0, 1, []), (.istore_n 3, 1, []), (.iconst 0, 1, []), (.istore 4, 2, [])] 148 _ _ h (by decide +kernel)).trans rfl
set_option maxHeartbeats 4000000 in
theorem bk_166_153 (x0 : Nat) (x1 : Nat) (x2 : Int) (x3 : Int) (x4 : Int) (h : am_H) : am_run am_ms 166 153 [am_R x0, am_R x1, am_I x2, am_I x3, am_I x4] [] h = ((am_gfR h x0 9 6).bind fun f1 => ((am_rd h f1 0 0).bind fun v2 => (bif decide (v2 ≤ x4) then am_run am_ms 166 202 [am_R x0, am_R x1, am_I x2, am_I x3, am_I x4] [] h else ((am_gfI h x0 9 25).bind fun f3 => (bif decide (f3 ≤ x3) then am_run am_ms 166 202 [am_R x0, am_R x1, am_I x2, am_I x3, am_I x4] [] h else ((am_cI 124 [am_R x1, am_I x4] h).bind fun r4 => (bif decide (¬ r4.1 = 0) then am_run am_ms 166 184 [am_R x0, am_R x1, am_I x2, am_I x3, am_I x4] [] r4.2 else am_run am_ms 166 181 [am_R x0, am_R x1, am_I x2, am_I x3, am_I x4] [] r4.2))))))) :=
  (am_xs_run am_ms 166 [(.iload 4, 2, []), (.aload_n 0, 1, []), (.getfield 17, 3, [9, 6, 5189, 3]), (.iconst 0, 1, []), (.iaload, 1, []), (.if_icmp .ge 41, 3, []), (.iload_n 3, 1, []), (.aload_n 0, 1, []), (.getfield 177, 3, [9, 25, 5208, 0]), (.if_icmp .ge 33, 3, []), (.aload_n 1, 1, []), (.iload 4, 2, []), (.invokestatic 215, 3, [1, 124, 2, 0, 1, 6231, 6232]), (.ifCond .ne 6, 3, [])] 153 _ _ h (by decide +kernel)).trans rfl
set_option maxHeartbeats 4000000 in
theorem bk_166_181 (x0 : Nat) (x1 : Nat) (x2 : Int) (x3 : Int) (x4 : Int) (h : am_H) : am_run am_ms 166 181 [am_R x0, am_R x1, am_I x2, am_I x3, am_I x4] [] h = am_run am_ms 166 196 [am_R x0, am_R x1, am_I x2, am_I x3, am_I x4] [] h :=
  (am_xs_run am_ms 166 [(.goto 15, 3, [])] 181 _ _ h (by decide +kernel)).trans rfl
set_option maxHeartbeats 4000000 in
theorem bk_166_184 (x0 : Nat) (x1 : Nat) (x2 : Int) (x3 : Int) (x4 : Int) (h : am_H) : am_run am_ms 166 184 [am_R x0, am_R x1, am_I x2, am_I x3, am_I x4] [] h = ((am_wr h x1 0 (am_w (416 + x3)) x4).bind fun h1 => am_run am_ms 166 196 [am_R x0, am_R x1, am_I x2, am_I (am_w (x3 + 1)), am_I x4] [] h1) :=
  (am_xs_run am_ms 166 [(.aload_n 1, 1, []), (.sipush 416, 3, []), (.iload_n 3, 1, []), (.iadd, 1, []), (.iload 4, 2, []), (.iastore, 1, []), (.iinc 3 1, 3, [])] 184 _ _ h (by decide +kernel)).trans rfl
set_option maxHeartbeats 4000000 in
theorem bk_166_196 (x0 : Nat) (x1 : Nat) (x2 : Int) (x3 : Int) (x4 : Int) (h : am_H) : am_run am_ms 166 196 [am_R x0, am_R x1, am_I x2, am_I x3, am_I x4] [] h = am_run am_ms 166 153 [am_R x0, am_R x1, am_I x2, am_I x3, am_I (am_w (x4 + 1))] [] h :=
  (am_xs_run am_ms 166 [(.iinc 4 1, 3, []), (.goto (-46), 3, [])] 196 _ _ h (by decide +kernel)).trans rfl
set_option maxHeartbeats 4000000 in
theorem bk_166_202 (x0 : Nat) (x1 : Nat) (x2 : Int) (x3 : Int) (x4 : Int) (h : am_H) : am_run am_ms 166 202 [am_R x0, am_R x1, am_I x2, am_I x3, am_I x4] [] h = ((am_rd h x1 0 425).bind fun v1 => ((am_wr h x1 0 425 (am_w (v1 + 1))).bind fun h2 => ((am_isc h2 x0 9).bind fun _ => ((am_cI 165 [am_R x0, am_R x1] h2).bind fun r3 => am_run am_ms 166 221 [am_R x0, am_R x1, am_I x2, am_I x3, am_I x4] [am_I r3.1, am_I (-1), am_I 6, am_R x1, am_R x0] r3.2)))) :=
  (am_xs_run am_ms 166 [(.aload_n 1, 1, []), (.sipush 425, 3, []), (.dup2, 1, []), (.iaload, 1, []), (.iconst 1, 1, []), (.iadd, 1, []), (.iastore, 1, []), (.aload_n 0, 1, []), (.aload_n 1, 1, []), (.bipush 6, 2, []), (.iconst (-1), 1, []), (.aload_n 0, 1, []), (.aload_n 1, 1, []), (.invokevirtual 278, 3, [0, 165, 2, 9, 1, 7065, 7067, 84])] 202 _ _ h (by decide +kernel)).trans rfl
set_option maxHeartbeats 4000000 in
theorem bk_166_221 (x0 : Nat) (x1 : Nat) (x2 : Int) (x3 : Int) (x4 : Int) (y0 : Int) (y1 : Int) (y2 : Int) (y3 : Nat) (y4 : Nat) (h : am_H) : am_run am_ms 166 221 [am_R x0, am_R x1, am_I x2, am_I x3, am_I x4] [am_I y0, am_I y1, am_I y2, am_R y3, am_R y4] h = ((am_isc h y4 9).bind fun _ => ((am_cV 127 [am_R y4, am_R y3, am_I y2, am_I y1, am_I y0] h).bind fun h1 => some (none, h1))) :=
  (am_xs_run am_ms 166 [(.invokevirtual 203, 3, [0, 127, 5, 9, 0, 7002, 7004, 70]), (.return_, 1, [])] 221 _ _ h (by decide +kernel)).trans rfl
set_option maxHeartbeats 4000000 in
theorem bk_167_0 (x0 : Nat) (x1 : Nat) (x2 : Int) (x3 : Int) (h : am_H) : am_run am_ms 167 0 [am_R x0, am_R x1, am_I x2, am_I x3] [] h = am_run am_ms 167 1 [am_R x0, am_R x1, am_I x2, am_I x3] [am_I x2] h :=
  (am_xs_run am_ms 167 [(.iload_n 2, 1, [])] 0 _ _ h (by decide +kernel)).trans rfl
theorem en_167 (x0 : Nat) (x1 : Nat) (x2 : Int) (x3 : Int) (h : am_H) : am_call am_ms 167 [am_R x0, am_R x1, am_I x2, am_I x3] h = am_run am_ms 167 0 [am_R x0, am_R x1, am_I x2, am_I x3] [] h := rfl
theorem bk_167_1 (x0 : Nat) (x1 : Nat) (x2 : Int) (x3 : Int) (y0 : Int) (h : am_H) : am_run am_ms 167 1 [am_R x0, am_R x1, am_I x2, am_I x3] [am_I y0] h = am_run am_ms 167 (am_tsw 1 122 4 7 #[31, 65, 84, 103] y0) [am_R x0, am_R x1, am_I x2, am_I x3] [] h := by
  rw [am_run_eq, show am_code am_ms 167 1 = some (.tableswitch 122 4 7 #[31, 65, 84, 103], 31, []) from by decide +kernel]
  rfl
set_option maxHeartbeats 4000000 in
theorem bk_167_32 (x0 : Nat) (x1 : Nat) (x2 : Int) (x3 : Int) (h : am_H) : am_run am_ms 167 32 [am_R x0, am_R x1, am_I x2, am_I x3] [] h = ((am_wr h x1 0 (am_w (0 + x3)) 1).bind fun h1 => ((am_wr h1 x1 0 (am_w (24 + x3)) 0).bind fun h2 => am_run am_ms 167 47 [am_R x0, am_R x1, am_I x2, am_I x3] [am_R x1, am_R x0] h2)) :=
  (am_xs_run am_ms 167 [(.aload_n 1, 1, []), (.iconst 0, 1, []), (.iload_n 3, 1, []), (.iadd, 1, []), (.iconst 1, 1, []), (.iastore, 1, []), (.aload_n 1, 1, []), (.bipush 24, 2, []), (.iload_n 3, 1, []), (.iadd, 1, []), (.iconst 0, 1, []), (.iastore, 1, []), (.aload_n 0, 1, []), (.aload_n 1, 1, [])] 32 _ _ h (by decide +kernel)).trans rfl
set_option maxHeartbeats 4000000 in
theorem bk_167_47 (x0 : Nat) (x1 : Nat) (x2 : Int) (x3 : Int) (y0 : Nat) (y1 : Nat) (h : am_H) : am_run am_ms 167 47 [am_R x0, am_R x1, am_I x2, am_I x3] [am_R y0, am_R y1] h = ((am_isc h y1 9).bind fun _ => ((am_cV 127 [am_R y1, am_R y0, am_I 4, am_I x3, am_I 0] h).bind fun h1 => ((am_isc h1 x0 9).bind fun _ => ((am_cI 112 [am_R x0, am_R x1, am_I 1] h1).bind fun r2 => ((am_pf r2.2 x0 9 28 (am_I r2.1)).bind fun h3 => am_run am_ms 167 138 [am_R x0, am_R x1, am_I x2, am_I x3] [] h3))))) :=
  (am_xs_run am_ms 167 [(.iconst 4, 1, []), (.iload_n 3, 1, []), (.iconst 0, 1, []), (.invokevirtual 203, 3, [0, 127, 5, 9, 0, 7002, 7004, 70]), (.aload_n 0, 1, []), (.aload_n 0, 1, []), (.aload_n 1, 1, []), (.iconst 1, 1, []), (.invokevirtual 200, 3, [0, 112, 3, 9, 1, 6170, 6172, 53]), (.putfield 300, 3, [9, 28, 5211, 0]), (.goto 75, 3, [])] 47 _ _ h (by decide +kernel)).trans rfl
set_option maxHeartbeats 4000000 in
theorem bk_167_66 (x0 : Nat) (x1 : Nat) (x2 : Int) (x3 : Int) (h : am_H) : am_run am_ms 167 66 [am_R x0, am_R x1, am_I x2, am_I x3] [] h = ((am_isc h x0 9).bind fun _ => ((am_cV 130 [am_R x0, am_R x1, am_I x3] h).bind fun h1 => ((am_isc h1 x0 9).bind fun _ => ((am_cI 112 [am_R x0, am_R x1, am_I 1] h1).bind fun r2 => ((am_pf r2.2 x0 9 28 (am_I r2.1)).bind fun h3 => am_run am_ms 167 138 [am_R x0, am_R x1, am_I x2, am_I x3] [] h3))))) :=
  (am_xs_run am_ms 167 [(.aload_n 0, 1, []), (.aload_n 1, 1, []), (.iload_n 3, 1, []), (.invokevirtual 211, 3, [0, 130, 3, 9, 0, 7014, 7016, 73]), (.aload_n 0, 1, []), (.aload_n 0, 1, []), (.aload_n 1, 1, []), (.iconst 1, 1, []), (.invokevirtual 200, 3, [0, 112, 3, 9, 1, 6170, 6172, 53]), (.putfield 300, 3, [9, 28, 5211, 0]), (.goto 56, 3, [])] 66 _ _ h (by decide +kernel)).trans rfl
set_option maxHeartbeats 4000000 in
theorem bk_167_85 (x0 : Nat) (x1 : Nat) (x2 : Int) (x3 : Int) (h : am_H) : am_run am_ms 167 85 [am_R x0, am_R x1, am_I x2, am_I x3] [] h = ((am_isc h x0 9).bind fun _ => ((am_cV 128 [am_R x0, am_R x1, am_I x3] h).bind fun h1 => ((am_rd h1 x1 0 (am_w (8 + x3))).bind fun v2 => ((am_pf h1 x0 9 28 (am_I v2)).bind fun h3 => am_run am_ms 167 138 [am_R x0, am_R x1, am_I x2, am_I x3] [] h3)))) :=
  (am_xs_run am_ms 167 [(.aload_n 0, 1, []), (.aload_n 1, 1, []), (.iload_n 3, 1, []), (.invokevirtual 233, 3, [0, 128, 3, 9, 0, 6238, 7000, 69]), (.aload_n 0, 1, []), (.aload_n 1, 1, []), (.bipush 8, 2, []), (.iload_n 3, 1, []), (.iadd, 1, []), (.iaload, 1, []), (.putfield 300, 3, [9, 28, 5211, 0]), (.goto 37, 3, [])] 85 _ _ h (by decide +kernel)).trans rfl
set_option maxHeartbeats 4000000 in
theorem bk_167_104 (x0 : Nat) (x1 : Nat) (x2 : Int) (x3 : Int) (h : am_H) : am_run am_ms 167 104 [am_R x0, am_R x1, am_I x2, am_I x3] [] h = ((am_isc h x0 9).bind fun _ => ((am_cV 133 [am_R x0, am_R x1, am_I x3] h).bind fun h1 => ((am_rd h1 x1 0 (am_w (16 + x3))).bind fun v2 => ((am_pf h1 x0 9 28 (am_I v2)).bind fun h3 => am_run am_ms 167 138 [am_R x0, am_R x1, am_I x2, am_I x3] [] h3)))) :=
  (am_xs_run am_ms 167 [(.aload_n 0, 1, []), (.aload_n 1, 1, []), (.iload_n 3, 1, []), (.invokevirtual 256, 3, [0, 133, 3, 9, 0, 7018, 7020, 74]), (.aload_n 0, 1, []), (.aload_n 1, 1, []), (.bipush 16, 2, []), (.iload_n 3, 1, []), (.iadd, 1, []), (.iaload, 1, []), (.putfield 300, 3, [9, 28, 5211, 0]), (.goto 18, 3, [])] 104 _ _ h (by decide +kernel)).trans rfl
set_option maxHeartbeats 4000000 in
theorem bk_167_123 (x0 : Nat) (x1 : Nat) (x2 : Int) (x3 : Int) (h : am_H) : am_run am_ms 167 123 [am_R x0, am_R x1, am_I x2, am_I x3] [] h = ((am_rd h x1 0 420).bind fun v1 => ((am_pf h x0 9 28 (am_I v1)).bind fun h2 => ((am_wr h2 x1 0 420 x3).bind fun h3 => am_run am_ms 167 138 [am_R x0, am_R x1, am_I x2, am_I x3] [] h3))) :=
  (am_xs_run am_ms 167 [(.aload_n 0, 1, []), (.aload_n 1, 1, []), (.sipush 420, 3, []), (.iaload, 1, []), (.putfield 300, 3, [9, 28, 5211, 0]), (.aload_n 1, 1, []), (.sipush 420, 3, []), (.iload_n 3, 1, []), (.iastore, 1, [])] 123 _ _ h (by decide +kernel)).trans rfl
set_option maxHeartbeats 4000000 in
theorem bk_167_138 (x0 : Nat) (x1 : Nat) (x2 : Int) (x3 : Int) (h : am_H) : am_run am_ms 167 138 [am_R x0, am_R x1, am_I x2, am_I x3] [] h = some (none, h) :=
  (am_xs_run am_ms 167 [(.return_, 1, [])] 138 _ _ h (by decide +kernel)).trans rfl
set_option maxHeartbeats 4000000 in
theorem bk_168_0 (x0 : Nat) (x1 : Nat) (x2 : Int) (x3 : Int) (x4 : Int) (h : am_H) : am_run am_ms 168 0 [am_R x0, am_R x1, am_I x2, am_I x3, am_I x4] [] h = am_run am_ms 168 1 [am_R x0, am_R x1, am_I x2, am_I x3, am_I x4] [am_I x2] h :=
  (am_xs_run am_ms 168 [(.iload_n 2, 1, [])] 0 _ _ h (by decide +kernel)).trans rfl
theorem en_168 (x0 : Nat) (x1 : Nat) (x2 : Int) (x3 : Int) (x4 : Int) (h : am_H) : am_call am_ms 168 [am_R x0, am_R x1, am_I x2, am_I x3, am_I x4] h = am_run am_ms 168 0 [am_R x0, am_R x1, am_I x2, am_I x3, am_I x4] [] h := rfl
theorem bk_168_1 (x0 : Nat) (x1 : Nat) (x2 : Int) (x3 : Int) (x4 : Int) (y0 : Int) (h : am_H) : am_run am_ms 168 1 [am_R x0, am_R x1, am_I x2, am_I x3, am_I x4] [am_I y0] h = am_run am_ms 168 (am_tsw 1 91 0 3 #[31, 31, 62, 75] y0) [am_R x0, am_R x1, am_I x2, am_I x3, am_I x4] [] h := by
  rw [am_run_eq, show am_code am_ms 168 1 = some (.tableswitch 91 0 3 #[31, 31, 62, 75], 31, []) from by decide +kernel]
  rfl
set_option maxHeartbeats 4000000 in
theorem bk_168_32 (x0 : Nat) (x1 : Nat) (x2 : Int) (x3 : Int) (x4 : Int) (h : am_H) : am_run am_ms 168 32 [am_R x0, am_R x1, am_I x2, am_I x3, am_I x4] [] h = (bif decide (¬ x2 = 0) then am_run am_ms 168 44 [am_R x0, am_R x1, am_I x2, am_I x3, am_I x4] [am_I x3, am_R x1, am_R x0] h else am_run am_ms 168 45 [am_R x0, am_R x1, am_I x2, am_I x3, am_I x4] [am_I x4, am_I x3, am_R x1, am_R x0] h) :=
  (am_xs_run am_ms 168 [(.aload_n 0, 1, []), (.aload_n 1, 1, []), (.iload_n 3, 1, []), (.iload_n 2, 1, []), (.ifCond .ne 8, 3, []), (.iload 4, 2, []), (.goto 4, 3, [])] 32 _ _ h (by decide +kernel)).trans rfl
set_option maxHeartbeats 4000000 in
theorem bk_168_44 (x0 : Nat) (x1 : Nat) (x2 : Int) (x3 : Int) (x4 : Int) (y0 : Int) (y1 : Nat) (y2 : Nat) (h : am_H) : am_run am_ms 168 44 [am_R x0, am_R x1, am_I x2, am_I x3, am_I x4] [am_I y0, am_R y1, am_R y2] h = am_run am_ms 168 45 [am_R x0, am_R x1, am_I x2, am_I x3, am_I x4] [am_I (-1), am_I y0, am_R y1, am_R y2] h :=
  (am_xs_run am_ms 168 [(.iconst (-1), 1, [])] 44 _ _ h (by decide +kernel)).trans rfl
set_option maxHeartbeats 4000000 in
theorem bk_168_45 (x0 : Nat) (x1 : Nat) (x2 : Int) (x3 : Int) (x4 : Int) (y0 : Int) (y1 : Int) (y2 : Nat) (y3 : Nat) (h : am_H) : am_run am_ms 168 45 [am_R x0, am_R x1, am_I x2, am_I x3, am_I x4] [am_I y0, am_I y1, am_R y2, am_R y3] h = ((am_isc h y3 9).bind fun _ => ((am_cI 135 [am_R y3, am_R y2, am_I y1, am_I y0] h).bind fun r1 => (bif decide (¬ r1.1 = 0) then am_run am_ms 168 53 [am_R x0, am_R x1, am_I x2, am_I x3, am_I x4] [] r1.2 else some (some (am_I 0), r1.2)))) :=
  (am_xs_run am_ms 168 [(.invokevirtual 161, 3, [0, 135, 4, 9, 1, 6151, 6153, 49]), (.ifCond .ne 5, 3, []), (.iconst 0, 1, []), (.ireturn, 1, [1])] 45 _ _ h (by decide +kernel)).trans rfl
set_option maxHeartbeats 4000000 in
theorem bk_168_53 (x0 : Nat) (x1 : Nat) (x2 : Int) (x3 : Int) (x4 : Int) (h : am_H) : am_run am_ms 168 53 [am_R x0, am_R x1, am_I x2, am_I x3, am_I x4] [] h = ((am_gfI h x0 9 27).bind fun f1 => ((am_pf h x0 9 28 (am_I f1)).bind fun h2 => some (some (am_I 1), h2))) :=
  (am_xs_run am_ms 168 [(.aload_n 0, 1, []), (.aload_n 0, 1, []), (.getfield 272, 3, [9, 27, 5210, 0]), (.putfield 300, 3, [9, 28, 5211, 0]), (.iconst 1, 1, []), (.ireturn, 1, [1])] 53 _ _ h (by decide +kernel)).trans rfl
set_option maxHeartbeats 4000000 in
theorem bk_168_63 (x0 : Nat) (x1 : Nat) (x2 : Int) (x3 : Int) (x4 : Int) (h : am_H) : am_run am_ms 168 63 [am_R x0, am_R x1, am_I x2, am_I x3, am_I x4] [] h = ((am_isc h x0 9).bind fun _ => ((am_cI 134 [am_R x0, am_R x1, am_I 17] h).bind fun r1 => ((am_pf r1.2 x0 9 28 (am_I r1.1)).bind fun h2 => some (some (am_I 1), h2)))) :=
  (am_xs_run am_ms 168 [(.aload_n 0, 1, []), (.aload_n 0, 1, []), (.aload_n 1, 1, []), (.bipush 17, 2, []), (.invokevirtual 269, 3, [0, 134, 3, 9, 1, 6211, 6213, 63]), (.putfield 300, 3, [9, 28, 5211, 0]), (.iconst 1, 1, []), (.ireturn, 1, [1])] 63 _ _ h (by decide +kernel)).trans rfl
set_option maxHeartbeats 4000000 in
theorem bk_168_76 (x0 : Nat) (x1 : Nat) (x2 : Int) (x3 : Int) (x4 : Int) (h : am_H) : am_run am_ms 168 76 [am_R x0, am_R x1, am_I x2, am_I x3, am_I x4] [] h = ((am_isc h x0 9).bind fun _ => ((am_cV 166 [am_R x0, am_R x1] h).bind fun h1 => ((am_isc h1 x0 9).bind fun _ => ((am_cI 165 [am_R x0, am_R x1] h1).bind fun r2 => ((am_pf r2.2 x0 9 28 (am_I r2.1)).bind fun h3 => some (some (am_I 1), h3)))))) :=
  (am_xs_run am_ms 168 [(.aload_n 0, 1, []), (.aload_n 1, 1, []), (.invokevirtual 303, 3, [0, 166, 2, 9, 0, 7061, 7063, 83]), (.aload_n 0, 1, []), (.aload_n 0, 1, []), (.aload_n 1, 1, []), (.invokevirtual 278, 3, [0, 165, 2, 9, 1, 7065, 7067, 84]), (.putfield 300, 3, [9, 28, 5211, 0]), (.iconst 1, 1, []), (.ireturn, 1, [1])] 76 _ _ h (by decide +kernel)).trans rfl
set_option maxHeartbeats 4000000 in
theorem bk_168_92 (x0 : Nat) (x1 : Nat) (x2 : Int) (x3 : Int) (x4 : Int) (h : am_H) : am_run am_ms 168 92 [am_R x0, am_R x1, am_I x2, am_I x3, am_I x4] [] h = ((am_isc h x0 9).bind fun _ => ((am_cV 167 [am_R x0, am_R x1, am_I x2, am_I x3] h).bind fun h1 => some (some (am_I 1), h1))) :=
  (am_xs_run am_ms 168 [(.aload_n 0, 1, []), (.aload_n 1, 1, []), (.iload_n 2, 1, []), (.iload_n 3, 1, []), (.invokevirtual 307, 3, [0, 167, 4, 9, 0, 7069, 7071, 85]), (.iconst 1, 1, []), (.ireturn, 1, [1])] 92 _ _ h (by decide +kernel)).trans rfl
set_option maxHeartbeats 4000000 in
theorem bk_169_0 (x0 : Nat) (h : am_H) : am_run am_ms 169 0 [am_R x0] [] h = ((am_gfI h x0 9 21).bind fun f1 => (bif decide (¬ f1 = 40) then am_run am_ms 169 25 [am_R x0] [] h else ((am_gfI h x0 9 20).bind fun f2 => (if 40 = 0 then none else ((am_pf h x0 9 20 (am_I (am_rem (am_w (f2 + 1)) 40))).bind fun h3 => am_run am_ms 169 35 [am_R x0] [] h3))))) :=
  (am_xs_run am_ms 169 [(.aload_n 0, 1, []), (.getfield 165, 3, [9, 21, 5204, 0]), (.bipush 40, 2, []), (.if_icmp .ne 19, 3, []), (.aload_n 0, 1, []), (.aload_n 0, 1, []), (.getfield 281, 3, [9, 20, 5203, 0]), (.iconst 1, 1, []), (.iadd, 1, []), (.bipush 40, 2, []), (.irem, 1, []), (.putfield 281, 3, [9, 20, 5203, 0]), (.goto 13, 3, [])] 0 _ _ h (by decide +kernel)).trans rfl
theorem en_169 (x0 : Nat) (h : am_H) : am_call am_ms 169 [am_R x0] h = am_run am_ms 169 0 [am_R x0] [] h := rfl
set_option maxHeartbeats 4000000 in
theorem bk_169_25 (x0 : Nat) (h : am_H) : am_run am_ms 169 25 [am_R x0] [] h = ((am_gfI h x0 9 21).bind fun f1 => ((am_pf h x0 9 21 (am_I (am_w (f1 + 1)))).bind fun h2 => am_run am_ms 169 35 [am_R x0] [] h2)) :=
  (am_xs_run am_ms 169 [(.aload_n 0, 1, []), (.dup, 1, []), (.getfield 165, 3, [9, 21, 5204, 0]), (.iconst 1, 1, []), (.iadd, 1, []), (.putfield 165, 3, [9, 21, 5204, 0])] 25 _ _ h (by decide +kernel)).trans rfl
set_option maxHeartbeats 4000000 in
theorem bk_169_35 (x0 : Nat) (h : am_H) : am_run am_ms 169 35 [am_R x0] [] h = ((am_gfR h x0 9 15).bind fun f1 => ((am_gfR h x0 9 19).bind fun f2 => ((am_gfI h x0 9 20).bind fun f3 => ((am_gfI h x0 9 21).bind fun f4 => am_run am_ms 169 60 [am_R x0] [am_I 40, am_I (am_w ((am_w (f3 + f4)) - 1)), am_I 609, am_R f2, am_I 0, am_R f1] h)))) :=
  (am_xs_run am_ms 169 [(.aload_n 0, 1, []), (.getfield 32, 3, [9, 15, 5198, 3]), (.iconst 0, 1, []), (.aload_n 0, 1, []), (.getfield 44, 3, [9, 19, 5202, 3]), (.sipush 609, 3, []), (.aload_n 0, 1, []), (.getfield 281, 3, [9, 20, 5203, 0]), (.aload_n 0, 1, []), (.getfield 165, 3, [9, 21, 5204, 0]), (.iadd, 1, []), (.iconst 1, 1, []), (.isub, 1, []), (.bipush 40, 2, [])] 35 _ _ h (by decide +kernel)).trans rfl
set_option maxHeartbeats 4000000 in
theorem bk_169_60 (x0 : Nat) (y0 : Int) (y1 : Int) (y2 : Int) (y3 : Nat) (y4 : Int) (y5 : Nat) (h : am_H) : am_run am_ms 169 60 [am_R x0] [am_I y0, am_I y1, am_I y2, am_R y3, am_I y4, am_R y5] h = (if y0 = 0 then none else ((am_cV 108 [am_R y5, am_I y4, am_R y3, am_I (am_w (y2 * (am_rem y1 y0)))] h).bind fun h1 => some (none, h1))) :=
  (am_xs_run am_ms 169 [(.irem, 1, []), (.imul, 1, []), (.invokestatic 259, 3, [1, 108, 4, 0, 0, 6155, 6156]), (.return_, 1, [])] 60 _ _ h (by decide +kernel)).trans rfl
set_option maxHeartbeats 4000000 in
theorem bk_170_0 (x0 : Nat) (x1 : Int) (x2 : Int) (x3 : Int) (h : am_H) : am_run am_ms 170 0 [am_R x0, am_I x1, am_I x2, am_I x3, am_K 1] [] h = ((am_gfR h x0 9 15).bind fun f1 => ((am_isc h x0 9).bind fun _ => ((am_cI 164 [am_R x0, am_R f1, am_I x1, am_I x2, am_I x3] h).bind fun r2 => (bif decide (r2.1 = (-1)) then am_run am_ms 170 22 [am_R x0, am_I x1, am_I x2, am_I x3, am_I r2.1] [] r2.2 else some (some (am_I r2.1), r2.2))))) :=
  (am_xs_run am_ms 170 [(.aload_n 0, 1, []), (.aload_n 0, 1, []), (.getfield 32, 3, [9, 15, 5198, 3]), (.iload_n 1, 1, []), (.iload_n 2, 1, []), (.iload_n 3, 1, []), (.invokevirtual 311, 3, [0, 164, 5, 9, 1, 7034, 7036, 77]), (.istore 4, 2, []), (.iload 4, 2, []), (.iconst (-1), 1, []), (.if_icmp .eq 6, 3, []), (.iload 4, 2, []), (.ireturn, 1, [0])] 0 _ _ h (by decide +kernel)).trans rfl
theorem en_170 (x0 : Nat) (x1 : Int) (x2 : Int) (x3 : Int) (h : am_H) : am_call am_ms 170 [am_R x0, am_I x1, am_I x2, am_I x3] h = am_run am_ms 170 0 [am_R x0, am_I x1, am_I x2, am_I x3, am_K 1] [] h := rfl
set_option maxHeartbeats 4000000 in
theorem bk_170_22 (x0 : Nat) (x1 : Int) (x2 : Int) (x3 : Int) (x4 : Int) (h : am_H) : am_run am_ms 170 22 [am_R x0, am_I x1, am_I x2, am_I x3, am_I x4] [] h = ((am_gfR h x0 9 15).bind fun f1 => ((am_gfR h x0 9 16).bind fun f2 => ((am_cV 108 [am_R f1, am_I 0, am_R f2, am_I 0] h).bind fun h3 => ((am_gfR h3 x0 9 16).bind fun f4 => ((am_isc h3 x0 9).bind fun _ => ((am_cI 168 [am_R x0, am_R f4, am_I x1, am_I x2, am_I x3] h3).bind fun r5 => am_run am_ms 170 46 [am_R x0, am_I x1, am_I x2, am_I x3, am_I x4] [am_I r5.1] r5.2)))))) :=
  (am_xs_run am_ms 170 [(.aload_n 0, 1, []), (.getfield 32, 3, [9, 15, 5198, 3]), (.iconst 0, 1, []), (.aload_n 0, 1, []), (.getfield 35, 3, [9, 16, 5199, 3]), (.iconst 0, 1, []), (.invokestatic 259, 3, [1, 108, 4, 0, 0, 6155, 6156]), (.aload_n 0, 1, []), (.aload_n 0, 1, []), (.getfield 35, 3, [9, 16, 5199, 3]), (.iload_n 1, 1, []), (.iload_n 2, 1, []), (.iload_n 3, 1, []), (.invokevirtual 315, 3, [0, 168, 5, 9, 1, 7057, 7059, 82])] 22 _ _ h (by decide +kernel)).trans rfl
set_option maxHeartbeats 4000000 in
theorem bk_170_46 (x0 : Nat) (x1 : Int) (x2 : Int) (x3 : Int) (x4 : Int) (y0 : Int) (h : am_H) : am_run am_ms 170 46 [am_R x0, am_I x1, am_I x2, am_I x3, am_I x4] [am_I y0] h = (bif decide (¬ y0 = 0) then am_run am_ms 170 51 [am_R x0, am_I x1, am_I x2, am_I x3, am_I x4] [] h else some (some (am_I 3), h)) :=
  (am_xs_run am_ms 170 [(.ifCond .ne 5, 3, []), (.iconst 3, 1, []), (.ireturn, 1, [0])] 46 _ _ h (by decide +kernel)).trans rfl
set_option maxHeartbeats 4000000 in
theorem bk_170_51 (x0 : Nat) (x1 : Int) (x2 : Int) (x3 : Int) (x4 : Int) (h : am_H) : am_run am_ms 170 51 [am_R x0, am_I x1, am_I x2, am_I x3, am_I x4] [] h = ((am_isc h x0 9).bind fun _ => ((am_cV 169 [am_R x0] h).bind fun h1 => ((am_gfR h1 x0 9 16).bind fun f2 => ((am_gfR h1 x0 9 15).bind fun f3 => ((am_cV 108 [am_R f2, am_I 0, am_R f3, am_I 0] h1).bind fun h4 => some (some (am_I (-1)), h4)))))) :=
  (am_xs_run am_ms 170 [(.aload_n 0, 1, []), (.invokevirtual 319, 3, [0, 169, 1, 9, 0, 7073, 7075, 86]), (.aload_n 0, 1, []), (.getfield 35, 3, [9, 16, 5199, 3]), (.iconst 0, 1, []), (.aload_n 0, 1, []), (.getfield 32, 3, [9, 15, 5198, 3]), (.iconst 0, 1, []), (.invokestatic 259, 3, [1, 108, 4, 0, 0, 6155, 6156]), (.iconst (-1), 1, []), (.ireturn, 1, [0])] 51 _ _ h (by decide +kernel)).trans rfl
set_option maxHeartbeats 4000000 in
theorem bk_171_0 (x0 : Nat) (x1 : Int) (h : am_H) : am_run am_ms 171 0 [am_R x0, am_I x1] [] h = ((am_gfR h x0 9 10).bind fun f1 => ((am_rd h f1 0 x1).bind fun v2 => ((am_wr h f1 0 x1 (am_w (v2 + 1))).bind fun h3 => some (some (am_I (-1)), h3)))) :=
  (am_xs_run am_ms 171 [(.aload_n 0, 1, []), (.getfield 29, 3, [9, 10, 5193, 3]), (.iload_n 1, 1, []), (.dup2, 1, []), (.iaload, 1, []), (.iconst 1, 1, []), (.iadd, 1, []), (.iastore, 1, []), (.iconst (-1), 1, []), (.ireturn, 1, [0])] 0 _ _ h (by decide +kernel)).trans rfl
theorem en_171 (x0 : Nat) (x1 : Int) (h : am_H) : am_call am_ms 171 [am_R x0, am_I x1] h = am_run am_ms 171 0 [am_R x0, am_I x1] [] h := rfl
set_option maxHeartbeats 4000000 in
theorem bk_172_0 (x0 : Nat) (x1 : Int) (x2 : Int) (x3 : Int) (h : am_H) : am_run am_ms 172 0 [am_R x0, am_I x1, am_I x2, am_I x3, am_K 1] [] h = ((am_pf h x0 9 0 (am_I 0)).bind fun h1 => ((am_isc h1 x0 9).bind fun _ => ((am_cI 170 [am_R x0, am_I x1, am_I x2, am_I x3] h1).bind fun r2 => (bif decide (¬ r2.1 = (-1)) then am_run am_ms 172 27 [am_R x0, am_I x1, am_I x2, am_I x3, am_I r2.1] [] r2.2 else ((am_gfI r2.2 x0 9 28).bind fun f3 => am_run am_ms 172 24 [am_R x0, am_I x1, am_I x2, am_I x3, am_I r2.1] [am_I f3] r2.2))))) :=
  (am_xs_run am_ms 172 [(.aload_n 0, 1, []), (.iconst 0, 1, []), (.putfield 53, 3, [9, 0, 5183, 0]), (.aload_n 0, 1, []), (.iload_n 1, 1, []), (.iload_n 2, 1, []), (.iload_n 3, 1, []), (.invokevirtual 322, 3, [0, 170, 4, 9, 1, 7030, 7032, 76]), (.istore 4, 2, []), (.iload 4, 2, []), (.iconst (-1), 1, []), (.if_icmp .ne 10, 3, []), (.aload_n 0, 1, []), (.getfield 300, 3, [9, 28, 5211, 0])] 0 _ _ h (by decide +kernel)).trans rfl
theorem en_172 (x0 : Nat) (x1 : Int) (x2 : Int) (x3 : Int) (h : am_H) : am_call am_ms 172 [am_R x0, am_I x1, am_I x2, am_I x3] h = am_run am_ms 172 0 [am_R x0, am_I x1, am_I x2, am_I x3, am_K 1] [] h := rfl
set_option maxHeartbeats 4000000 in
theorem bk_172_24 (x0 : Nat) (x1 : Int) (x2 : Int) (x3 : Int) (x4 : Int) (y0 : Int) (h : am_H) : am_run am_ms 172 24 [am_R x0, am_I x1, am_I x2, am_I x3, am_I x4] [am_I y0] h = am_run am_ms 172 33 [am_R x0, am_I x1, am_I x2, am_I x3, am_I x4] [am_I y0] h :=
  (am_xs_run am_ms 172 [(.goto 9, 3, [])] 24 _ _ h (by decide +kernel)).trans rfl
set_option maxHeartbeats 4000000 in
theorem bk_172_27 (x0 : Nat) (x1 : Int) (x2 : Int) (x3 : Int) (x4 : Int) (h : am_H) : am_run am_ms 172 27 [am_R x0, am_I x1, am_I x2, am_I x3, am_I x4] [] h = ((am_isc h x0 9).bind fun _ => ((am_cI 171 [am_R x0, am_I x4] h).bind fun r1 => am_run am_ms 172 33 [am_R x0, am_I x1, am_I x2, am_I x3, am_I x4] [am_I r1.1] r1.2)) :=
  (am_xs_run am_ms 172 [(.aload_n 0, 1, []), (.iload 4, 2, []), (.invokevirtual 326, 3, [0, 171, 2, 9, 1, 7077, 7079, 87])] 27 _ _ h (by decide +kernel)).trans rfl
set_option maxHeartbeats 4000000 in
theorem bk_172_33 (x0 : Nat) (x1 : Int) (x2 : Int) (x3 : Int) (x4 : Int) (y0 : Int) (h : am_H) : am_run am_ms 172 33 [am_R x0, am_I x1, am_I x2, am_I x3, am_I x4] [am_I y0] h = some (some (am_I y0), h) :=
  (am_xs_run am_ms 172 [(.ireturn, 1, [0])] 33 _ _ h (by decide +kernel)).trans rfl
set_option maxHeartbeats 4000000 in
theorem bk_173_0 (x0 : Nat) (x1 : Int) (x2 : Int) (h : am_H) : am_run am_ms 173 0 [am_R x0, am_I x1, am_I x2] [] h = ((am_isc h x0 9).bind fun _ => ((am_cI 172 [am_R x0, am_I 0, am_I x1, am_I x2] h).bind fun r1 => some (some (am_I r1.1), r1.2))) :=
  (am_xs_run am_ms 173 [(.aload_n 0, 1, []), (.iconst 0, 1, []), (.iload_n 1, 1, []), (.iload_n 2, 1, []), (.invokevirtual 329, 3, [0, 172, 4, 9, 1, 7026, 7028, 75]), (.ireturn, 1, [0])] 0 _ _ h (by decide +kernel)).trans rfl
theorem en_173 (x0 : Nat) (x1 : Int) (x2 : Int) (h : am_H) : am_call am_ms 173 [am_R x0, am_I x1, am_I x2] h = am_run am_ms 173 0 [am_R x0, am_I x1, am_I x2] [] h := rfl
set_option maxHeartbeats 4000000 in
theorem bk_175_0 (x0 : Nat) (x1 : Int) (h : am_H) : am_run am_ms 175 0 [am_R x0, am_I x1] [] h = ((am_isc h x0 9).bind fun _ => ((am_cI 172 [am_R x0, am_I 1, am_I x1, am_I 0] h).bind fun r1 => some (some (am_I r1.1), r1.2))) :=
  (am_xs_run am_ms 175 [(.aload_n 0, 1, []), (.iconst 1, 1, []), (.iload_n 1, 1, []), (.iconst 0, 1, []), (.invokevirtual 329, 3, [0, 172, 4, 9, 1, 7026, 7028, 75]), (.ireturn, 1, [0])] 0 _ _ h (by decide +kernel)).trans rfl
theorem en_175 (x0 : Nat) (x1 : Int) (h : am_H) : am_call am_ms 175 [am_R x0, am_I x1] h = am_run am_ms 175 0 [am_R x0, am_I x1] [] h := rfl
set_option maxHeartbeats 4000000 in
theorem bk_178_0 (x0 : Nat) (h : am_H) : am_run am_ms 178 0 [am_R x0] [] h = ((am_isc h x0 9).bind fun _ => ((am_cI 172 [am_R x0, am_I 2, am_I 0, am_I 0] h).bind fun r1 => some (some (am_I r1.1), r1.2))) :=
  (am_xs_run am_ms 178 [(.aload_n 0, 1, []), (.iconst 2, 1, []), (.iconst 0, 1, []), (.iconst 0, 1, []), (.invokevirtual 329, 3, [0, 172, 4, 9, 1, 7026, 7028, 75]), (.ireturn, 1, [0])] 0 _ _ h (by decide +kernel)).trans rfl
theorem en_178 (x0 : Nat) (h : am_H) : am_call am_ms 178 [am_R x0] h = am_run am_ms 178 0 [am_R x0] [] h := rfl
set_option maxHeartbeats 4000000 in
theorem bk_184_0 (x0 : Nat) (h : am_H) : am_run am_ms 184 0 [am_R x0] [] h = ((am_isc h x0 9).bind fun _ => ((am_cI 172 [am_R x0, am_I 3, am_I 0, am_I 0] h).bind fun r1 => some (some (am_I r1.1), r1.2))) :=
  (am_xs_run am_ms 184 [(.aload_n 0, 1, []), (.iconst 3, 1, []), (.iconst 0, 1, []), (.iconst 0, 1, []), (.invokevirtual 329, 3, [0, 172, 4, 9, 1, 7026, 7028, 75]), (.ireturn, 1, [0])] 0 _ _ h (by decide +kernel)).trans rfl
theorem en_184 (x0 : Nat) (h : am_H) : am_call am_ms 184 [am_R x0] h = am_run am_ms 184 0 [am_R x0] [] h := rfl
set_option maxHeartbeats 4000000 in
theorem bk_187_0 (x0 : Nat) (x1 : Int) (h : am_H) : am_run am_ms 187 0 [am_R x0, am_I x1] [] h = ((am_isc h x0 9).bind fun _ => ((am_cI 172 [am_R x0, am_I 4, am_I x1, am_I 0] h).bind fun r1 => some (some (am_I r1.1), r1.2))) :=
  (am_xs_run am_ms 187 [(.aload_n 0, 1, []), (.iconst 4, 1, []), (.iload_n 1, 1, []), (.iconst 0, 1, []), (.invokevirtual 329, 3, [0, 172, 4, 9, 1, 7026, 7028, 75]), (.ireturn, 1, [0])] 0 _ _ h (by decide +kernel)).trans rfl
theorem en_187 (x0 : Nat) (x1 : Int) (h : am_H) : am_call am_ms 187 [am_R x0, am_I x1] h = am_run am_ms 187 0 [am_R x0, am_I x1] [] h := rfl
set_option maxHeartbeats 4000000 in
theorem bk_190_0 (x0 : Nat) (x1 : Int) (h : am_H) : am_run am_ms 190 0 [am_R x0, am_I x1] [] h = ((am_isc h x0 9).bind fun _ => ((am_cI 172 [am_R x0, am_I 5, am_I x1, am_I 0] h).bind fun r1 => some (some (am_I r1.1), r1.2))) :=
  (am_xs_run am_ms 190 [(.aload_n 0, 1, []), (.iconst 5, 1, []), (.iload_n 1, 1, []), (.iconst 0, 1, []), (.invokevirtual 329, 3, [0, 172, 4, 9, 1, 7026, 7028, 75]), (.ireturn, 1, [0])] 0 _ _ h (by decide +kernel)).trans rfl
theorem en_190 (x0 : Nat) (x1 : Int) (h : am_H) : am_call am_ms 190 [am_R x0, am_I x1] h = am_run am_ms 190 0 [am_R x0, am_I x1] [] h := rfl
set_option maxHeartbeats 4000000 in
theorem bk_193_0 (x0 : Nat) (x1 : Int) (h : am_H) : am_run am_ms 193 0 [am_R x0, am_I x1] [] h = ((am_isc h x0 9).bind fun _ => ((am_cI 172 [am_R x0, am_I 6, am_I x1, am_I 0] h).bind fun r1 => some (some (am_I r1.1), r1.2))) :=
  (am_xs_run am_ms 193 [(.aload_n 0, 1, []), (.bipush 6, 2, []), (.iload_n 1, 1, []), (.iconst 0, 1, []), (.invokevirtual 329, 3, [0, 172, 4, 9, 1, 7026, 7028, 75]), (.ireturn, 1, [0])] 0 _ _ h (by decide +kernel)).trans rfl
theorem en_193 (x0 : Nat) (x1 : Int) (h : am_H) : am_call am_ms 193 [am_R x0, am_I x1] h = am_run am_ms 193 0 [am_R x0, am_I x1] [] h := rfl
set_option maxHeartbeats 4000000 in
theorem bk_196_0 (x0 : Nat) (x1 : Int) (h : am_H) : am_run am_ms 196 0 [am_R x0, am_I x1] [] h = ((am_isc h x0 9).bind fun _ => ((am_cI 172 [am_R x0, am_I 7, am_I x1, am_I 0] h).bind fun r1 => some (some (am_I r1.1), r1.2))) :=
  (am_xs_run am_ms 196 [(.aload_n 0, 1, []), (.bipush 7, 2, []), (.iload_n 1, 1, []), (.iconst 0, 1, []), (.invokevirtual 329, 3, [0, 172, 4, 9, 1, 7026, 7028, 75]), (.ireturn, 1, [0])] 0 _ _ h (by decide +kernel)).trans rfl
theorem en_196 (x0 : Nat) (x1 : Int) (h : am_H) : am_call am_ms 196 [am_R x0, am_I x1] h = am_run am_ms 196 0 [am_R x0, am_I x1] [] h := rfl
set_option maxHeartbeats 4000000 in
theorem bk_200_0 (x0 : Nat) (x1 : Int) (h : am_H) : am_run am_ms 200 0 [am_R x0, am_I x1] [] h = ((am_isc h x0 9).bind fun _ => ((am_cI 172 [am_R x0, am_I 8, am_I x1, am_I 0] h).bind fun r1 => some (some (am_I r1.1), r1.2))) :=
  (am_xs_run am_ms 200 [(.aload_n 0, 1, []), (.bipush 8, 2, []), (.iload_n 1, 1, []), (.iconst 0, 1, []), (.invokevirtual 329, 3, [0, 172, 4, 9, 1, 7026, 7028, 75]), (.ireturn, 1, [0])] 0 _ _ h (by decide +kernel)).trans rfl
theorem en_200 (x0 : Nat) (x1 : Int) (h : am_H) : am_call am_ms 200 [am_R x0, am_I x1] h = am_run am_ms 200 0 [am_R x0, am_I x1] [] h := rfl
set_option maxHeartbeats 4000000 in
theorem bk_204_0 (x0 : Nat) (x1 : Int) (h : am_H) : am_run am_ms 204 0 [am_R x0, am_I x1] [] h = ((am_gfL h x0 9 29).bind fun f1 => ((am_pf h x0 9 29 (am_L (am_q ((am_q (f1 * 6364136223846793005)) + 1442695040888963407)))).bind fun h2 => ((am_gfL h2 x0 9 29).bind fun f3 => am_run am_ms 204 25 [am_R x0, am_I x1] [am_L x1, am_L (am_lushr f3 33)] h2))) :=
  (am_xs_run am_ms 204 [(.aload_n 0, 1, []), (.aload_n 0, 1, []), (.getfield 332, 3, [9, 29, 5212, 2]), (.ldc2_w 336, 3, [0, 6364136223846793005, 7126]), (.lmul, 1, []), (.ldc2_w 338, 3, [0, 1442695040888963407, 7127]), (.ladd, 1, []), (.putfield 332, 3, [9, 29, 5212, 2]), (.aload_n 0, 1, []), (.getfield 332, 3, [9, 29, 5212, 2]), (.bipush 33, 2, []), (.lushr, 1, []), (.iload_n 1, 1, []), (.i2l, 1, [])] 0 _ _ h (by decide +kernel)).trans rfl
theorem en_204 (x0 : Nat) (x1 : Int) (h : am_H) : am_call am_ms 204 [am_R x0, am_I x1] h = am_run am_ms 204 0 [am_R x0, am_I x1] [] h := rfl
set_option maxHeartbeats 4000000 in
theorem bk_204_25 (x0 : Nat) (x1 : Int) (y0 : Int) (y1 : Int) (h : am_H) : am_run am_ms 204 25 [am_R x0, am_I x1] [am_L y0, am_L y1] h = (if y0 = 0 then none else some (some (am_I (am_w (am_lrem y1 y0))), h)) :=
  (am_xs_run am_ms 204 [(.lrem, 1, []), (.l2i, 1, []), (.ireturn, 1, [0])] 25 _ _ h (by decide +kernel)).trans rfl
set_option maxHeartbeats 4000000 in
theorem bk_205_0 (x0 : Nat) (h : am_H) : am_run am_ms 205 0 [am_R x0, am_K 1, am_K 1, am_K 1] [] h = ((am_isc h x0 9).bind fun _ => ((am_cI 204 [am_R x0, am_I 8] h).bind fun r1 => (bif decide (5 ≤ r1.1) then am_run am_ms 205 36 [am_R x0, am_I r1.1, am_K 1, am_K 1] [] r1.2 else ((am_isc r1.2 x0 9).bind fun _ => ((am_cI 204 [am_R x0, am_I 32] r1.2).bind fun r2 => am_run am_ms 205 22 [am_R x0, am_I r1.1, am_I r2.1, am_K 1] [am_I r2.1, am_I 0, am_R x0] r2.2))))) :=
  (am_xs_run am_ms 205 [(.aload_n 0, 1, []), (.bipush 8, 2, []), (.invokevirtual 340, 3, [0, 204, 2, 9, 1, 7122, 7124, 89]), (.istore_n 1, 1, []), (.iload_n 1, 1, []), (.iconst 5, 1, []), (.if_icmp .ge 27, 3, []), (.aload_n 0, 1, []), (.bipush 32, 2, []), (.invokevirtual 340, 3, [0, 204, 2, 9, 1, 7122, 7124, 89]), (.istore_n 2, 1, []), (.aload_n 0, 1, []), (.iconst 0, 1, []), (.iload_n 2, 1, [])] 0 _ _ h (by decide +kernel)).trans rfl
theorem en_205 (x0 : Nat) (h : am_H) : am_call am_ms 205 [am_R x0] h = am_run am_ms 205 0 [am_R x0, am_K 1, am_K 1, am_K 1] [] h := rfl
set_option maxHeartbeats 4000000 in
theorem bk_205_22 (x0 : Nat) (x1 : Int) (x2 : Int) (y0 : Int) (y1 : Int) (y2 : Nat) (h : am_H) : am_run am_ms 205 22 [am_R x0, am_I x1, am_I x2, am_K 1] [am_I y0, am_I y1, am_R y2] h = ((am_isc h x0 9).bind fun _ => ((am_cI 204 [am_R x0, am_I 1000] h).bind fun r1 => ((am_isc r1.2 y2 9).bind fun _ => ((am_cI 170 [am_R y2, am_I y1, am_I y0, am_I r1.1] r1.2).bind fun r2 => am_run am_ms 205 92 [am_R x0, am_I x1, am_I x2, am_I r2.1] [] r2.2)))) :=
  (am_xs_run am_ms 205 [(.aload_n 0, 1, []), (.sipush 1000, 3, []), (.invokevirtual 340, 3, [0, 204, 2, 9, 1, 7122, 7124, 89]), (.invokevirtual 322, 3, [0, 170, 4, 9, 1, 7030, 7032, 76]), (.istore_n 3, 1, []), (.goto 59, 3, [])] 22 _ _ h (by decide +kernel)).trans rfl
set_option maxHeartbeats 4000000 in
theorem bk_205_36 (x0 : Nat) (x1 : Int) (h : am_H) : am_run am_ms 205 36 [am_R x0, am_I x1, am_K 1, am_K 1] [] h = (bif decide (¬ x1 = 5) then am_run am_ms 205 57 [am_R x0, am_I x1, am_K 1, am_K 1] [] h else ((am_isc h x0 9).bind fun _ => ((am_cI 204 [am_R x0, am_I 32] h).bind fun r1 => ((am_isc r1.2 x0 9).bind fun _ => ((am_cI 170 [am_R x0, am_I 1, am_I r1.1, am_I 0] r1.2).bind fun r2 => am_run am_ms 205 92 [am_R x0, am_I x1, am_I r2.1, am_K 1] [] r2.2))))) :=
  (am_xs_run am_ms 205 [(.iload_n 1, 1, []), (.iconst 5, 1, []), (.if_icmp .ne 19, 3, []), (.aload_n 0, 1, []), (.iconst 1, 1, []), (.aload_n 0, 1, []), (.bipush 32, 2, []), (.invokevirtual 340, 3, [0, 204, 2, 9, 1, 7122, 7124, 89]), (.iconst 0, 1, []), (.invokevirtual 322, 3, [0, 170, 4, 9, 1, 7030, 7032, 76]), (.istore_n 2, 1, []), (.goto 38, 3, [])] 36 _ _ h (by decide +kernel)).trans rfl
set_option maxHeartbeats 4000000 in
theorem bk_205_57 (x0 : Nat) (x1 : Int) (h : am_H) : am_run am_ms 205 57 [am_R x0, am_I x1, am_K 1, am_K 1] [] h = (bif decide (¬ x1 = 6) then am_run am_ms 205 74 [am_R x0, am_I x1, am_K 1, am_K 1] [] h else ((am_isc h x0 9).bind fun _ => ((am_cI 170 [am_R x0, am_I 2, am_I 0, am_I 0] h).bind fun r1 => am_run am_ms 205 92 [am_R x0, am_I x1, am_I r1.1, am_K 1] [] r1.2))) :=
  (am_xs_run am_ms 205 [(.iload_n 1, 1, []), (.bipush 6, 2, []), (.if_icmp .ne 14, 3, []), (.aload_n 0, 1, []), (.iconst 2, 1, []), (.iconst 0, 1, []), (.iconst 0, 1, []), (.invokevirtual 322, 3, [0, 170, 4, 9, 1, 7030, 7032, 76]), (.istore_n 2, 1, []), (.goto 21, 3, [])] 57 _ _ h (by decide +kernel)).trans rfl
set_option maxHeartbeats 4000000 in
theorem bk_205_74 (x0 : Nat) (x1 : Int) (h : am_H) : am_run am_ms 205 74 [am_R x0, am_I x1, am_K 1, am_K 1] [] h = ((am_gfR h x0 9 6).bind fun f1 => ((am_rd h f1 0 0).bind fun v2 => ((am_isc h x0 9).bind fun _ => ((am_cI 204 [am_R x0, am_I v2] h).bind fun r3 => ((am_isc r3.2 x0 9).bind fun _ => ((am_cI 170 [am_R x0, am_I 6, am_I r3.1, am_I 0] r3.2).bind fun r4 => am_run am_ms 205 92 [am_R x0, am_I x1, am_I r4.1, am_K 1] [] r4.2)))))) :=
  (am_xs_run am_ms 205 [(.aload_n 0, 1, []), (.bipush 6, 2, []), (.aload_n 0, 1, []), (.aload_n 0, 1, []), (.getfield 17, 3, [9, 6, 5189, 3]), (.iconst 0, 1, []), (.iaload, 1, []), (.invokevirtual 340, 3, [0, 204, 2, 9, 1, 7122, 7124, 89]), (.iconst 0, 1, []), (.invokevirtual 322, 3, [0, 170, 4, 9, 1, 7030, 7032, 76]), (.istore_n 2, 1, [])] 74 _ _ h (by decide +kernel)).trans rfl
set_option maxHeartbeats 4000000 in
theorem bk_205_92 (x0 : Nat) (x1 : Int) (x2 : Int) (x3 : am_V) (h : am_H) : am_run am_ms 205 92 [am_R x0, am_I x1, am_I x2, x3] [] h = some (none, h) :=
  (am_xs_run am_ms 205 [(.return_, 1, [])] 92 _ _ h (by decide +kernel)).trans rfl
set_option maxHeartbeats 4000000 in
theorem bk_206_0 (x0 : Nat) (x1 : Int) (x2 : Int) (h : am_H) : am_run am_ms 206 0 [am_R x0, am_I x1, am_L x2, am_K 1, am_K 1] [] h = ((am_pf h x0 9 0 (am_I 0)).bind fun h1 => ((am_gfI h1 x0 9 14).bind fun f2 => (bif decide (f2 = 0) then am_run am_ms 206 24 [am_R x0, am_I x1, am_L x2, am_K 1, am_K 1] [] h1 else ((am_cI 40 [am_L x1, am_L 1, am_L 40] h1).bind fun r3 => (bif decide (¬ r3.1 = 0) then am_run am_ms 206 26 [am_R x0, am_I x1, am_L x2, am_K 1, am_K 1] [] r3.2 else am_run am_ms 206 24 [am_R x0, am_I x1, am_L x2, am_K 1, am_K 1] [] r3.2))))) :=
  (am_xs_run am_ms 206 [(.aload_n 0, 1, []), (.iconst 0, 1, []), (.putfield 53, 3, [9, 0, 5183, 0]), (.aload_n 0, 1, []), (.getfield 155, 3, [9, 14, 5197, 1]), (.ifCond .eq 15, 3, []), (.iload_n 1, 1, []), (.i2l, 1, []), (.lconst 1, 1, []), (.ldc2_w 343, 3, [0, 40, 7117]), (.invokestatic 96, 3, [1, 40, 3, 0, 1, 6060, 6061]), (.ifCond .ne 5, 3, [])] 0 _ _ h (by decide +kernel)).trans rfl
theorem en_206 (x0 : Nat) (x1 : Int) (x2 : Int) (h : am_H) : am_call am_ms 206 [am_R x0, am_I x1, am_L x2] h = am_run am_ms 206 0 [am_R x0, am_I x1, am_L x2, am_K 1, am_K 1] [] h := rfl
set_option maxHeartbeats 4000000 in
theorem bk_206_24 (x0 : Nat) (x1 : Int) (x2 : Int) (h : am_H) : am_run am_ms 206 24 [am_R x0, am_I x1, am_L x2, am_K 1, am_K 1] [] h = some (some (am_I (-1)), h) :=
  (am_xs_run am_ms 206 [(.iconst (-1), 1, []), (.ireturn, 1, [0])] 24 _ _ h (by decide +kernel)).trans rfl
set_option maxHeartbeats 4000000 in
theorem bk_206_26 (x0 : Nat) (x1 : Int) (x2 : Int) (h : am_H) : am_run am_ms 206 26 [am_R x0, am_I x1, am_L x2, am_K 1, am_K 1] [] h = ((am_pf h x0 9 29 (am_L x2)).bind fun h1 => am_run am_ms 206 34 [am_R x0, am_I x1, am_L x2, am_K 1, am_I 0] [] h1) :=
  (am_xs_run am_ms 206 [(.aload_n 0, 1, []), (.lload_n 2, 1, []), (.putfield 332, 3, [9, 29, 5212, 2]), (.iconst 0, 1, []), (.istore 4, 2, [])] 26 _ _ h (by decide +kernel)).trans rfl
set_option maxHeartbeats 4000000 in
theorem bk_206_34 (x0 : Nat) (x1 : Int) (x2 : Int) (x4 : Int) (h : am_H) : am_run am_ms 206 34 [am_R x0, am_I x1, am_L x2, am_K 1, am_I x4] [] h = (bif decide (x1 ≤ x4) then am_run am_ms 206 50 [am_R x0, am_I x1, am_L x2, am_K 1, am_I x4] [] h else ((am_isc h x0 9).bind fun _ => ((am_cV 205 [am_R x0] h).bind fun h1 => am_run am_ms 206 34 [am_R x0, am_I x1, am_L x2, am_K 1, am_I (am_w (x4 + 1))] [] h1))) :=
  (am_xs_run am_ms 206 [(.iload 4, 2, []), (.iload_n 1, 1, []), (.if_icmp .ge 13, 3, []), (.aload_n 0, 1, []), (.invokevirtual 345, 3, [0, 205, 1, 9, 0, 7118, 7120, 88]), (.iinc 4 1, 3, []), (.goto (-13), 3, [])] 34 _ _ h (by decide +kernel)).trans rfl
set_option maxHeartbeats 4000000 in
theorem bk_206_50 (x0 : Nat) (x1 : Int) (x2 : Int) (x4 : Int) (h : am_H) : am_run am_ms 206 50 [am_R x0, am_I x1, am_L x2, am_K 1, am_I x4] [] h = ((am_gfR h x0 9 15).bind fun f1 => ((am_rd h f1 0 419).bind fun v2 => some (some (am_I v2), h))) :=
  (am_xs_run am_ms 206 [(.aload_n 0, 1, []), (.getfield 32, 3, [9, 15, 5198, 3]), (.sipush 419, 3, []), (.iaload, 1, []), (.ireturn, 1, [0])] 50 _ _ h (by decide +kernel)).trans rfl
set_option maxHeartbeats 4000000 in
theorem bk_208_0 (x0 : Nat) (x1 : Int) (h : am_H) : am_run am_ms 208 0 [am_R x0, am_I x1] [] h = ((am_pf h x0 9 0 (am_I 0)).bind fun h1 => ((am_cI 40 [am_L x1, am_L 0, am_L 3] h1).bind fun r2 => (bif decide (r2.1 = 0) then am_run am_ms 208 26 [am_R x0, am_I x1] [] r2.2 else ((am_gfR r2.2 x0 9 10).bind fun f3 => ((am_rd r2.2 f3 0 x1).bind fun v4 => am_run am_ms 208 27 [am_R x0, am_I x1] [am_I v4] r2.2))))) :=
  (am_xs_run am_ms 208 [(.aload_n 0, 1, []), (.iconst 0, 1, []), (.putfield 53, 3, [9, 0, 5183, 0]), (.iload_n 1, 1, []), (.i2l, 1, []), (.lconst 0, 1, []), (.ldc2_w 298, 3, [0, 3, 7056]), (.invokestatic 96, 3, [1, 40, 3, 0, 1, 6060, 6061]), (.ifCond .eq 12, 3, []), (.aload_n 0, 1, []), (.getfield 29, 3, [9, 10, 5193, 3]), (.iload_n 1, 1, []), (.iaload, 1, []), (.goto 4, 3, [])] 0 _ _ h (by decide +kernel)).trans rfl
theorem en_208 (x0 : Nat) (x1 : Int) (h : am_H) : am_call am_ms 208 [am_R x0, am_I x1] h = am_run am_ms 208 0 [am_R x0, am_I x1] [] h := rfl
set_option maxHeartbeats 4000000 in
theorem bk_208_26 (x0 : Nat) (x1 : Int) (h : am_H) : am_run am_ms 208 26 [am_R x0, am_I x1] [] h = am_run am_ms 208 27 [am_R x0, am_I x1] [am_I (-1)] h :=
  (am_xs_run am_ms 208 [(.iconst (-1), 1, [])] 26 _ _ h (by decide +kernel)).trans rfl
set_option maxHeartbeats 4000000 in
theorem bk_208_27 (x0 : Nat) (x1 : Int) (y0 : Int) (h : am_H) : am_run am_ms 208 27 [am_R x0, am_I x1] [am_I y0] h = some (some (am_I y0), h) :=
  (am_xs_run am_ms 208 [(.ireturn, 1, [0])] 27 _ _ h (by decide +kernel)).trans rfl
set_option maxHeartbeats 4000000 in
theorem bk_211_0 (x0 : Nat) (h : am_H) : am_run am_ms 211 0 [am_R x0] [] h = ((am_pf h x0 9 0 (am_I 0)).bind fun h1 => ((am_gfI h1 x0 9 21).bind fun f2 => (bif decide (¬ f2 = 0) then am_run am_ms 211 14 [am_R x0] [] h1 else some (some (am_I (-1)), h1)))) :=
  (am_xs_run am_ms 211 [(.aload_n 0, 1, []), (.iconst 0, 1, []), (.putfield 53, 3, [9, 0, 5183, 0]), (.aload_n 0, 1, []), (.getfield 165, 3, [9, 21, 5204, 0]), (.ifCond .ne 5, 3, []), (.iconst (-1), 1, []), (.ireturn, 1, [0])] 0 _ _ h (by decide +kernel)).trans rfl
theorem en_211 (x0 : Nat) (h : am_H) : am_call am_ms 211 [am_R x0] h = am_run am_ms 211 0 [am_R x0] [] h := rfl
set_option maxHeartbeats 4000000 in
theorem bk_211_14 (x0 : Nat) (h : am_H) : am_run am_ms 211 14 [am_R x0] [] h = ((am_gfI h x0 9 21).bind fun f1 => ((am_pf h x0 9 21 (am_I (am_w (f1 - 1)))).bind fun h2 => ((am_gfR h2 x0 9 19).bind fun f3 => ((am_gfI h2 x0 9 20).bind fun f4 => ((am_gfI h2 x0 9 21).bind fun f5 => am_run am_ms 211 40 [am_R x0] [am_I (am_w (f4 + f5)), am_I 609, am_R f3] h2))))) :=
  (am_xs_run am_ms 211 [(.aload_n 0, 1, []), (.dup, 1, []), (.getfield 165, 3, [9, 21, 5204, 0]), (.iconst 1, 1, []), (.isub, 1, []), (.putfield 165, 3, [9, 21, 5204, 0]), (.aload_n 0, 1, []), (.getfield 44, 3, [9, 19, 5202, 3]), (.sipush 609, 3, []), (.aload_n 0, 1, []), (.getfield 281, 3, [9, 20, 5203, 0]), (.aload_n 0, 1, []), (.getfield 165, 3, [9, 21, 5204, 0]), (.iadd, 1, [])] 14 _ _ h (by decide +kernel)).trans rfl
set_option maxHeartbeats 4000000 in
theorem bk_211_40 (x0 : Nat) (y0 : Int) (y1 : Int) (y2 : Nat) (h : am_H) : am_run am_ms 211 40 [am_R x0] [am_I y0, am_I y1, am_R y2] h = (if 40 = 0 then none else ((am_gfR h x0 9 15).bind fun f1 => ((am_cV 108 [am_R y2, am_I (am_w (y1 * (am_rem y0 40))), am_R f1, am_I 0] h).bind fun h2 => ((am_gfI h2 x0 9 21).bind fun f3 => some (some (am_I f3), h2))))) :=
  (am_xs_run am_ms 211 [(.bipush 40, 2, []), (.irem, 1, []), (.imul, 1, []), (.aload_n 0, 1, []), (.getfield 32, 3, [9, 15, 5198, 3]), (.iconst 0, 1, []), (.invokestatic 259, 3, [1, 108, 4, 0, 0, 6155, 6156]), (.aload_n 0, 1, []), (.getfield 165, 3, [9, 21, 5204, 0]), (.ireturn, 1, [0])] 40 _ _ h (by decide +kernel)).trans rfl
set_option maxHeartbeats 4000000 in
theorem bk_214_0 (x0 : Nat) (x1 : Int) (x2 : Int) (h : am_H) : am_run am_ms 214 0 [am_R x0, am_I x1, am_I x2] [] h = ((am_pf h x0 9 0 (am_I 0)).bind fun h1 => (bif decide (x1 < 0) then am_run am_ms 214 33 [am_R x0, am_I x1, am_I x2] [] h1 else ((am_gfR h1 x0 9 15).bind fun f2 => ((am_rd h1 f2 0 428).bind fun v3 => (bif decide (v3 ≤ x1) then am_run am_ms 214 33 [am_R x0, am_I x1, am_I x2] [] h1 else am_run am_ms 214 24 [am_R x0, am_I x1, am_I x2] [am_L 0, am_L x2] h1))))) :=
  (am_xs_run am_ms 214 [(.aload_n 0, 1, []), (.iconst 0, 1, []), (.putfield 53, 3, [9, 0, 5183, 0]), (.iload_n 1, 1, []), (.ifCond .lt 27, 3, []), (.iload_n 1, 1, []), (.aload_n 0, 1, []), (.getfield 32, 3, [9, 15, 5198, 3]), (.sipush 428, 3, []), (.iaload, 1, []), (.if_icmp .ge 15, 3, []), (.iload_n 2, 1, []), (.i2l, 1, []), (.lconst 0, 1, [])] 0 _ _ h (by decide +kernel)).trans rfl
theorem en_214 (x0 : Nat) (x1 : Int) (x2 : Int) (h : am_H) : am_call am_ms 214 [am_R x0, am_I x1, am_I x2] h = am_run am_ms 214 0 [am_R x0, am_I x1, am_I x2] [] h := rfl
set_option maxHeartbeats 4000000 in
theorem bk_214_24 (x0 : Nat) (x1 : Int) (x2 : Int) (y0 : Int) (y1 : Int) (h : am_H) : am_run am_ms 214 24 [am_R x0, am_I x1, am_I x2] [am_L y0, am_L y1] h = ((am_cI 40 [am_L y1, am_L y0, am_L 2] h).bind fun r1 => (bif decide (¬ r1.1 = 0) then am_run am_ms 214 37 [am_R x0, am_I x1, am_I x2] [] r1.2 else am_run am_ms 214 33 [am_R x0, am_I x1, am_I x2] [] r1.2)) :=
  (am_xs_run am_ms 214 [(.ldc2_w 348, 3, [0, 2, 7148]), (.invokestatic 96, 3, [1, 40, 3, 0, 1, 6060, 6061]), (.ifCond .ne 7, 3, [])] 24 _ _ h (by decide +kernel)).trans rfl
set_option maxHeartbeats 4000000 in
theorem bk_214_33 (x0 : Nat) (x1 : Int) (x2 : Int) (h : am_H) : am_run am_ms 214 33 [am_R x0, am_I x1, am_I x2] [] h = some (some (am_I (-1000000)), h) :=
  (am_xs_run am_ms 214 [(.ldc_w 350, 3, [0, -1000000, 7149]), (.ireturn, 1, [0])] 33 _ _ h (by decide +kernel)).trans rfl
set_option maxHeartbeats 4000000 in
theorem bk_214_37 (x0 : Nat) (x1 : Int) (x2 : Int) (h : am_H) : am_run am_ms 214 37 [am_R x0, am_I x1, am_I x2] [] h = ((am_gfR h x0 9 15).bind fun f1 => ((am_gfR h x0 9 15).bind fun f2 => ((am_rd h f2 0 428).bind fun v3 => am_run am_ms 214 59 [am_R x0, am_I x1, am_I x2] [am_I (am_w (429 + (am_w (3 * (am_w ((am_w (v3 - 1)) - x1)))))), am_R f1] h))) :=
  (am_xs_run am_ms 214 [(.aload_n 0, 1, []), (.getfield 32, 3, [9, 15, 5198, 3]), (.sipush 429, 3, []), (.iconst 3, 1, []), (.aload_n 0, 1, []), (.getfield 32, 3, [9, 15, 5198, 3]), (.sipush 428, 3, []), (.iaload, 1, []), (.iconst 1, 1, []), (.isub, 1, []), (.iload_n 1, 1, []), (.isub, 1, []), (.imul, 1, []), (.iadd, 1, [])] 37 _ _ h (by decide +kernel)).trans rfl
set_option maxHeartbeats 4000000 in
theorem bk_214_59 (x0 : Nat) (x1 : Int) (x2 : Int) (y0 : Int) (y1 : Nat) (h : am_H) : am_run am_ms 214 59 [am_R x0, am_I x1, am_I x2] [am_I y0, am_R y1] h = ((am_rd h y1 0 (am_w (y0 + x2))).bind fun v1 => some (some (am_I v1), h)) :=
  (am_xs_run am_ms 214 [(.iload_n 2, 1, []), (.iadd, 1, []), (.iaload, 1, []), (.ireturn, 1, [0])] 59 _ _ h (by decide +kernel)).trans rfl
set_option maxHeartbeats 4000000 in
theorem bk_218_0 (x0 : Nat) (x1 : Int) (h : am_H) : am_run am_ms 218 0 [am_R x0, am_I x1] [] h = ((am_gfI h x0 9 12).bind fun f1 => ((am_cI 40 [am_L x1, am_L 0, am_L (am_w (f1 - 1))] h).bind fun r2 => (bif am_rok 1 r2.1 then some (some (am_I r2.1), r2.2) else none))) :=
  (am_xs_run am_ms 218 [(.iload_n 1, 1, []), (.i2l, 1, []), (.lconst 0, 1, []), (.aload_n 0, 1, []), (.getfield 150, 3, [9, 12, 5195, 0]), (.iconst 1, 1, []), (.isub, 1, []), (.i2l, 1, []), (.invokestatic 96, 3, [1, 40, 3, 0, 1, 6060, 6061]), (.ireturn, 1, [1])] 0 _ _ h (by decide +kernel)).trans rfl
theorem en_218 (x0 : Nat) (x1 : Int) (h : am_H) : am_call am_ms 218 [am_R x0, am_I x1] h = am_run am_ms 218 0 [am_R x0, am_I x1] [] h := rfl
set_option maxHeartbeats 4000000 in
theorem bk_219_0 (x0 : Nat) (x1 : Int) (x2 : Int) (x3 : Int) (h : am_H) : am_run am_ms 219 0 [am_R x0, am_I x1, am_I x2, am_I x3] [] h = ((am_pf h x0 9 0 (am_I 0)).bind fun h1 => ((am_isc h1 x0 9).bind fun _ => ((am_cI 218 [am_R x0, am_I x1] h1).bind fun r2 => (bif decide (r2.1 = 0) then am_run am_ms 219 43 [am_R x0, am_I x1, am_I x2, am_I x3] [] r2.2 else ((am_gfR r2.2 x0 9 9).bind fun f3 => ((am_rd r2.2 f3 0 x1).bind fun v4 => am_run am_ms 219 22 [am_R x0, am_I x1, am_I x2, am_I x3] [am_I v4, am_L 0, am_L x2] r2.2)))))) :=
  (am_xs_run am_ms 219 [(.aload_n 0, 1, []), (.iconst 0, 1, []), (.putfield 53, 3, [9, 0, 5183, 0]), (.aload_n 0, 1, []), (.iload_n 1, 1, []), (.invokevirtual 358, 3, [0, 218, 2, 9, 1, 7189, 7191, 90]), (.ifCond .eq 33, 3, []), (.iload_n 2, 1, []), (.i2l, 1, []), (.lconst 0, 1, []), (.aload_n 0, 1, []), (.getfield 26, 3, [9, 9, 5192, 3]), (.iload_n 1, 1, []), (.iaload, 1, [])] 0 _ _ h (by decide +kernel)).trans rfl
theorem en_219 (x0 : Nat) (x1 : Int) (x2 : Int) (x3 : Int) (h : am_H) : am_call am_ms 219 [am_R x0, am_I x1, am_I x2, am_I x3] h = am_run am_ms 219 0 [am_R x0, am_I x1, am_I x2, am_I x3] [] h := rfl
set_option maxHeartbeats 4000000 in
theorem bk_219_22 (x0 : Nat) (x1 : Int) (x2 : Int) (x3 : Int) (y0 : Int) (y1 : Int) (y2 : Int) (h : am_H) : am_run am_ms 219 22 [am_R x0, am_I x1, am_I x2, am_I x3] [am_I y0, am_L y1, am_L y2] h = ((am_cI 40 [am_L y2, am_L y1, am_L (am_w (y0 - 1))] h).bind fun r1 => (bif decide (r1.1 = 0) then am_run am_ms 219 43 [am_R x0, am_I x1, am_I x2, am_I x3] [] r1.2 else ((am_cI 40 [am_L x3, am_L 0, am_L 2] r1.2).bind fun r2 => (bif decide (¬ r2.1 = 0) then am_run am_ms 219 47 [am_R x0, am_I x1, am_I x2, am_I x3] [] r2.2 else am_run am_ms 219 43 [am_R x0, am_I x1, am_I x2, am_I x3] [] r2.2)))) :=
  (am_xs_run am_ms 219 [(.iconst 1, 1, []), (.isub, 1, []), (.i2l, 1, []), (.invokestatic 96, 3, [1, 40, 3, 0, 1, 6060, 6061]), (.ifCond .eq 15, 3, []), (.iload_n 3, 1, []), (.i2l, 1, []), (.lconst 0, 1, []), (.ldc2_w 348, 3, [0, 2, 7148]), (.invokestatic 96, 3, [1, 40, 3, 0, 1, 6060, 6061]), (.ifCond .ne 7, 3, [])] 22 _ _ h (by decide +kernel)).trans rfl
set_option maxHeartbeats 4000000 in
theorem bk_219_43 (x0 : Nat) (x1 : Int) (x2 : Int) (x3 : Int) (h : am_H) : am_run am_ms 219 43 [am_R x0, am_I x1, am_I x2, am_I x3] [] h = some (some (am_I (-1000000)), h) :=
  (am_xs_run am_ms 219 [(.ldc_w 350, 3, [0, -1000000, 7149]), (.ireturn, 1, [0])] 43 _ _ h (by decide +kernel)).trans rfl
set_option maxHeartbeats 4000000 in
theorem bk_219_47 (x0 : Nat) (x1 : Int) (x2 : Int) (x3 : Int) (h : am_H) : am_run am_ms 219 47 [am_R x0, am_I x1, am_I x2, am_I x3] [] h = ((am_gfR h x0 9 8).bind fun f1 => ((am_rd h f1 0 (am_w ((am_w (3 * (am_w ((am_w (16 * x1)) + x2)))) + x3))).bind fun v2 => some (some (am_I v2), h))) :=
  (am_xs_run am_ms 219 [(.aload_n 0, 1, []), (.getfield 23, 3, [9, 8, 5191, 3]), (.iconst 3, 1, []), (.bipush 16, 2, []), (.iload_n 1, 1, []), (.imul, 1, []), (.iload_n 2, 1, []), (.iadd, 1, []), (.imul, 1, []), (.iload_n 3, 1, []), (.iadd, 1, []), (.iaload, 1, []), (.ireturn, 1, [0])] 47 _ _ h (by decide +kernel)).trans rfl
set_option maxHeartbeats 4000000 in
theorem bk_223_0 (x0 : Nat) (h : am_H) : am_run am_ms 223 0 [am_R x0] [] h = ((am_rd h x0 0 422).bind fun v1 => ((am_rd h x0 0 423).bind fun v2 => some (some (am_I (am_w (v1 + v2))), h))) :=
  (am_xs_run am_ms 223 [(.aload_n 0, 1, []), (.sipush 422, 3, []), (.iaload, 1, []), (.aload_n 0, 1, []), (.sipush 423, 3, []), (.iaload, 1, []), (.iadd, 1, []), (.ireturn, 1, [0])] 0 _ _ h (by decide +kernel)).trans rfl
theorem en_223 (x0 : Nat) (h : am_H) : am_call am_ms 223 [am_R x0] h = am_run am_ms 223 0 [am_R x0] [] h := rfl
set_option maxHeartbeats 4000000 in
theorem bk_224_0 (x0 : Nat) (x1 : Int) (x2 : Int) (h : am_H) : am_run am_ms 224 0 [am_R x0, am_I x1, am_I x2, am_K 1, am_K 1, am_K 1] [] h = ((am_pf h x0 9 0 (am_I 0)).bind fun h1 => ((am_isc h1 x0 9).bind fun _ => ((am_cI 218 [am_R x0, am_I x1] h1).bind fun r2 => (bif decide (r2.1 = 0) then am_run am_ms 224 30 [am_R x0, am_I x1, am_I x2, am_K 1, am_K 1, am_K 1] [] r2.2 else ((am_gfI r2.2 x0 9 14).bind fun f3 => (bif decide (f3 = 0) then am_run am_ms 224 30 [am_R x0, am_I x1, am_I x2, am_K 1, am_K 1, am_K 1] [] r2.2 else am_run am_ms 224 24 [am_R x0, am_I x1, am_I x2, am_K 1, am_K 1, am_K 1] [am_L 1, am_L 0, am_L x2] r2.2)))))) :=
  (am_xs_run am_ms 224 [(.aload_n 0, 1, []), (.iconst 0, 1, []), (.putfield 53, 3, [9, 0, 5183, 0]), (.aload_n 0, 1, []), (.iload_n 1, 1, []), (.invokevirtual 358, 3, [0, 218, 2, 9, 1, 7189, 7191, 90]), (.ifCond .eq 20, 3, []), (.aload_n 0, 1, []), (.getfield 155, 3, [9, 14, 5197, 1]), (.ifCond .eq 13, 3, []), (.iload_n 2, 1, []), (.i2l, 1, []), (.lconst 0, 1, []), (.lconst 1, 1, [])] 0 _ _ h (by decide +kernel)).trans rfl
theorem en_224 (x0 : Nat) (x1 : Int) (x2 : Int) (h : am_H) : am_call am_ms 224 [am_R x0, am_I x1, am_I x2] h = am_run am_ms 224 0 [am_R x0, am_I x1, am_I x2, am_K 1, am_K 1, am_K 1] [] h := rfl
set_option maxHeartbeats 4000000 in
theorem bk_224_24 (x0 : Nat) (x1 : Int) (x2 : Int) (y0 : Int) (y1 : Int) (y2 : Int) (h : am_H) : am_run am_ms 224 24 [am_R x0, am_I x1, am_I x2, am_K 1, am_K 1, am_K 1] [am_L y0, am_L y1, am_L y2] h = ((am_cI 40 [am_L y2, am_L y1, am_L y0] h).bind fun r1 => (bif decide (¬ r1.1 = 0) then am_run am_ms 224 34 [am_R x0, am_I x1, am_I x2, am_K 1, am_K 1, am_K 1] [] r1.2 else am_run am_ms 224 30 [am_R x0, am_I x1, am_I x2, am_K 1, am_K 1, am_K 1] [] r1.2)) :=
  (am_xs_run am_ms 224 [(.invokestatic 96, 3, [1, 40, 3, 0, 1, 6060, 6061]), (.ifCond .ne 7, 3, [])] 24 _ _ h (by decide +kernel)).trans rfl
set_option maxHeartbeats 4000000 in
theorem bk_224_30 (x0 : Nat) (x1 : Int) (x2 : Int) (h : am_H) : am_run am_ms 224 30 [am_R x0, am_I x1, am_I x2, am_K 1, am_K 1, am_K 1] [] h = some (some (am_I (-1000000)), h) :=
  (am_xs_run am_ms 224 [(.ldc_w 350, 3, [0, -1000000, 7149]), (.ireturn, 1, [0])] 30 _ _ h (by decide +kernel)).trans rfl
set_option maxHeartbeats 4000000 in
theorem bk_224_34 (x0 : Nat) (x1 : Int) (x2 : Int) (h : am_H) : am_run am_ms 224 34 [am_R x0, am_I x1, am_I x2, am_K 1, am_K 1, am_K 1] [] h = ((am_gfR h x0 9 15).bind fun f1 => ((am_gfR h x0 9 16).bind fun f2 => ((am_cV 108 [am_R f1, am_I 0, am_R f2, am_I 0] h).bind fun h3 => am_run am_ms 224 52 [am_R x0, am_I x1, am_I x2, am_I 0, am_I 1, am_K 1] [] h3))) :=
  (am_xs_run am_ms 224 [(.aload_n 0, 1, []), (.getfield 32, 3, [9, 15, 5198, 3]), (.iconst 0, 1, []), (.aload_n 0, 1, []), (.getfield 35, 3, [9, 16, 5199, 3]), (.iconst 0, 1, []), (.invokestatic 259, 3, [1, 108, 4, 0, 0, 6155, 6156]), (.iconst 0, 1, []), (.istore_n 3, 1, []), (.iconst 1, 1, []), (.istore 4, 2, [])] 34 _ _ h (by decide +kernel)).trans rfl
set_option maxHeartbeats 4000000 in
theorem bk_224_52 (x0 : Nat) (x1 : Int) (x2 : Int) (x3 : Int) (x4 : Int) (x5 : am_V) (h : am_H) : am_run am_ms 224 52 [am_R x0, am_I x1, am_I x2, am_I x3, am_I x4, x5] [] h = (bif decide (x4 = 0) then am_run am_ms 224 168 [am_R x0, am_I x1, am_I x2, am_I x3, am_I x4, x5] [] h else ((am_gfR h x0 9 9).bind fun f1 => ((am_rd h f1 0 x1).bind fun v2 => (bif decide (v2 ≤ x3) then am_run am_ms 224 168 [am_R x0, am_I x1, am_I x2, am_I x3, am_I x4, x5] [] h else am_run am_ms 224 74 [am_R x0, am_I x1, am_I x2, am_I x3, am_I x4, x5] [am_I (am_w ((am_w (16 * x1)) + x3)), am_I 3] h)))) :=
  (am_xs_run am_ms 224 [(.iload 4, 2, []), (.ifCond .eq 114, 3, []), (.iload_n 3, 1, []), (.aload_n 0, 1, []), (.getfield 26, 3, [9, 9, 5192, 3]), (.iload_n 1, 1, []), (.iaload, 1, []), (.if_icmp .ge 104, 3, []), (.iconst 3, 1, []), (.bipush 16, 2, []), (.iload_n 1, 1, []), (.imul, 1, []), (.iload_n 3, 1, []), (.iadd, 1, [])] 52 _ _ h (by decide +kernel)).trans rfl
set_option maxHeartbeats 4000000 in
theorem bk_224_74 (x0 : Nat) (x1 : Int) (x2 : Int) (x3 : Int) (x4 : Int) (x5 : am_V) (y0 : Int) (y1 : Int) (h : am_H) : am_run am_ms 224 74 [am_R x0, am_I x1, am_I x2, am_I x3, am_I x4, x5] [am_I y0, am_I y1] h = ((am_gfR h x0 9 16).bind fun f1 => ((am_gfR h x0 9 8).bind fun f2 => ((am_rd h f2 0 (am_w (y1 * y0))).bind fun v3 => ((am_gfR h x0 9 8).bind fun f4 => am_run am_ms 224 97 [am_R x0, am_I x1, am_I x2, am_I x3, am_I x4, am_I (am_w (y1 * y0))] [am_I (am_w ((am_w (y1 * y0)) + 1)), am_R f4, am_I v3, am_R f1, am_R x0] h)))) :=
  (am_xs_run am_ms 224 [(.imul, 1, []), (.istore 5, 2, []), (.aload_n 0, 1, []), (.aload_n 0, 1, []), (.getfield 35, 3, [9, 16, 5199, 3]), (.aload_n 0, 1, []), (.getfield 23, 3, [9, 8, 5191, 3]), (.iload 5, 2, []), (.iaload, 1, []), (.aload_n 0, 1, []), (.getfield 23, 3, [9, 8, 5191, 3]), (.iload 5, 2, []), (.iconst 1, 1, []), (.iadd, 1, [])] 74 _ _ h (by decide +kernel)).trans rfl
set_option maxHeartbeats 4000000 in
theorem bk_224_97 (x0 : Nat) (x1 : Int) (x2 : Int) (x3 : Int) (x4 : Int) (x5 : Int) (y0 : Int) (y1 : Nat) (y2 : Int) (y3 : Nat) (y4 : Nat) (h : am_H) : am_run am_ms 224 97 [am_R x0, am_I x1, am_I x2, am_I x3, am_I x4, am_I x5] [am_I y0, am_R y1, am_I y2, am_R y3, am_R y4] h = ((am_rd h y1 0 y0).bind fun v1 => ((am_gfR h x0 9 8).bind fun f2 => ((am_rd h f2 0 (am_w (x5 + 2))).bind fun v3 => ((am_isc h y4 9).bind fun _ => ((am_cI 164 [am_R y4, am_R y3, am_I y2, am_I v1, am_I v3] h).bind fun r4 => (bif decide (¬ r4.1 = (-1)) then am_run am_ms 224 154 [am_R x0, am_I x1, am_I x2, am_I x3, am_I x4, am_I x5] [] r4.2 else ((am_gfR r4.2 x0 9 16).bind fun f5 => am_run am_ms 224 120 [am_R x0, am_I x1, am_I x2, am_I x3, am_I x4, am_I x5] [am_R x0, am_R f5, am_R x0] r4.2))))))) :=
  (am_xs_run am_ms 224 [(.iaload, 1, []), (.aload_n 0, 1, []), (.getfield 23, 3, [9, 8, 5191, 3]), (.iload 5, 2, []), (.iconst 2, 1, []), (.iadd, 1, []), (.iaload, 1, []), (.invokevirtual 311, 3, [0, 164, 5, 9, 1, 7034, 7036, 77]), (.iconst (-1), 1, []), (.if_icmp .ne 43, 3, []), (.aload_n 0, 1, []), (.aload_n 0, 1, []), (.getfield 35, 3, [9, 16, 5199, 3]), (.aload_n 0, 1, [])] 97 _ _ h (by decide +kernel)).trans rfl
set_option maxHeartbeats 4000000 in
theorem bk_224_120 (x0 : Nat) (x1 : Int) (x2 : Int) (x3 : Int) (x4 : Int) (x5 : Int) (y0 : Nat) (y1 : Nat) (y2 : Nat) (h : am_H) : am_run am_ms 224 120 [am_R x0, am_I x1, am_I x2, am_I x3, am_I x4, am_I x5] [am_R y0, am_R y1, am_R y2] h = ((am_gfR h y0 9 8).bind fun f1 => ((am_rd h f1 0 x5).bind fun v2 => ((am_gfR h x0 9 8).bind fun f3 => ((am_rd h f3 0 (am_w (x5 + 1))).bind fun v4 => ((am_gfR h x0 9 8).bind fun f5 => am_run am_ms 224 143 [am_R x0, am_I x1, am_I x2, am_I x3, am_I x4, am_I x5] [am_I (am_w (x5 + 2)), am_R f5, am_I v4, am_I v2, am_R y1, am_R y2] h))))) :=
  (am_xs_run am_ms 224 [(.getfield 23, 3, [9, 8, 5191, 3]), (.iload 5, 2, []), (.iaload, 1, []), (.aload_n 0, 1, []), (.getfield 23, 3, [9, 8, 5191, 3]), (.iload 5, 2, []), (.iconst 1, 1, []), (.iadd, 1, []), (.iaload, 1, []), (.aload_n 0, 1, []), (.getfield 23, 3, [9, 8, 5191, 3]), (.iload 5, 2, []), (.iconst 2, 1, []), (.iadd, 1, [])] 120 _ _ h (by decide +kernel)).trans rfl
set_option maxHeartbeats 4000000 in
theorem bk_224_143 (x0 : Nat) (x1 : Int) (x2 : Int) (x3 : Int) (x4 : Int) (x5 : Int) (y0 : Int) (y1 : Nat) (y2 : Int) (y3 : Int) (y4 : Nat) (y5 : Nat) (h : am_H) : am_run am_ms 224 143 [am_R x0, am_I x1, am_I x2, am_I x3, am_I x4, am_I x5] [am_I y0, am_R y1, am_I y2, am_I y3, am_R y4, am_R y5] h = ((am_rd h y1 0 y0).bind fun v1 => ((am_isc h y5 9).bind fun _ => ((am_cI 168 [am_R y5, am_R y4, am_I y3, am_I y2, am_I v1] h).bind fun r2 => (bif decide (r2.1 = 0) then am_run am_ms 224 154 [am_R x0, am_I x1, am_I x2, am_I x3, am_I x4, am_I x5] [] r2.2 else am_run am_ms 224 155 [am_R x0, am_I x1, am_I x2, am_I x3, am_I x4, am_I x5] [am_I 1] r2.2)))) :=
  (am_xs_run am_ms 224 [(.iaload, 1, []), (.invokevirtual 315, 3, [0, 168, 5, 9, 1, 7057, 7059, 82]), (.ifCond .eq 7, 3, []), (.iconst 1, 1, []), (.goto 4, 3, [])] 143 _ _ h (by decide +kernel)).trans rfl
set_option maxHeartbeats 4000000 in
theorem bk_224_154 (x0 : Nat) (x1 : Int) (x2 : Int) (x3 : Int) (x4 : Int) (x5 : Int) (h : am_H) : am_run am_ms 224 154 [am_R x0, am_I x1, am_I x2, am_I x3, am_I x4, am_I x5] [] h = am_run am_ms 224 155 [am_R x0, am_I x1, am_I x2, am_I x3, am_I x4, am_I x5] [am_I 0] h :=
  (am_xs_run am_ms 224 [(.iconst 0, 1, [])] 154 _ _ h (by decide +kernel)).trans rfl
set_option maxHeartbeats 4000000 in
theorem bk_224_155 (x0 : Nat) (x1 : Int) (x2 : Int) (x3 : Int) (x4 : Int) (x5 : Int) (y0 : Int) (h : am_H) : am_run am_ms 224 155 [am_R x0, am_I x1, am_I x2, am_I x3, am_I x4, am_I x5] [am_I y0] h = (bif decide (y0 = 0) then am_run am_ms 224 165 [am_R x0, am_I x1, am_I x2, am_I x3, am_I y0, am_I x5] [] h else am_run am_ms 224 165 [am_R x0, am_I x1, am_I x2, am_I (am_w (x3 + 1)), am_I y0, am_I x5] [] h) :=
  (am_xs_run am_ms 224 [(.istore 4, 2, []), (.iload 4, 2, []), (.ifCond .eq 6, 3, []), (.iinc 3 1, 3, [])] 155 _ _ h (by decide +kernel)).trans rfl
set_option maxHeartbeats 4000000 in
theorem bk_224_165 (x0 : Nat) (x1 : Int) (x2 : Int) (x3 : Int) (x4 : Int) (x5 : Int) (h : am_H) : am_run am_ms 224 165 [am_R x0, am_I x1, am_I x2, am_I x3, am_I x4, am_I x5] [] h = am_run am_ms 224 52 [am_R x0, am_I x1, am_I x2, am_I x3, am_I x4, am_I x5] [] h :=
  (am_xs_run am_ms 224 [(.goto (-113), 3, [])] 165 _ _ h (by decide +kernel)).trans rfl
set_option maxHeartbeats 4000000 in
theorem bk_224_168 (x0 : Nat) (x1 : Int) (x2 : Int) (x3 : Int) (x4 : Int) (x5 : am_V) (h : am_H) : am_run am_ms 224 168 [am_R x0, am_I x1, am_I x2, am_I x3, am_I x4, x5] [] h = (bif decide (¬ x2 = 1) then am_run am_ms 224 191 [am_R x0, am_I x1, am_I x2, am_I x3, am_I x4, x5] [] h else ((am_gfR h x0 9 16).bind fun f1 => ((am_cI 223 [am_R f1] h).bind fun r2 => ((am_gfR r2.2 x0 9 15).bind fun f3 => ((am_cI 223 [am_R f3] r2.2).bind fun r4 => am_run am_ms 224 206 [am_R x0, am_I x1, am_I x2, am_I x3, am_I x4, x5] [am_I (am_w (r2.1 - r4.1))] r4.2))))) :=
  (am_xs_run am_ms 224 [(.iload_n 2, 1, []), (.iconst 1, 1, []), (.if_icmp .ne 21, 3, []), (.aload_n 0, 1, []), (.getfield 35, 3, [9, 16, 5199, 3]), (.invokestatic 361, 3, [1, 223, 1, 0, 1, 7197, 7198]), (.aload_n 0, 1, []), (.getfield 32, 3, [9, 15, 5198, 3]), (.invokestatic 361, 3, [1, 223, 1, 0, 1, 7197, 7198]), (.isub, 1, []), (.goto 18, 3, [])] 168 _ _ h (by decide +kernel)).trans rfl
set_option maxHeartbeats 4000000 in
theorem bk_224_191 (x0 : Nat) (x1 : Int) (x2 : Int) (x3 : Int) (x4 : Int) (x5 : am_V) (h : am_H) : am_run am_ms 224 191 [am_R x0, am_I x1, am_I x2, am_I x3, am_I x4, x5] [] h = ((am_gfR h x0 9 9).bind fun f1 => ((am_rd h f1 0 x1).bind fun v2 => (bif decide (¬ x3 = v2) then am_run am_ms 224 205 [am_R x0, am_I x1, am_I x2, am_I x3, am_I x4, x5] [] h else am_run am_ms 224 206 [am_R x0, am_I x1, am_I x2, am_I x3, am_I x4, x5] [am_I (-1)] h))) :=
  (am_xs_run am_ms 224 [(.iload_n 3, 1, []), (.aload_n 0, 1, []), (.getfield 26, 3, [9, 9, 5192, 3]), (.iload_n 1, 1, []), (.iaload, 1, []), (.if_icmp .ne 7, 3, []), (.iconst (-1), 1, []), (.goto 4, 3, [])] 191 _ _ h (by decide +kernel)).trans rfl
set_option maxHeartbeats 4000000 in
theorem bk_224_205 (x0 : Nat) (x1 : Int) (x2 : Int) (x3 : Int) (x4 : Int) (x5 : am_V) (h : am_H) : am_run am_ms 224 205 [am_R x0, am_I x1, am_I x2, am_I x3, am_I x4, x5] [] h = am_run am_ms 224 206 [am_R x0, am_I x1, am_I x2, am_I x3, am_I x4, x5] [am_I x3] h :=
  (am_xs_run am_ms 224 [(.iload_n 3, 1, [])] 205 _ _ h (by decide +kernel)).trans rfl
set_option maxHeartbeats 4000000 in
theorem bk_224_206 (x0 : Nat) (x1 : Int) (x2 : Int) (x3 : Int) (x4 : Int) (x5 : am_V) (y0 : Int) (h : am_H) : am_run am_ms 224 206 [am_R x0, am_I x1, am_I x2, am_I x3, am_I x4, x5] [am_I y0] h = some (some (am_I y0), h) :=
  (am_xs_run am_ms 224 [(.ireturn, 1, [0])] 206 _ _ h (by decide +kernel)).trans rfl
set_option maxHeartbeats 4000000 in
theorem bk_226_0 (x0 : Nat) (x1 : Int) (h : am_H) : am_run am_ms 226 0 [am_R x0, am_I x1, am_K 1] [] h = ((am_pf h x0 9 0 (am_I 0)).bind fun h1 => ((am_isc h1 x0 9).bind fun _ => ((am_cI 218 [am_R x0, am_I x1] h1).bind fun r2 => (bif decide (r2.1 = 0) then am_run am_ms 226 20 [am_R x0, am_I x1, am_K 1] [] r2.2 else ((am_gfI r2.2 x0 9 14).bind fun f3 => (bif decide (¬ f3 = 0) then am_run am_ms 226 22 [am_R x0, am_I x1, am_K 1] [] r2.2 else am_run am_ms 226 20 [am_R x0, am_I x1, am_K 1] [] r2.2)))))) :=
  (am_xs_run am_ms 226 [(.aload_n 0, 1, []), (.iconst 0, 1, []), (.putfield 53, 3, [9, 0, 5183, 0]), (.aload_n 0, 1, []), (.iload_n 1, 1, []), (.invokevirtual 358, 3, [0, 218, 2, 9, 1, 7189, 7191, 90]), (.ifCond .eq 10, 3, []), (.aload_n 0, 1, []), (.getfield 155, 3, [9, 14, 5197, 1]), (.ifCond .ne 5, 3, [])] 0 _ _ h (by decide +kernel)).trans rfl
theorem en_226 (x0 : Nat) (x1 : Int) (h : am_H) : am_call am_ms 226 [am_R x0, am_I x1] h = am_run am_ms 226 0 [am_R x0, am_I x1, am_K 1] [] h := rfl
set_option maxHeartbeats 4000000 in
theorem bk_226_20 (x0 : Nat) (x1 : Int) (h : am_H) : am_run am_ms 226 20 [am_R x0, am_I x1, am_K 1] [] h = some (some (am_I (-1)), h) :=
  (am_xs_run am_ms 226 [(.iconst (-1), 1, []), (.ireturn, 1, [0])] 20 _ _ h (by decide +kernel)).trans rfl
set_option maxHeartbeats 4000000 in
theorem bk_226_22 (x0 : Nat) (x1 : Int) (h : am_H) : am_run am_ms 226 22 [am_R x0, am_I x1, am_K 1] [] h = am_run am_ms 226 24 [am_R x0, am_I x1, am_I 0] [] h :=
  (am_xs_run am_ms 226 [(.iconst 0, 1, []), (.istore_n 2, 1, [])] 22 _ _ h (by decide +kernel)).trans rfl
set_option maxHeartbeats 4000000 in
theorem bk_226_24 (x0 : Nat) (x1 : Int) (x2 : Int) (h : am_H) : am_run am_ms 226 24 [am_R x0, am_I x1, am_I x2] [] h = ((am_gfR h x0 9 9).bind fun f1 => ((am_rd h f1 0 x1).bind fun v2 => (bif decide (v2 ≤ x2) then am_run am_ms 226 91 [am_R x0, am_I x1, am_I x2] [] h else ((am_gfR h x0 9 8).bind fun f3 => am_run am_ms 226 45 [am_R x0, am_I x1, am_I x2] [am_I x2, am_I (am_w (16 * x1)), am_I 3, am_R f3, am_R x0] h)))) :=
  (am_xs_run am_ms 226 [(.iload_n 2, 1, []), (.aload_n 0, 1, []), (.getfield 26, 3, [9, 9, 5192, 3]), (.iload_n 1, 1, []), (.iaload, 1, []), (.if_icmp .ge 60, 3, []), (.aload_n 0, 1, []), (.aload_n 0, 1, []), (.getfield 23, 3, [9, 8, 5191, 3]), (.iconst 3, 1, []), (.bipush 16, 2, []), (.iload_n 1, 1, []), (.imul, 1, []), (.iload_n 2, 1, [])] 24 _ _ h (by decide +kernel)).trans rfl
set_option maxHeartbeats 4000000 in
theorem bk_226_45 (x0 : Nat) (x1 : Int) (x2 : Int) (y0 : Int) (y1 : Int) (y2 : Int) (y3 : Nat) (y4 : Nat) (h : am_H) : am_run am_ms 226 45 [am_R x0, am_I x1, am_I x2] [am_I y0, am_I y1, am_I y2, am_R y3, am_R y4] h = ((am_rd h y3 0 (am_w (y2 * (am_w (y1 + y0))))).bind fun v1 => ((am_gfR h x0 9 8).bind fun f2 => am_run am_ms 226 62 [am_R x0, am_I x1, am_I x2] [am_I (am_w ((am_w (3 * (am_w ((am_w (16 * x1)) + x2)))) + 1)), am_R f2, am_I v1, am_R y4] h)) :=
  (am_xs_run am_ms 226 [(.iadd, 1, []), (.imul, 1, []), (.iaload, 1, []), (.aload_n 0, 1, []), (.getfield 23, 3, [9, 8, 5191, 3]), (.iconst 3, 1, []), (.bipush 16, 2, []), (.iload_n 1, 1, []), (.imul, 1, []), (.iload_n 2, 1, []), (.iadd, 1, []), (.imul, 1, []), (.iconst 1, 1, []), (.iadd, 1, [])] 45 _ _ h (by decide +kernel)).trans rfl
set_option maxHeartbeats 4000000 in
theorem bk_226_62 (x0 : Nat) (x1 : Int) (x2 : Int) (y0 : Int) (y1 : Nat) (y2 : Int) (y3 : Nat) (h : am_H) : am_run am_ms 226 62 [am_R x0, am_I x1, am_I x2] [am_I y0, am_R y1, am_I y2, am_R y3] h = ((am_rd h y1 0 y0).bind fun v1 => ((am_gfR h x0 9 8).bind fun f2 => ((am_rd h f2 0 (am_w ((am_w (3 * (am_w ((am_w (16 * x1)) + x2)))) + 2))).bind fun v3 => ((am_isc h y3 9).bind fun _ => ((am_cI 170 [am_R y3, am_I y2, am_I v1, am_I v3] h).bind fun r4 => am_run am_ms 226 81 [am_R x0, am_I x1, am_I x2] [am_I r4.1] r4.2))))) :=
  (am_xs_run am_ms 226 [(.iaload, 1, []), (.aload_n 0, 1, []), (.getfield 23, 3, [9, 8, 5191, 3]), (.iconst 3, 1, []), (.bipush 16, 2, []), (.iload_n 1, 1, []), (.imul, 1, []), (.iload_n 2, 1, []), (.iadd, 1, []), (.imul, 1, []), (.iconst 2, 1, []), (.iadd, 1, []), (.iaload, 1, []), (.invokevirtual 322, 3, [0, 170, 4, 9, 1, 7030, 7032, 76])] 62 _ _ h (by decide +kernel)).trans rfl
set_option maxHeartbeats 4000000 in
theorem bk_226_81 (x0 : Nat) (x1 : Int) (x2 : Int) (y0 : Int) (h : am_H) : am_run am_ms 226 81 [am_R x0, am_I x1, am_I x2] [am_I y0] h = (bif decide (¬ y0 = (-1)) then am_run am_ms 226 91 [am_R x0, am_I x1, am_I x2] [] h else am_run am_ms 226 24 [am_R x0, am_I x1, am_I (am_w (x2 + 1))] [] h) :=
  (am_xs_run am_ms 226 [(.iconst (-1), 1, []), (.if_icmp .ne 9, 3, []), (.iinc 2 1, 3, []), (.goto (-64), 3, [])] 81 _ _ h (by decide +kernel)).trans rfl
set_option maxHeartbeats 4000000 in
theorem bk_226_91 (x0 : Nat) (x1 : Int) (x2 : Int) (h : am_H) : am_run am_ms 226 91 [am_R x0, am_I x1, am_I x2] [] h = some (some (am_I x2), h) :=
  (am_xs_run am_ms 226 [(.iload_n 2, 1, []), (.ireturn, 1, [0])] 91 _ _ h (by decide +kernel)).trans rfl
set_option maxHeartbeats 4000000 in
theorem bk_231_0 (x0 : Nat) (x1 : Nat) (x2 : Int) (h : am_H) : am_run am_ms 231 0 [am_R x0, am_R x1, am_I x2] [] h = (if 16 = 0 then none else ((am_gfR h x0 9 6).bind fun f1 => ((am_rd h f1 0 0).bind fun v2 => (bif decide (v2 ≤ (am_div x2 16)) then am_run am_ms 231 33 [am_R x0, am_R x1, am_I x2] [] h else (if 16 = 0 then none else am_run am_ms 231 21 [am_R x0, am_R x1, am_I x2] [am_I x2, am_I 8, am_R x1, am_I (am_rem x2 16)] h))))) :=
  (am_xs_run am_ms 231 [(.iload_n 2, 1, []), (.bipush 16, 2, []), (.idiv, 1, []), (.aload_n 0, 1, []), (.getfield 17, 3, [9, 6, 5189, 3]), (.iconst 0, 1, []), (.iaload, 1, []), (.if_icmp .ge 23, 3, []), (.iload_n 2, 1, []), (.bipush 16, 2, []), (.irem, 1, []), (.aload_n 1, 1, []), (.bipush 8, 2, []), (.iload_n 2, 1, [])] 0 _ _ h (by decide +kernel)).trans rfl
theorem en_231 (x0 : Nat) (x1 : Nat) (x2 : Int) (h : am_H) : am_call am_ms 231 [am_R x0, am_R x1, am_I x2] h = am_run am_ms 231 0 [am_R x0, am_R x1, am_I x2] [] h := rfl
set_option maxHeartbeats 4000000 in
theorem bk_231_21 (x0 : Nat) (x1 : Nat) (x2 : Int) (y0 : Int) (y1 : Int) (y2 : Nat) (y3 : Int) (h : am_H) : am_run am_ms 231 21 [am_R x0, am_R x1, am_I x2] [am_I y0, am_I y1, am_R y2, am_I y3] h = (if 16 = 0 then none else ((am_rd h y2 0 (am_w (y1 + (am_div y0 16)))).bind fun v1 => (bif decide (v1 ≤ y3) then am_run am_ms 231 33 [am_R x0, am_R x1, am_I x2] [] h else am_run am_ms 231 34 [am_R x0, am_R x1, am_I x2] [am_I 1] h))) :=
  (am_xs_run am_ms 231 [(.bipush 16, 2, []), (.idiv, 1, []), (.iadd, 1, []), (.iaload, 1, []), (.if_icmp .ge 7, 3, []), (.iconst 1, 1, []), (.goto 4, 3, [])] 21 _ _ h (by decide +kernel)).trans rfl
set_option maxHeartbeats 4000000 in
theorem bk_231_33 (x0 : Nat) (x1 : Nat) (x2 : Int) (h : am_H) : am_run am_ms 231 33 [am_R x0, am_R x1, am_I x2] [] h = am_run am_ms 231 34 [am_R x0, am_R x1, am_I x2] [am_I 0] h :=
  (am_xs_run am_ms 231 [(.iconst 0, 1, [])] 33 _ _ h (by decide +kernel)).trans rfl
set_option maxHeartbeats 4000000 in
theorem bk_231_34 (x0 : Nat) (x1 : Nat) (x2 : Int) (y0 : Int) (h : am_H) : am_run am_ms 231 34 [am_R x0, am_R x1, am_I x2] [am_I y0] h = (bif am_rok 1 y0 then some (some (am_I y0), h) else none) :=
  (am_xs_run am_ms 231 [(.ireturn, 1, [1])] 34 _ _ h (by decide +kernel)).trans rfl
set_option maxHeartbeats 4000000 in
theorem bk_232_0 (x0 : Nat) (x1 : Nat) (h : am_H) : am_run am_ms 232 0 [am_R x0, am_R x1, am_K 1, am_K 1, am_K 1] [] h = am_run am_ms 232 4 [am_R x0, am_R x1, am_I 0, am_I 0, am_K 1] [] h :=
  (am_xs_run am_ms 232 [(.iconst 0, 1, []), (.istore_n 2, 1, []), (.iconst 0, 1, []), (.istore_n 3, 1, [])] 0 _ _ h (by decide +kernel)).trans rfl
theorem en_232 (x0 : Nat) (x1 : Nat) (h : am_H) : am_call am_ms 232 [am_R x0, am_R x1] h = am_run am_ms 232 0 [am_R x0, am_R x1, am_K 1, am_K 1, am_K 1] [] h := rfl
set_option maxHeartbeats 4000000 in
theorem bk_232_4 (x0 : Nat) (x1 : Nat) (x2 : Int) (x3 : Int) (x4 : am_V) (h : am_H) : am_run am_ms 232 4 [am_R x0, am_R x1, am_I x2, am_I x3, x4] [] h = (bif decide (128 ≤ x3) then am_run am_ms 232 96 [am_R x0, am_R x1, am_I x2, am_I x3, x4] [] h else ((am_isc h x0 9).bind fun _ => ((am_cI 231 [am_R x0, am_R x1, am_I x3] h).bind fun r1 => (bif decide (¬ r1.1 = 0) then am_run am_ms 232 23 [am_R x0, am_R x1, am_I x2, am_I x3, x4] [] r1.2 else am_run am_ms 232 90 [am_R x0, am_R x1, am_I x2, am_I x3, x4] [] r1.2)))) :=
  (am_xs_run am_ms 232 [(.iload_n 3, 1, []), (.sipush 128, 3, []), (.if_icmp .ge 88, 3, []), (.aload_n 0, 1, []), (.aload_n 1, 1, []), (.iload_n 3, 1, []), (.invokevirtual 364, 3, [0, 231, 3, 9, 1, 7212, 7214, 92]), (.ifCond .ne 6, 3, []), (.goto 70, 3, [])] 4 _ _ h (by decide +kernel)).trans rfl
set_option maxHeartbeats 4000000 in
theorem bk_232_23 (x0 : Nat) (x1 : Nat) (x2 : Int) (x3 : Int) (x4 : am_V) (h : am_H) : am_run am_ms 232 23 [am_R x0, am_R x1, am_I x2, am_I x3, x4] [] h = am_run am_ms 232 26 [am_R x0, am_R x1, am_I x2, am_I x3, am_I 0] [] h :=
  (am_xs_run am_ms 232 [(.iconst 0, 1, []), (.istore 4, 2, [])] 23 _ _ h (by decide +kernel)).trans rfl
set_option maxHeartbeats 4000000 in
theorem bk_232_26 (x0 : Nat) (x1 : Nat) (x2 : Int) (x3 : Int) (x4 : Int) (h : am_H) : am_run am_ms 232 26 [am_R x0, am_R x1, am_I x2, am_I x3, am_I x4] [] h = (bif decide (x3 ≤ x4) then am_run am_ms 232 90 [am_R x0, am_R x1, am_I x2, am_I x3, am_I x4] [] h else ((am_isc h x0 9).bind fun _ => ((am_cI 231 [am_R x0, am_R x1, am_I x4] h).bind fun r1 => (bif decide (r1.1 = 0) then am_run am_ms 232 81 [am_R x0, am_R x1, am_I x2, am_I x3, am_I x4] [am_I x2] r1.2 else ((am_rd r1.2 x1 0 (am_w (32 + x4))).bind fun v2 => am_run am_ms 232 50 [am_R x0, am_R x1, am_I x2, am_I x3, am_I x4] [am_I v2, am_I x2] r1.2))))) :=
  (am_xs_run am_ms 232 [(.iload 4, 2, []), (.iload_n 3, 1, []), (.if_icmp .ge 61, 3, []), (.iload_n 2, 1, []), (.aload_n 0, 1, []), (.aload_n 1, 1, []), (.iload 4, 2, []), (.invokevirtual 364, 3, [0, 231, 3, 9, 1, 7212, 7214, 92]), (.ifCond .eq 41, 3, []), (.aload_n 1, 1, []), (.bipush 32, 2, []), (.iload 4, 2, []), (.iadd, 1, []), (.iaload, 1, [])] 26 _ _ h (by decide +kernel)).trans rfl
set_option maxHeartbeats 4000000 in
theorem bk_232_50 (x0 : Nat) (x1 : Nat) (x2 : Int) (x3 : Int) (x4 : Int) (y0 : Int) (y1 : Int) (h : am_H) : am_run am_ms 232 50 [am_R x0, am_R x1, am_I x2, am_I x3, am_I x4] [am_I y0, am_I y1] h = ((am_rd h x1 0 (am_w (32 + x3))).bind fun v1 => (bif decide (¬ y0 = v1) then am_run am_ms 232 81 [am_R x0, am_R x1, am_I x2, am_I x3, am_I x4] [am_I y1] h else ((am_rd h x1 0 (am_w (288 + x4))).bind fun v2 => am_run am_ms 232 72 [am_R x0, am_R x1, am_I x2, am_I x3, am_I x4] [am_I x3, am_I 288, am_R x1, am_I v2, am_I y1] h))) :=
  (am_xs_run am_ms 232 [(.aload_n 1, 1, []), (.bipush 32, 2, []), (.iload_n 3, 1, []), (.iadd, 1, []), (.iaload, 1, []), (.if_icmp .ne 25, 3, []), (.aload_n 1, 1, []), (.sipush 288, 3, []), (.iload 4, 2, []), (.iadd, 1, []), (.iaload, 1, []), (.aload_n 1, 1, []), (.sipush 288, 3, []), (.iload_n 3, 1, [])] 50 _ _ h (by decide +kernel)).trans rfl
set_option maxHeartbeats 4000000 in
theorem bk_232_72 (x0 : Nat) (x1 : Nat) (x2 : Int) (x3 : Int) (x4 : Int) (y0 : Int) (y1 : Int) (y2 : Nat) (y3 : Int) (y4 : Int) (h : am_H) : am_run am_ms 232 72 [am_R x0, am_R x1, am_I x2, am_I x3, am_I x4] [am_I y0, am_I y1, am_R y2, am_I y3, am_I y4] h = ((am_rd h y2 0 (am_w (y1 + y0))).bind fun v1 => (bif decide (¬ y3 = v1) then am_run am_ms 232 81 [am_R x0, am_R x1, am_I x2, am_I x3, am_I x4] [am_I y4] h else am_run am_ms 232 82 [am_R x0, am_R x1, am_I x2, am_I x3, am_I x4] [am_I 1, am_I y4] h)) :=
  (am_xs_run am_ms 232 [(.iadd, 1, []), (.iaload, 1, []), (.if_icmp .ne 7, 3, []), (.iconst 1, 1, []), (.goto 4, 3, [])] 72 _ _ h (by decide +kernel)).trans rfl
set_option maxHeartbeats 4000000 in
theorem bk_232_81 (x0 : Nat) (x1 : Nat) (x2 : Int) (x3 : Int) (x4 : Int) (y0 : Int) (h : am_H) : am_run am_ms 232 81 [am_R x0, am_R x1, am_I x2, am_I x3, am_I x4] [am_I y0] h = am_run am_ms 232 82 [am_R x0, am_R x1, am_I x2, am_I x3, am_I x4] [am_I 0, am_I y0] h :=
  (am_xs_run am_ms 232 [(.iconst 0, 1, [])] 81 _ _ h (by decide +kernel)).trans rfl
set_option maxHeartbeats 4000000 in
theorem bk_232_82 (x0 : Nat) (x1 : Nat) (x2 : Int) (x3 : Int) (x4 : Int) (y0 : Int) (y1 : Int) (h : am_H) : am_run am_ms 232 82 [am_R x0, am_R x1, am_I x2, am_I x3, am_I x4] [am_I y0, am_I y1] h = am_run am_ms 232 26 [am_R x0, am_R x1, am_I (am_w (y1 + y0)), am_I x3, am_I (am_w (x4 + 1))] [] h :=
  (am_xs_run am_ms 232 [(.iadd, 1, []), (.istore_n 2, 1, []), (.iinc 4 1, 3, []), (.goto (-61), 3, [])] 82 _ _ h (by decide +kernel)).trans rfl
set_option maxHeartbeats 4000000 in
theorem bk_232_90 (x0 : Nat) (x1 : Nat) (x2 : Int) (x3 : Int) (x4 : am_V) (h : am_H) : am_run am_ms 232 90 [am_R x0, am_R x1, am_I x2, am_I x3, x4] [] h = am_run am_ms 232 4 [am_R x0, am_R x1, am_I x2, am_I (am_w (x3 + 1)), x4] [] h :=
  (am_xs_run am_ms 232 [(.iinc 3 1, 3, []), (.goto (-89), 3, [])] 90 _ _ h (by decide +kernel)).trans rfl
set_option maxHeartbeats 4000000 in
theorem bk_232_96 (x0 : Nat) (x1 : Nat) (x2 : Int) (x3 : Int) (x4 : am_V) (h : am_H) : am_run am_ms 232 96 [am_R x0, am_R x1, am_I x2, am_I x3, x4] [] h = some (some (am_I x2), h) :=
  (am_xs_run am_ms 232 [(.iload_n 2, 1, []), (.ireturn, 1, [0])] 96 _ _ h (by decide +kernel)).trans rfl
set_option maxHeartbeats 4000000 in
theorem bk_233_0 (x0 : Nat) (x1 : Int) (x2 : Int) (h : am_H) : am_run am_ms 233 0 [am_R x0, am_I x1, am_I x2, am_K 1, am_K 1, am_K 1] [] h = ((am_pf h x0 9 0 (am_I 0)).bind fun h1 => ((am_gfI h1 x0 9 14).bind fun f2 => (bif decide (f2 = 0) then am_run am_ms 233 69 [am_R x0, am_I x1, am_I x2, am_K 1, am_K 1, am_K 1] [] h1 else ((am_cI 40 [am_L x2, am_L 0, am_L 2] h1).bind fun r3 => (bif decide (r3.1 = 0) then am_run am_ms 233 69 [am_R x0, am_I x1, am_I x2, am_K 1, am_K 1, am_K 1] [] r3.2 else am_run am_ms 233 26 [am_R x0, am_I x1, am_I x2, am_K 1, am_K 1, am_K 1] [am_R x0, am_R x0] r3.2))))) :=
  (am_xs_run am_ms 233 [(.aload_n 0, 1, []), (.iconst 0, 1, []), (.putfield 53, 3, [9, 0, 5183, 0]), (.aload_n 0, 1, []), (.getfield 155, 3, [9, 14, 5197, 1]), (.ifCond .eq 60, 3, []), (.iload_n 2, 1, []), (.i2l, 1, []), (.lconst 0, 1, []), (.ldc2_w 348, 3, [0, 2, 7148]), (.invokestatic 96, 3, [1, 40, 3, 0, 1, 6060, 6061]), (.ifCond .eq 48, 3, []), (.aload_n 0, 1, []), (.aload_n 0, 1, [])] 0 _ _ h (by decide +kernel)).trans rfl
theorem en_233 (x0 : Nat) (x1 : Int) (x2 : Int) (h : am_H) : am_call am_ms 233 [am_R x0, am_I x1, am_I x2] h = am_run am_ms 233 0 [am_R x0, am_I x1, am_I x2, am_K 1, am_K 1, am_K 1] [] h := rfl
set_option maxHeartbeats 4000000 in
theorem bk_233_26 (x0 : Nat) (x1 : Int) (x2 : Int) (y0 : Nat) (y1 : Nat) (h : am_H) : am_run am_ms 233 26 [am_R x0, am_I x1, am_I x2, am_K 1, am_K 1, am_K 1] [am_R y0, am_R y1] h = ((am_gfR h y0 9 15).bind fun f1 => ((am_isc h y1 9).bind fun _ => ((am_cI 121 [am_R y1, am_R f1] h).bind fun r2 => (bif decide (¬ r2.1 = (-1)) then am_run am_ms 233 69 [am_R x0, am_I x1, am_I x2, am_K 1, am_K 1, am_K 1] [] r2.2 else (bif decide (x1 < 0) then am_run am_ms 233 69 [am_R x0, am_I x1, am_I x2, am_K 1, am_K 1, am_K 1] [] r2.2 else ((am_gfR r2.2 x0 9 15).bind fun f3 => ((am_gfR r2.2 x0 9 15).bind fun f4 => am_run am_ms 233 52 [am_R x0, am_I x1, am_I x2, am_K 1, am_K 1, am_K 1] [am_R x0, am_R f4, am_R x0, am_R f3, am_R x0, am_I x1] r2.2))))))) :=
  (am_xs_run am_ms 233 [(.getfield 32, 3, [9, 15, 5198, 3]), (.invokevirtual 266, 3, [0, 121, 2, 9, 1, 6174, 6176, 54]), (.iconst (-1), 1, []), (.if_icmp .ne 36, 3, []), (.iload_n 1, 1, []), (.ifCond .lt 32, 3, []), (.iload_n 1, 1, []), (.aload_n 0, 1, []), (.aload_n 0, 1, []), (.getfield 32, 3, [9, 15, 5198, 3]), (.aload_n 0, 1, []), (.aload_n 0, 1, []), (.getfield 32, 3, [9, 15, 5198, 3]), (.aload_n 0, 1, [])] 26 _ _ h (by decide +kernel)).trans rfl
set_option maxHeartbeats 4000000 in
theorem bk_233_52 (x0 : Nat) (x1 : Int) (x2 : Int) (y0 : Nat) (y1 : Nat) (y2 : Nat) (y3 : Nat) (y4 : Nat) (y5 : Int) (h : am_H) : am_run am_ms 233 52 [am_R x0, am_I x1, am_I x2, am_K 1, am_K 1, am_K 1] [am_R y0, am_R y1, am_R y2, am_R y3, am_R y4, am_I y5] h = ((am_gfR h y0 9 15).bind fun f1 => ((am_rd h f1 0 420).bind fun v2 => ((am_isc h y2 9).bind fun _ => ((am_cI 119 [am_R y2, am_R y1, am_I v2, am_I 0] h).bind fun r3 => ((am_isc r3.2 y4 9).bind fun _ => ((am_cI 115 [am_R y4, am_R y3, am_I r3.1] r3.2).bind fun r4 => (bif decide (y5 ≤ r4.1) then am_run am_ms 233 71 [am_R x0, am_I x1, am_I x2, am_K 1, am_K 1, am_K 1] [] r4.2 else am_run am_ms 233 69 [am_R x0, am_I x1, am_I x2, am_K 1, am_K 1, am_K 1] [] r4.2))))))) :=
  (am_xs_run am_ms 233 [(.getfield 32, 3, [9, 15, 5198, 3]), (.sipush 420, 3, []), (.iaload, 1, []), (.iconst 0, 1, []), (.invokevirtual 246, 3, [0, 119, 4, 9, 1, 6178, 6180, 55]), (.invokevirtual 192, 3, [0, 115, 3, 9, 1, 6186, 6188, 57]), (.if_icmp .le 5, 3, [])] 52 _ _ h (by decide +kernel)).trans rfl
set_option maxHeartbeats 4000000 in
theorem bk_233_69 (x0 : Nat) (x1 : Int) (x2 : Int) (h : am_H) : am_run am_ms 233 69 [am_R x0, am_I x1, am_I x2, am_K 1, am_K 1, am_K 1] [] h = some (some (am_I (-1)), h) :=
  (am_xs_run am_ms 233 [(.iconst (-1), 1, []), (.ireturn, 1, [0])] 69 _ _ h (by decide +kernel)).trans rfl
set_option maxHeartbeats 4000000 in
theorem bk_233_71 (x0 : Nat) (x1 : Int) (x2 : Int) (h : am_H) : am_run am_ms 233 71 [am_R x0, am_I x1, am_I x2, am_K 1, am_K 1, am_K 1] [] h = ((am_gfR h x0 9 15).bind fun f1 => ((am_gfR h x0 9 16).bind fun f2 => ((am_cV 108 [am_R f1, am_I 0, am_R f2, am_I 0] h).bind fun h3 => ((am_gfR h3 x0 9 16).bind fun f4 => ((am_isc h3 x0 9).bind fun _ => ((am_cI 134 [am_R x0, am_R f4, am_I x1] h3).bind fun r5 => am_run am_ms 233 95 [am_R x0, am_I x1, am_I x2, am_I r5.1, am_K 1, am_K 1] [am_R x0] r5.2)))))) :=
  (am_xs_run am_ms 233 [(.aload_n 0, 1, []), (.getfield 32, 3, [9, 15, 5198, 3]), (.iconst 0, 1, []), (.aload_n 0, 1, []), (.getfield 35, 3, [9, 16, 5199, 3]), (.iconst 0, 1, []), (.invokestatic 259, 3, [1, 108, 4, 0, 0, 6155, 6156]), (.aload_n 0, 1, []), (.aload_n 0, 1, []), (.getfield 35, 3, [9, 16, 5199, 3]), (.iload_n 1, 1, []), (.invokevirtual 269, 3, [0, 134, 3, 9, 1, 6211, 6213, 63]), (.istore_n 3, 1, []), (.aload_n 0, 1, [])] 71 _ _ h (by decide +kernel)).trans rfl
set_option maxHeartbeats 4000000 in
theorem bk_233_95 (x0 : Nat) (x1 : Int) (x2 : Int) (x3 : Int) (y0 : Nat) (h : am_H) : am_run am_ms 233 95 [am_R x0, am_I x1, am_I x2, am_I x3, am_K 1, am_K 1] [am_R y0] h = ((am_gfR h x0 9 16).bind fun f1 => ((am_isc h y0 9).bind fun _ => ((am_cV 166 [am_R y0, am_R f1] h).bind fun h2 => (bif decide (¬ x2 = 1) then am_run am_ms 233 116 [am_R x0, am_I x1, am_I x2, am_I x3, am_K 1, am_K 1] [] h2 else ((am_gfR h2 x0 9 16).bind fun f3 => ((am_isc h2 x0 9).bind fun _ => ((am_cI 232 [am_R x0, am_R f3] h2).bind fun r4 => some (some (am_I r4.1), r4.2)))))))) :=
  (am_xs_run am_ms 233 [(.aload_n 0, 1, []), (.getfield 35, 3, [9, 16, 5199, 3]), (.invokevirtual 303, 3, [0, 166, 2, 9, 0, 7061, 7063, 83]), (.iload_n 2, 1, []), (.iconst 1, 1, []), (.if_icmp .ne 12, 3, []), (.aload_n 0, 1, []), (.aload_n 0, 1, []), (.getfield 35, 3, [9, 16, 5199, 3]), (.invokevirtual 367, 3, [0, 232, 2, 9, 1, 7208, 7210, 91]), (.ireturn, 1, [0])] 95 _ _ h (by decide +kernel)).trans rfl
set_option maxHeartbeats 4000000 in
theorem bk_233_116 (x0 : Nat) (x1 : Int) (x2 : Int) (x3 : Int) (h : am_H) : am_run am_ms 233 116 [am_R x0, am_I x1, am_I x2, am_I x3, am_K 1, am_K 1] [] h = (bif decide (¬ x2 = 2) then am_run am_ms 233 131 [am_R x0, am_I x1, am_I x2, am_I x3, am_K 1, am_K 1] [] h else ((am_gfR h x0 9 16).bind fun f1 => ((am_isc h x0 9).bind fun _ => ((am_cI 112 [am_R x0, am_R f1, am_I 0] h).bind fun r2 => some (some (am_I r2.1), r2.2))))) :=
  (am_xs_run am_ms 233 [(.iload_n 2, 1, []), (.iconst 2, 1, []), (.if_icmp .ne 13, 3, []), (.aload_n 0, 1, []), (.aload_n 0, 1, []), (.getfield 35, 3, [9, 16, 5199, 3]), (.iconst 0, 1, []), (.invokevirtual 200, 3, [0, 112, 3, 9, 1, 6170, 6172, 53]), (.ireturn, 1, [0])] 116 _ _ h (by decide +kernel)).trans rfl
set_option maxHeartbeats 4000000 in
theorem bk_233_131 (x0 : Nat) (x1 : Int) (x2 : Int) (x3 : Int) (h : am_H) : am_run am_ms 233 131 [am_R x0, am_I x1, am_I x2, am_I x3, am_K 1, am_K 1] [] h = am_run am_ms 233 137 [am_R x0, am_I x1, am_I x2, am_I x3, am_I 0, am_I 0] [] h :=
  (am_xs_run am_ms 233 [(.iconst 0, 1, []), (.istore 4, 2, []), (.iconst 0, 1, []), (.istore 5, 2, [])] 131 _ _ h (by decide +kernel)).trans rfl
set_option maxHeartbeats 4000000 in
theorem bk_233_137 (x0 : Nat) (x1 : Int) (x2 : Int) (x3 : Int) (x4 : Int) (x5 : Int) (h : am_H) : am_run am_ms 233 137 [am_R x0, am_I x1, am_I x2, am_I x3, am_I x4, am_I x5] [] h = (bif decide (32 ≤ x5) then am_run am_ms 233 183 [am_R x0, am_I x1, am_I x2, am_I x3, am_I x4, am_I x5] [] h else ((am_gfR h x0 9 16).bind fun f1 => ((am_isc h x0 9).bind fun _ => ((am_cI 147 [am_R x0, am_R f1, am_I x5] h).bind fun r2 => ((am_gfR r2.2 x0 9 15).bind fun f3 => ((am_isc r2.2 x0 9).bind fun _ => ((am_cI 147 [am_R x0, am_R f3, am_I x5] r2.2).bind fun r4 => am_run am_ms 233 166 [am_R x0, am_I x1, am_I x2, am_I x3, am_I x4, am_I x5] [am_I r4.1, am_I r2.1, am_I x4] r4.2))))))) :=
  (am_xs_run am_ms 233 [(.iload 5, 2, []), (.bipush 32, 2, []), (.if_icmp .ge 42, 3, []), (.iload 4, 2, []), (.aload_n 0, 1, []), (.aload_n 0, 1, []), (.getfield 35, 3, [9, 16, 5199, 3]), (.iload 5, 2, []), (.invokevirtual 275, 3, [0, 147, 3, 9, 1, 7044, 7046, 79]), (.aload_n 0, 1, []), (.aload_n 0, 1, []), (.getfield 32, 3, [9, 15, 5198, 3]), (.iload 5, 2, []), (.invokevirtual 275, 3, [0, 147, 3, 9, 1, 7044, 7046, 79])] 137 _ _ h (by decide +kernel)).trans rfl
set_option maxHeartbeats 4000000 in
theorem bk_233_166 (x0 : Nat) (x1 : Int) (x2 : Int) (x3 : Int) (x4 : Int) (x5 : Int) (y0 : Int) (y1 : Int) (y2 : Int) (h : am_H) : am_run am_ms 233 166 [am_R x0, am_I x1, am_I x2, am_I x3, am_I x4, am_I x5] [am_I y0, am_I y1, am_I y2] h = (bif decide (¬ y1 = y0) then am_run am_ms 233 173 [am_R x0, am_I x1, am_I x2, am_I x3, am_I x4, am_I x5] [am_I y2] h else am_run am_ms 233 174 [am_R x0, am_I x1, am_I x2, am_I x3, am_I x4, am_I x5] [am_I 0, am_I y2] h) :=
  (am_xs_run am_ms 233 [(.if_icmp .ne 7, 3, []), (.iconst 0, 1, []), (.goto 4, 3, [])] 166 _ _ h (by decide +kernel)).trans rfl
set_option maxHeartbeats 4000000 in
theorem bk_233_173 (x0 : Nat) (x1 : Int) (x2 : Int) (x3 : Int) (x4 : Int) (x5 : Int) (y0 : Int) (h : am_H) : am_run am_ms 233 173 [am_R x0, am_I x1, am_I x2, am_I x3, am_I x4, am_I x5] [am_I y0] h = am_run am_ms 233 174 [am_R x0, am_I x1, am_I x2, am_I x3, am_I x4, am_I x5] [am_I 1, am_I y0] h :=
  (am_xs_run am_ms 233 [(.iconst 1, 1, [])] 173 _ _ h (by decide +kernel)).trans rfl
set_option maxHeartbeats 4000000 in
theorem bk_233_174 (x0 : Nat) (x1 : Int) (x2 : Int) (x3 : Int) (x4 : Int) (x5 : Int) (y0 : Int) (y1 : Int) (h : am_H) : am_run am_ms 233 174 [am_R x0, am_I x1, am_I x2, am_I x3, am_I x4, am_I x5] [am_I y0, am_I y1] h = am_run am_ms 233 137 [am_R x0, am_I x1, am_I x2, am_I x3, am_I (am_w (y1 + y0)), am_I (am_w (x5 + 1))] [] h :=
  (am_xs_run am_ms 233 [(.iadd, 1, []), (.istore 4, 2, []), (.iinc 5 1, 3, []), (.goto (-43), 3, [])] 174 _ _ h (by decide +kernel)).trans rfl
set_option maxHeartbeats 4000000 in
theorem bk_233_183 (x0 : Nat) (x1 : Int) (x2 : Int) (x3 : Int) (x4 : Int) (x5 : Int) (h : am_H) : am_run am_ms 233 183 [am_R x0, am_I x1, am_I x2, am_I x3, am_I x4, am_I x5] [] h = some (some (am_I x4), h) :=
  (am_xs_run am_ms 233 [(.iload 4, 2, []), (.ireturn, 1, [0])] 183 _ _ h (by decide +kernel)).trans rfl
set_option maxHeartbeats 4000000 in
theorem bk_237_0 (x0 : Nat) (x1 : Int) (x2 : Int) (h : am_H) : am_run am_ms 237 0 [am_R x0, am_I x1, am_I x2, am_K 1, am_K 1, am_K 1] [] h = ((am_pf h x0 9 0 (am_I 0)).bind fun h1 => ((am_gfI h1 x0 9 14).bind fun f2 => (bif decide (f2 = 0) then am_run am_ms 237 28 [am_R x0, am_I x1, am_I x2, am_K 1, am_K 1, am_K 1] [] h1 else ((am_cI 40 [am_L x1, am_L 0, am_L 3] h1).bind fun r3 => (bif decide (r3.1 = 0) then am_run am_ms 237 28 [am_R x0, am_I x1, am_I x2, am_K 1, am_K 1, am_K 1] [] r3.2 else (bif decide (0 ≤ x2) then am_run am_ms 237 30 [am_R x0, am_I x1, am_I x2, am_K 1, am_K 1, am_K 1] [] r3.2 else am_run am_ms 237 28 [am_R x0, am_I x1, am_I x2, am_K 1, am_K 1, am_K 1] [] r3.2)))))) :=
  (am_xs_run am_ms 237 [(.aload_n 0, 1, []), (.iconst 0, 1, []), (.putfield 53, 3, [9, 0, 5183, 0]), (.aload_n 0, 1, []), (.getfield 155, 3, [9, 14, 5197, 1]), (.ifCond .eq 19, 3, []), (.iload_n 1, 1, []), (.i2l, 1, []), (.lconst 0, 1, []), (.ldc2_w 298, 3, [0, 3, 7056]), (.invokestatic 96, 3, [1, 40, 3, 0, 1, 6060, 6061]), (.ifCond .eq 7, 3, []), (.iload_n 2, 1, []), (.ifCond .ge 5, 3, [])] 0 _ _ h (by decide +kernel)).trans rfl
theorem en_237 (x0 : Nat) (x1 : Int) (x2 : Int) (h : am_H) : am_call am_ms 237 [am_R x0, am_I x1, am_I x2] h = am_run am_ms 237 0 [am_R x0, am_I x1, am_I x2, am_K 1, am_K 1, am_K 1] [] h := rfl
set_option maxHeartbeats 4000000 in
theorem bk_237_28 (x0 : Nat) (x1 : Int) (x2 : Int) (h : am_H) : am_run am_ms 237 28 [am_R x0, am_I x1, am_I x2, am_K 1, am_K 1, am_K 1] [] h = some (some (am_I (-1)), h) :=
  (am_xs_run am_ms 237 [(.iconst (-1), 1, []), (.ireturn, 1, [0])] 28 _ _ h (by decide +kernel)).trans rfl
set_option maxHeartbeats 4000000 in
theorem bk_237_30 (x0 : Nat) (x1 : Int) (x2 : Int) (h : am_H) : am_run am_ms 237 30 [am_R x0, am_I x1, am_I x2, am_K 1, am_K 1, am_K 1] [] h = ((am_gfR h x0 9 15).bind fun f1 => ((am_isc h x0 9).bind fun _ => ((am_cI 119 [am_R x0, am_R f1, am_I x1, am_I 0] h).bind fun r2 => am_run am_ms 237 47 [am_R x0, am_I x1, am_I x2, am_I 0, am_I r2.1, am_I 0] [] r2.2))) :=
  (am_xs_run am_ms 237 [(.iconst 0, 1, []), (.istore_n 3, 1, []), (.aload_n 0, 1, []), (.aload_n 0, 1, []), (.getfield 32, 3, [9, 15, 5198, 3]), (.iload_n 1, 1, []), (.iload_n 3, 1, []), (.invokevirtual 246, 3, [0, 119, 4, 9, 1, 6178, 6180, 55]), (.istore 4, 2, []), (.iconst 0, 1, []), (.istore 5, 2, [])] 30 _ _ h (by decide +kernel)).trans rfl
set_option maxHeartbeats 4000000 in
theorem bk_237_47 (x0 : Nat) (x1 : Int) (x2 : Int) (x3 : Int) (x4 : Int) (x5 : Int) (h : am_H) : am_run am_ms 237 47 [am_R x0, am_I x1, am_I x2, am_I x3, am_I x4, am_I x5] [] h = (bif decide (x2 ≤ x5) then am_run am_ms 237 84 [am_R x0, am_I x1, am_I x2, am_I x3, am_I x4, am_I x5] [] h else (bif decide (x4 = (-1)) then am_run am_ms 237 84 [am_R x0, am_I x1, am_I x2, am_I x3, am_I x4, am_I x5] [] h else am_run am_ms 237 68 [am_R x0, am_I x1, am_I x2, am_I (am_or x3 (am_shl 1 x4)), am_I x4, am_I x5] [am_R x0, am_R x0] h)) :=
  (am_xs_run am_ms 237 [(.iload 5, 2, []), (.iload_n 2, 1, []), (.if_icmp .ge 34, 3, []), (.iload 4, 2, []), (.iconst (-1), 1, []), (.if_icmp .eq 28, 3, []), (.iload_n 3, 1, []), (.iconst 1, 1, []), (.iload 4, 2, []), (.ishl, 1, []), (.ior, 1, []), (.istore_n 3, 1, []), (.aload_n 0, 1, []), (.aload_n 0, 1, [])] 47 _ _ h (by decide +kernel)).trans rfl
set_option maxHeartbeats 4000000 in
theorem bk_237_68 (x0 : Nat) (x1 : Int) (x2 : Int) (x3 : Int) (x4 : Int) (x5 : Int) (y0 : Nat) (y1 : Nat) (h : am_H) : am_run am_ms 237 68 [am_R x0, am_I x1, am_I x2, am_I x3, am_I x4, am_I x5] [am_R y0, am_R y1] h = ((am_gfR h y0 9 15).bind fun f1 => ((am_isc h y1 9).bind fun _ => ((am_cI 119 [am_R y1, am_R f1, am_I x1, am_I x3] h).bind fun r2 => am_run am_ms 237 47 [am_R x0, am_I x1, am_I x2, am_I x3, am_I r2.1, am_I (am_w (x5 + 1))] [] r2.2))) :=
  (am_xs_run am_ms 237 [(.getfield 32, 3, [9, 15, 5198, 3]), (.iload_n 1, 1, []), (.iload_n 3, 1, []), (.invokevirtual 246, 3, [0, 119, 4, 9, 1, 6178, 6180, 55]), (.istore 4, 2, []), (.iinc 5 1, 3, []), (.goto (-34), 3, [])] 68 _ _ h (by decide +kernel)).trans rfl
set_option maxHeartbeats 4000000 in
theorem bk_237_84 (x0 : Nat) (x1 : Int) (x2 : Int) (x3 : Int) (x4 : Int) (x5 : Int) (h : am_H) : am_run am_ms 237 84 [am_R x0, am_I x1, am_I x2, am_I x3, am_I x4, am_I x5] [] h = some (some (am_I x4), h) :=
  (am_xs_run am_ms 237 [(.iload 4, 2, []), (.ireturn, 1, [0])] 84 _ _ h (by decide +kernel)).trans rfl
set_option maxHeartbeats 4000000 in
theorem bk_239_0 (x0 : Nat) (x1 : Int) (x2 : Int) (h : am_H) : am_run am_ms 239 0 [am_R x0, am_I x1, am_I x2] [] h = ((am_pf h x0 9 0 (am_I 0)).bind fun h1 => ((am_isc h1 x0 9).bind fun _ => ((am_cI 140 [am_R x0, am_I x1] h1).bind fun r2 => (bif decide (r2.1 = 0) then am_run am_ms 239 38 [am_R x0, am_I x1, am_I x2] [] r2.2 else ((am_cI 40 [am_L x2, am_L 0, am_L 3] r2.2).bind fun r3 => (bif decide (r3.1 = 0) then am_run am_ms 239 38 [am_R x0, am_I x1, am_I x2] [] r3.2 else am_run am_ms 239 26 [am_R x0, am_I x1, am_I x2] [am_R x0] r3.2)))))) :=
  (am_xs_run am_ms 239 [(.aload_n 0, 1, []), (.iconst 0, 1, []), (.putfield 53, 3, [9, 0, 5183, 0]), (.aload_n 0, 1, []), (.iload_n 1, 1, []), (.invokevirtual 295, 3, [0, 140, 2, 9, 1, 7052, 7054, 81]), (.ifCond .eq 28, 3, []), (.iload_n 2, 1, []), (.i2l, 1, []), (.lconst 0, 1, []), (.ldc2_w 298, 3, [0, 3, 7056]), (.invokestatic 96, 3, [1, 40, 3, 0, 1, 6060, 6061]), (.ifCond .eq 16, 3, []), (.aload_n 0, 1, [])] 0 _ _ h (by decide +kernel)).trans rfl
theorem en_239 (x0 : Nat) (x1 : Int) (x2 : Int) (h : am_H) : am_call am_ms 239 [am_R x0, am_I x1, am_I x2] h = am_run am_ms 239 0 [am_R x0, am_I x1, am_I x2] [] h := rfl
set_option maxHeartbeats 4000000 in
theorem bk_239_26 (x0 : Nat) (x1 : Int) (x2 : Int) (y0 : Nat) (h : am_H) : am_run am_ms 239 26 [am_R x0, am_I x1, am_I x2] [am_R y0] h = ((am_gfR h x0 9 15).bind fun f1 => ((am_isc h y0 9).bind fun _ => ((am_cI 118 [am_R y0, am_R f1, am_I x1, am_I x2] h).bind fun r2 => am_run am_ms 239 39 [am_R x0, am_I x1, am_I x2] [am_I r2.1] r2.2))) :=
  (am_xs_run am_ms 239 [(.aload_n 0, 1, []), (.getfield 32, 3, [9, 15, 5198, 3]), (.iload_n 1, 1, []), (.iload_n 2, 1, []), (.invokevirtual 243, 3, [0, 118, 4, 9, 1, 6198, 6200, 60]), (.goto 4, 3, [])] 26 _ _ h (by decide +kernel)).trans rfl
set_option maxHeartbeats 4000000 in
theorem bk_239_38 (x0 : Nat) (x1 : Int) (x2 : Int) (h : am_H) : am_run am_ms 239 38 [am_R x0, am_I x1, am_I x2] [] h = am_run am_ms 239 39 [am_R x0, am_I x1, am_I x2] [am_I (-1)] h :=
  (am_xs_run am_ms 239 [(.iconst (-1), 1, [])] 38 _ _ h (by decide +kernel)).trans rfl
set_option maxHeartbeats 4000000 in
theorem bk_239_39 (x0 : Nat) (x1 : Int) (x2 : Int) (y0 : Int) (h : am_H) : am_run am_ms 239 39 [am_R x0, am_I x1, am_I x2] [am_I y0] h = some (some (am_I y0), h) :=
  (am_xs_run am_ms 239 [(.ireturn, 1, [0])] 39 _ _ h (by decide +kernel)).trans rfl
