/-! ===== BLOCK LAWS: printed by a program of ours ===== -/
noncomputable def am_cI (z : Nat) (as : List am_V) (h : am_H) : Option (Int × am_H) := am_oI (am_call am_ms z as h)
noncomputable def am_cV (z : Nat) (as : List am_V) (h : am_H) : Option am_H := am_oV (am_call am_ms z as h)
set_option maxHeartbeats 4000000 in
theorem bk_0_0 (x0 : Nat) (h : am_H) : am_run am_ms 0 0 [am_R x0] [] h = (if 0 ≤ 240 ∧ 240 ≤ 100000 then ((am_pf (am_push h (am_ar 0 (240 : Int).toNat (fun _ => 0)) (240 : Int).toNat) x0 6 0 (am_R h.2.1)).bind fun h1 => some (none, h1)) else none) :=
  (am_xs_run am_ms 0 [(.aload_n 0, 1, []), (.invokespecial 1, 3, [10, 0, 1, 0, 0, 1037, 1030, 1031]), (.aload_n 0, 1, []), (.sipush 240, 3, []), (.newarray .int, 2, [1048]), (.putfield 9, 3, [6, 0, 1038, 3]), (.return_, 1, [])] 0 _ _ h (by decide +kernel)).trans rfl
theorem en_0 (x0 : Nat) (h : am_H) : am_call am_ms 0 [am_R x0] h = am_run am_ms 0 0 [am_R x0] [] h := rfl
set_option maxHeartbeats 4000000 in
theorem bk_1_0 (x0 : Nat) (h : am_H) : am_run am_ms 1 0 [am_R x0] [] h = (if 0 ≤ 16 ∧ 16 ≤ 100000 then ((am_pf (am_push h (am_ar 0 (16 : Int).toNat (fun _ => 0)) (16 : Int).toNat) x0 5 0 (am_R h.2.1)).bind fun h1 => (if 0 ≤ 16 ∧ 16 ≤ 100000 then ((am_pf (am_push h1 (am_ar 0 (16 : Int).toNat (fun _ => 0)) (16 : Int).toNat) x0 5 1 (am_R h1.2.1)).bind fun h2 => (if 0 ≤ 16 ∧ 16 ≤ 100000 then ((am_pf (am_push h2 (am_ar 0 (16 : Int).toNat (fun _ => 0)) (16 : Int).toNat) x0 5 2 (am_R h2.2.1)).bind fun h3 => am_run am_ms 1 28 [am_R x0] [] h3) else none)) else none)) else none) :=
  (am_xs_run am_ms 1 [(.aload_n 0, 1, []), (.invokespecial 3, 3, [10, 0, 1, 0, 0, 1060, 1030, 1031]), (.aload_n 0, 1, []), (.bipush 16, 2, []), (.newarray .int, 2, [1048]), (.putfield 9, 3, [5, 0, 1061, 3]), (.aload_n 0, 1, []), (.bipush 16, 2, []), (.newarray .int, 2, [1048]), (.putfield 15, 3, [5, 1, 1063, 3]), (.aload_n 0, 1, []), (.bipush 16, 2, []), (.newarray .int, 2, [1048]), (.putfield 18, 3, [5, 2, 1065, 3])] 0 _ _ h (by decide +kernel)).trans rfl
theorem en_1 (x0 : Nat) (h : am_H) : am_call am_ms 1 [am_R x0] h = am_run am_ms 1 0 [am_R x0] [] h := rfl
set_option maxHeartbeats 4000000 in
theorem bk_1_28 (x0 : Nat) (h : am_H) : am_run am_ms 1 28 [am_R x0] [] h = some (none, h) :=
  (am_xs_run am_ms 1 [(.return_, 1, [])] 28 _ _ h (by decide +kernel)).trans rfl
set_option maxHeartbeats 4000000 in
theorem bk_2_0 (x0 : Nat) (x1 : Nat) (h : am_H) : am_run am_ms 2 0 [am_R x0, am_R x1] [] h = (if 0 ≤ 7 ∧ 7 ≤ 100000 then ((am_pf (am_push h (am_ar 0 (7 : Int).toNat (fun _ => 0)) (7 : Int).toNat) x0 4 0 (am_R h.2.1)).bind fun h1 => (if 0 ≤ 24 ∧ 24 ≤ 100000 then ((am_pf (am_push h1 (am_ar 0 (24 : Int).toNat (fun _ => 0)) (24 : Int).toNat) x0 4 1 (am_R h1.2.1)).bind fun h2 => (if 0 ≤ 24 ∧ 24 ≤ 100000 then ((am_pf (am_push h2 (am_ar 0 (24 : Int).toNat (fun _ => 0)) (24 : Int).toNat) x0 4 2 (am_R h2.2.1)).bind fun h3 => am_run am_ms 2 28 [am_R x0, am_R x1] [] h3) else none)) else none)) else none) :=
  (am_xs_run am_ms 2 [(.aload_n 0, 1, []), (.invokespecial 3, 3, [10, 0, 1, 0, 0, 1054, 1030, 1031]), (.aload_n 0, 1, []), (.bipush 7, 2, []), (.newarray .int, 2, [1048]), (.putfield 9, 3, [4, 0, 1079, 3]), (.aload_n 0, 1, []), (.bipush 24, 2, []), (.newarray .int, 2, [1048]), (.putfield 15, 3, [4, 1, 1081, 3]), (.aload_n 0, 1, []), (.bipush 24, 2, []), (.newarray .int, 2, [1048]), (.putfield 18, 3, [4, 2, 1083, 3])] 0 _ _ h (by decide +kernel)).trans rfl
theorem en_2 (x0 : Nat) (x1 : Nat) (h : am_H) : am_call am_ms 2 [am_R x0, am_R x1] h = am_run am_ms 2 0 [am_R x0, am_R x1] [] h := rfl
set_option maxHeartbeats 4000000 in
theorem bk_2_28 (x0 : Nat) (x1 : Nat) (h : am_H) : am_run am_ms 2 28 [am_R x0, am_R x1] [] h = ((am_cV 1 [am_R h.2.1] (am_push h (am_ob 5 (am_dfl 5)) 4)).bind fun h1 => ((am_pf h1 x0 4 4 (am_R h.2.1)).bind fun h2 => (if 0 ≤ 2 ∧ 2 ≤ 100000 then ((am_pf (am_push h2 (am_ar 0 (2 : Int).toNat (fun _ => 0)) (2 : Int).toNat) x0 4 6 (am_R h2.2.1)).bind fun h3 => ((am_pf h3 x0 4 5 (am_R x1)).bind fun h4 => some (none, h4))) else none))) :=
  (am_xs_run am_ms 2 [(.aload_n 0, 1, []), (.new 21, 3, [5, 4, 1055, 1056, 1004]), (.dup, 1, []), (.invokespecial 23, 3, [3, 1, 1, 0, 0, 1057, 1058]), (.putfield 24, 3, [4, 4, 1087, 3]), (.aload_n 0, 1, []), (.iconst 2, 1, []), (.newarray .int, 2, [1048]), (.putfield 28, 3, [4, 6, 1090, 3]), (.aload_n 0, 1, []), (.aload_n 1, 1, []), (.putfield 31, 3, [4, 5, 1089, 3]), (.return_, 1, [])] 28 _ _ h (by decide +kernel)).trans rfl
set_option maxHeartbeats 4000000 in
theorem bk_3_0 (x0 : Nat) (h : am_H) : am_run am_ms 3 0 [am_R x0] [] h = (if 0 ≤ 60 ∧ 60 ≤ 100000 then ((am_pf (am_push h (am_ar 0 (60 : Int).toNat (fun _ => 0)) (60 : Int).toNat) x0 3 0 (am_R h.2.1)).bind fun h1 => (if 0 ≤ 60 ∧ 60 ≤ 100000 then ((am_pf (am_push h1 (am_ar 0 (60 : Int).toNat (fun _ => 0)) (60 : Int).toNat) x0 3 1 (am_R h1.2.1)).bind fun h2 => (if 0 ≤ 60 ∧ 60 ≤ 100000 then ((am_pf (am_push h2 (am_ar 0 (60 : Int).toNat (fun _ => 0)) (60 : Int).toNat) x0 3 2 (am_R h2.2.1)).bind fun h3 => am_run am_ms 3 28 [am_R x0] [] h3) else none)) else none)) else none) :=
  (am_xs_run am_ms 3 [(.aload_n 0, 1, []), (.invokespecial 3, 3, [10, 0, 1, 0, 0, 1128, 1030, 1031]), (.aload_n 0, 1, []), (.bipush 60, 2, []), (.newarray .int, 2, [1048]), (.putfield 11, 3, [3, 0, 1129, 3]), (.aload_n 0, 1, []), (.bipush 60, 2, []), (.newarray .int, 2, [1048]), (.putfield 15, 3, [3, 1, 1130, 3]), (.aload_n 0, 1, []), (.bipush 60, 2, []), (.newarray .int, 2, [1048]), (.putfield 18, 3, [3, 2, 1131, 3])] 0 _ _ h (by decide +kernel)).trans rfl
theorem en_3 (x0 : Nat) (h : am_H) : am_call am_ms 3 [am_R x0] h = am_run am_ms 3 0 [am_R x0] [] h := rfl
set_option maxHeartbeats 4000000 in
theorem bk_3_28 (x0 : Nat) (h : am_H) : am_run am_ms 3 28 [am_R x0] [] h = some (none, h) :=
  (am_xs_run am_ms 3 [(.return_, 1, [])] 28 _ _ h (by decide +kernel)).trans rfl
set_option maxHeartbeats 4000000 in
theorem bk_4_0 (x0 : Nat) (h : am_H) : am_run am_ms 4 0 [am_R x0] [] h = (if 0 ≤ 7 ∧ 7 ≤ 100000 then ((am_pf (am_push h (am_ar 0 (7 : Int).toNat (fun _ => 0)) (7 : Int).toNat) x0 1 0 (am_R h.2.1)).bind fun h1 => (if 0 ≤ 8 ∧ 8 ≤ 100000 then ((am_pf (am_push h1 (am_ar 0 (8 : Int).toNat (fun _ => 0)) (8 : Int).toNat) x0 1 1 (am_R h1.2.1)).bind fun h2 => (if 0 ≤ 8 ∧ 8 ≤ 100000 then ((am_pf (am_push h2 (am_ar 0 (8 : Int).toNat (fun _ => 0)) (8 : Int).toNat) x0 1 2 (am_R h2.2.1)).bind fun h3 => am_run am_ms 4 28 [am_R x0] [] h3) else none)) else none)) else none) :=
  (am_xs_run am_ms 4 [(.aload_n 0, 1, []), (.invokespecial 3, 3, [10, 0, 1, 0, 0, 1122, 1030, 1031]), (.aload_n 0, 1, []), (.bipush 7, 2, []), (.newarray .int, 2, [1048]), (.putfield 9, 3, [1, 0, 1146, 3]), (.aload_n 0, 1, []), (.bipush 8, 2, []), (.newarray .int, 2, [1048]), (.putfield 15, 3, [1, 1, 1150, 3]), (.aload_n 0, 1, []), (.bipush 8, 2, []), (.newarray .int, 2, [1048]), (.putfield 18, 3, [1, 2, 1152, 3])] 0 _ _ h (by decide +kernel)).trans rfl
theorem en_4 (x0 : Nat) (h : am_H) : am_call am_ms 4 [am_R x0] h = am_run am_ms 4 0 [am_R x0] [] h := rfl
set_option maxHeartbeats 4000000 in
theorem bk_4_28 (x0 : Nat) (h : am_H) : am_run am_ms 4 28 [am_R x0] [] h = (if 0 ≤ 8 ∧ 8 ≤ 100000 then ((am_pf (am_push h (am_ar 0 (8 : Int).toNat (fun _ => 0)) (8 : Int).toNat) x0 1 3 (am_R h.2.1)).bind fun h1 => (if 0 ≤ 8 ∧ 8 ≤ 100000 then ((am_pf (am_push h1 (am_ar 0 (8 : Int).toNat (fun _ => 0)) (8 : Int).toNat) x0 1 4 (am_R h1.2.1)).bind fun h2 => (if 0 ≤ 8 ∧ 8 ≤ 100000 then ((am_pf (am_push h2 (am_ar 0 (8 : Int).toNat (fun _ => 0)) (8 : Int).toNat) x0 1 5 (am_R h2.2.1)).bind fun h3 => am_run am_ms 4 54 [am_R x0] [am_I 3, am_R x0] h3) else none)) else none)) else none) :=
  (am_xs_run am_ms 4 [(.aload_n 0, 1, []), (.bipush 8, 2, []), (.newarray .int, 2, [1048]), (.putfield 21, 3, [1, 3, 1155, 3]), (.aload_n 0, 1, []), (.bipush 8, 2, []), (.newarray .int, 2, [1048]), (.putfield 24, 3, [1, 4, 1157, 3]), (.aload_n 0, 1, []), (.bipush 8, 2, []), (.newarray .int, 2, [1048]), (.putfield 27, 3, [1, 5, 1160, 3]), (.aload_n 0, 1, []), (.iconst 3, 1, [])] 28 _ _ h (by decide +kernel)).trans rfl
set_option maxHeartbeats 4000000 in
theorem bk_4_54 (x0 : Nat) (y0 : Int) (y1 : Nat) (h : am_H) : am_run am_ms 4 54 [am_R x0] [am_I y0, am_R y1] h = (if 0 ≤ y0 ∧ y0 ≤ 100000 then ((am_pf (am_push h (am_ar 0 (y0 : Int).toNat (fun _ => 0)) (y0 : Int).toNat) y1 1 6 (am_R h.2.1)).bind fun h1 => (if 0 ≤ 128 ∧ 128 ≤ 100000 then ((am_pf (am_push h1 (am_ar 0 (128 : Int).toNat (fun _ => 0)) (128 : Int).toNat) x0 1 7 (am_R h1.2.1)).bind fun h2 => (if 0 ≤ 128 ∧ 128 ≤ 100000 then ((am_pf (am_push h2 (am_ar 0 (128 : Int).toNat (fun _ => 0)) (128 : Int).toNat) x0 1 8 (am_R h2.2.1)).bind fun h3 => (if 0 ≤ 128 ∧ 128 ≤ 100000 then ((am_pf (am_push h3 (am_ar 0 (128 : Int).toNat (fun _ => 0)) (128 : Int).toNat) x0 1 9 (am_R h3.2.1)).bind fun h4 => am_run am_ms 4 86 [am_R x0] [] h4) else none)) else none)) else none)) else none) :=
  (am_xs_run am_ms 4 [(.newarray .int, 2, [1048]), (.putfield 30, 3, [1, 6, 1161, 3]), (.aload_n 0, 1, []), (.sipush 128, 3, []), (.newarray .int, 2, [1048]), (.putfield 33, 3, [1, 7, 1163, 3]), (.aload_n 0, 1, []), (.sipush 128, 3, []), (.newarray .int, 2, [1048]), (.putfield 36, 3, [1, 8, 1166, 3]), (.aload_n 0, 1, []), (.sipush 128, 3, []), (.newarray .int, 2, [1048]), (.putfield 39, 3, [1, 9, 1168, 3])] 54 _ _ h (by decide +kernel)).trans rfl
set_option maxHeartbeats 4000000 in
theorem bk_4_86 (x0 : Nat) (h : am_H) : am_run am_ms 4 86 [am_R x0] [] h = (if 0 ≤ 32 ∧ 32 ≤ 100000 then ((am_pf (am_push h (am_ar 0 (32 : Int).toNat (fun _ => 0)) (32 : Int).toNat) x0 1 10 (am_R h.2.1)).bind fun h1 => (if 0 ≤ 32 ∧ 32 ≤ 100000 then ((am_pf (am_push h1 (am_ar 0 (32 : Int).toNat (fun _ => 0)) (32 : Int).toNat) x0 1 11 (am_R h1.2.1)).bind fun h2 => (if 0 ≤ 32 ∧ 32 ≤ 100000 then ((am_pf (am_push h2 (am_ar 0 (32 : Int).toNat (fun _ => 0)) (32 : Int).toNat) x0 1 12 (am_R h2.2.1)).bind fun h3 => am_run am_ms 4 114 [am_R x0] [am_R h3.2.1, am_R x0] (am_push h3 (am_ob 3 (am_dfl 3)) 5)) else none)) else none)) else none) :=
  (am_xs_run am_ms 4 [(.aload_n 0, 1, []), (.bipush 32, 2, []), (.newarray .int, 2, [1048]), (.putfield 42, 3, [1, 10, 1171, 3]), (.aload_n 0, 1, []), (.bipush 32, 2, []), (.newarray .int, 2, [1048]), (.putfield 45, 3, [1, 11, 1174, 3]), (.aload_n 0, 1, []), (.bipush 32, 2, []), (.newarray .int, 2, [1048]), (.putfield 48, 3, [1, 12, 1175, 3]), (.aload_n 0, 1, []), (.new 51, 3, [3, 5, 1123, 1124, 1006])] 86 _ _ h (by decide +kernel)).trans rfl
set_option maxHeartbeats 4000000 in
theorem bk_4_114 (x0 : Nat) (y0 : Nat) (y1 : Nat) (h : am_H) : am_run am_ms 4 114 [am_R x0] [am_R y0, am_R y1] h = ((am_cV 3 [am_R y0] h).bind fun h1 => ((am_pf h1 y1 1 13 (am_R y0)).bind fun h2 => some (none, h2))) :=
  (am_xs_run am_ms 4 [(.dup, 1, []), (.invokespecial 53, 3, [3, 3, 1, 0, 0, 1125, 1126]), (.putfield 54, 3, [1, 13, 1178, 3]), (.return_, 1, [])] 114 _ _ h (by decide +kernel)).trans rfl
set_option maxHeartbeats 4000000 in
theorem bk_5_0 (x0 : Nat) (h : am_H) : am_run am_ms 5 0 [am_R x0] [] h = some (none, h) :=
  (am_xs_run am_ms 5 [(.aload_n 0, 1, []), (.invokespecial 1, 3, [10, 0, 1, 0, 0, 1222, 1030, 1031]), (.return_, 1, [])] 0 _ _ h (by decide +kernel)).trans rfl
theorem en_5 (x0 : Nat) (h : am_H) : am_call am_ms 5 [am_R x0] h = am_run am_ms 5 0 [am_R x0] [] h := rfl
set_option maxHeartbeats 4000000 in
theorem bk_6_0 (x0 : Nat) (x1 : Nat) (h : am_H) : am_run am_ms 6 0 [am_R x0, am_R x1] [] h = ((am_cV 4 [am_R h.2.1] (am_push h (am_ob 1 (am_dfl 1)) 14)).bind fun h1 => ((am_pf h1 x0 7 0 (am_R h.2.1)).bind fun h2 => ((am_cV 5 [am_R h2.2.1] (am_push h2 (am_ob 0 (am_dfl 0)) 1)).bind fun h3 => ((am_pf h3 x0 7 2 (am_R h2.2.1)).bind fun h4 => am_run am_ms 6 28 [am_R x0, am_R x1] [am_R x1, am_R x0] h4)))) :=
  (am_xs_run am_ms 6 [(.aload_n 0, 1, []), (.invokespecial 3, 3, [10, 0, 1, 0, 0, 1214, 1030, 1031]), (.aload_n 0, 1, []), (.new 9, 3, [1, 14, 1215, 1118, 1005]), (.dup, 1, []), (.invokespecial 11, 3, [3, 4, 1, 0, 0, 1216, 1120]), (.putfield 12, 3, [7, 0, 1229, 3]), (.aload_n 0, 1, []), (.new 18, 3, [0, 1, 1217, 1218, 1008]), (.dup, 1, []), (.invokespecial 20, 3, [3, 5, 1, 0, 0, 1219, 1220]), (.putfield 21, 3, [7, 2, 1232, 3]), (.aload_n 0, 1, []), (.aload_n 1, 1, [])] 0 _ _ h (by decide +kernel)).trans rfl
theorem en_6 (x0 : Nat) (x1 : Nat) (h : am_H) : am_call am_ms 6 [am_R x0, am_R x1] h = am_run am_ms 6 0 [am_R x0, am_R x1] [] h := rfl
set_option maxHeartbeats 4000000 in
theorem bk_6_28 (x0 : Nat) (x1 : Nat) (y0 : Nat) (y1 : Nat) (h : am_H) : am_run am_ms 6 28 [am_R x0, am_R x1] [am_R y0, am_R y1] h = ((am_pf h y1 7 1 (am_R y0)).bind fun h1 => some (none, h1)) :=
  (am_xs_run am_ms 6 [(.putfield 25, 3, [7, 1, 1231, 3]), (.return_, 1, [])] 28 _ _ h (by decide +kernel)).trans rfl
set_option maxHeartbeats 4000000 in
theorem bk_7_0 (x0 : Nat) (h : am_H) : am_run am_ms 7 0 [am_R x0] [] h = (if 0 ≤ 41 ∧ 41 ≤ 100000 then ((am_pf (am_push h (am_ra 4 (41 : Int).toNat (fun _ => none)) (41 : Int).toNat) x0 2 0 (am_R h.2.1)).bind fun h1 => some (none, h1)) else none) :=
  (am_xs_run am_ms 7 [(.aload_n 0, 1, []), (.invokespecial 3, 3, [10, 0, 1, 0, 0, 2020, 1030, 1031]), (.aload_n 0, 1, []), (.bipush 41, 2, []), (.anewarray 9, 3, [4, 2021, 2022]), (.putfield 11, 3, [2, 0, 2023, 3]), (.return_, 1, [])] 0 _ _ h (by decide +kernel)).trans rfl
theorem en_7 (x0 : Nat) (h : am_H) : am_call am_ms 7 [am_R x0] h = am_run am_ms 7 0 [am_R x0] [] h := rfl
set_option maxHeartbeats 4000000 in
theorem bk_8_0 (x0 : Nat) (h : am_H) : am_run am_ms 8 0 [am_R x0, am_K 1] [] h = ((am_cV 0 [am_R h.2.1] (am_push h (am_ob 6 (am_dfl 6)) 2)).bind fun h1 => ((am_pf h1 x0 8 0 (am_R h.2.1)).bind fun h2 => ((am_gfR (am_push h2 (am_ob 4 (am_dfl 4)) 10) x0 8 0).bind fun f3 => ((am_cV 2 [am_R h2.2.1, am_R f3] (am_push h2 (am_ob 4 (am_dfl 4)) 10)).bind fun h4 => ((am_pf h4 x0 8 1 (am_R h2.2.1)).bind fun h5 => am_run am_ms 8 30 [am_R x0, am_K 1] [] h5))))) :=
  (am_xs_run am_ms 8 [(.aload_n 0, 1, []), (.invokespecial 1, 3, [10, 0, 1, 0, 0, 1029, 1030, 1031]), (.aload_n 0, 1, []), (.new 7, 3, [6, 2, 1032, 1033, 1002]), (.dup, 1, []), (.invokespecial 9, 3, [3, 0, 1, 0, 0, 1034, 1035]), (.putfield 10, 3, [8, 0, 2037, 3]), (.aload_n 0, 1, []), (.new 16, 3, [4, 10, 1049, 1050, 1003]), (.dup, 1, []), (.aload_n 0, 1, []), (.getfield 10, 3, [8, 0, 2037, 3]), (.invokespecial 18, 3, [2, 2, 2, 0, 0, 1051, 1052]), (.putfield 21, 3, [8, 1, 2038, 3])] 0 _ _ h (by decide +kernel)).trans rfl
theorem en_8 (x0 : Nat) (h : am_H) : am_call am_ms 8 [am_R x0] h = am_run am_ms 8 0 [am_R x0, am_K 1] [] h := rfl
set_option maxHeartbeats 4000000 in
theorem bk_8_30 (x0 : Nat) (h : am_H) : am_run am_ms 8 30 [am_R x0, am_K 1] [] h = (if 0 ≤ 4 ∧ 4 ≤ 100000 then ((am_pf (am_push h (am_ra 3 (4 : Int).toNat (fun _ => none)) (4 : Int).toNat) x0 8 2 (am_R h.2.1)).bind fun h1 => ((am_cV 4 [am_R h1.2.1] (am_push h1 (am_ob 1 (am_dfl 1)) 14)).bind fun h2 => ((am_pf h2 x0 8 4 (am_R h1.2.1)).bind fun h3 => ((am_cV 4 [am_R h3.2.1] (am_push h3 (am_ob 1 (am_dfl 1)) 14)).bind fun h4 => ((am_pf h4 x0 8 5 (am_R h3.2.1)).bind fun h5 => am_run am_ms 8 60 [am_R x0, am_K 1] [] h5))))) else none) :=
  (am_xs_run am_ms 8 [(.aload_n 0, 1, []), (.iconst 4, 1, []), (.anewarray 25, 3, [3, 1115, 1116]), (.putfield 27, 3, [8, 2, 2039, 3]), (.aload_n 0, 1, []), (.new 31, 3, [1, 14, 1117, 1118, 1005]), (.dup, 1, []), (.invokespecial 33, 3, [3, 4, 1, 0, 0, 1119, 1120]), (.putfield 34, 3, [8, 4, 2041, 3]), (.aload_n 0, 1, []), (.new 31, 3, [1, 14, 1117, 1118, 1005]), (.dup, 1, []), (.invokespecial 33, 3, [3, 4, 1, 0, 0, 1119, 1120]), (.putfield 38, 3, [8, 5, 2042, 3])] 30 _ _ h (by decide +kernel)).trans rfl
set_option maxHeartbeats 4000000 in
theorem bk_8_60 (x0 : Nat) (h : am_H) : am_run am_ms 8 60 [am_R x0, am_K 1] [] h = ((am_cV 4 [am_R h.2.1] (am_push h (am_ob 1 (am_dfl 1)) 14)).bind fun h1 => ((am_pf h1 x0 8 6 (am_R h.2.1)).bind fun h2 => ((am_gfR (am_push h2 (am_ob 7 (am_dfl 7)) 8) x0 8 5).bind fun f3 => ((am_cV 6 [am_R h2.2.1, am_R f3] (am_push h2 (am_ob 7 (am_dfl 7)) 8)).bind fun h4 => ((am_pf h4 x0 8 8 (am_R h2.2.1)).bind fun h5 => am_run am_ms 8 90 [am_R x0, am_K 1] [am_R h5.2.1, am_R x0] (am_push h5 (am_ob 2 (am_dfl 2)) 3)))))) :=
  (am_xs_run am_ms 8 [(.aload_n 0, 1, []), (.new 31, 3, [1, 14, 1117, 1118, 1005]), (.dup, 1, []), (.invokespecial 33, 3, [3, 4, 1, 0, 0, 1119, 1120]), (.putfield 41, 3, [8, 6, 2043, 3]), (.aload_n 0, 1, []), (.new 44, 3, [7, 8, 1209, 1210, 1007]), (.dup, 1, []), (.aload_n 0, 1, []), (.getfield 38, 3, [8, 5, 2042, 3]), (.invokespecial 46, 3, [2, 6, 2, 0, 0, 1211, 1212]), (.putfield 49, 3, [8, 8, 2045, 3]), (.aload_n 0, 1, []), (.new 53, 3, [2, 3, 2015, 2016, 1009])] 60 _ _ h (by decide +kernel)).trans rfl
set_option maxHeartbeats 4000000 in
theorem bk_8_90 (x0 : Nat) (y0 : Nat) (y1 : Nat) (h : am_H) : am_run am_ms 8 90 [am_R x0, am_K 1] [am_R y0, am_R y1] h = ((am_cV 7 [am_R y0] h).bind fun h1 => ((am_pf h1 y1 8 9 (am_R y0)).bind fun h2 => ((am_cV 5 [am_R h2.2.1] (am_push h2 (am_ob 0 (am_dfl 0)) 1)).bind fun h3 => ((am_pf h3 x0 8 10 (am_R h2.2.1)).bind fun h4 => (if 0 ≤ 4 ∧ 4 ≤ 100000 then ((am_pf (am_push h4 (am_ar 0 (4 : Int).toNat (fun _ => 0)) (4 : Int).toNat) x0 8 11 (am_R h4.2.1)).bind fun h5 => am_run am_ms 8 117 [am_R x0, am_I 0] [] h5) else none))))) :=
  (am_xs_run am_ms 8 [(.dup, 1, []), (.invokespecial 55, 3, [3, 7, 1, 0, 0, 2017, 2018]), (.putfield 56, 3, [8, 9, 2046, 3]), (.aload_n 0, 1, []), (.new 60, 3, [0, 1, 2034, 1218, 1008]), (.dup, 1, []), (.invokespecial 62, 3, [3, 5, 1, 0, 0, 2035, 1220]), (.putfield 63, 3, [8, 10, 2047, 3]), (.aload_n 0, 1, []), (.iconst 4, 1, []), (.newarray .int, 2, [1048]), (.putfield 67, 3, [8, 11, 2048, 3]), (.iconst 0, 1, []), (.istore_n 1, 1, [])] 90 _ _ h (by decide +kernel)).trans rfl
set_option maxHeartbeats 4000000 in
theorem bk_8_117 (x0 : Nat) (x1 : Int) (h : am_H) : am_run am_ms 8 117 [am_R x0, am_I x1] [] h = (bif decide (4 ≤ x1) then am_run am_ms 8 141 [am_R x0, am_I x1] [] h else ((am_gfR h x0 8 2).bind fun f1 => ((am_cV 1 [am_R h.2.1] (am_push h (am_ob 5 (am_dfl 5)) 4)).bind fun h2 => ((am_wrr h2 f1 x1 h.2.1).bind fun h3 => am_run am_ms 8 117 [am_R x0, am_I (am_w (x1 + 1))] [] h3)))) :=
  (am_xs_run am_ms 8 [(.iload_n 1, 1, []), (.iconst 4, 1, []), (.if_icmp .ge 22, 3, []), (.aload_n 0, 1, []), (.getfield 27, 3, [8, 2, 2039, 3]), (.iload_n 1, 1, []), (.new 25, 3, [5, 4, 1115, 1056, 1004]), (.dup, 1, []), (.invokespecial 71, 3, [3, 1, 1, 0, 0, 2036, 1058]), (.aastore, 1, []), (.iinc 1 1, 3, []), (.goto (-21), 3, [])] 117 _ _ h (by decide +kernel)).trans rfl
set_option maxHeartbeats 4000000 in
theorem bk_8_141 (x0 : Nat) (x1 : Int) (h : am_H) : am_run am_ms 8 141 [am_R x0, am_I x1] [] h = some (none, h) :=
  (am_xs_run am_ms 8 [(.return_, 1, [])] 141 _ _ h (by decide +kernel)).trans rfl
set_option maxHeartbeats 4000000 in
theorem bk_9_0 (x0 : Nat) (h : am_H) : am_run am_ms 9 0 [am_R x0] [] h = (if 0 ≤ 240 ∧ 240 ≤ 100000 then ((am_pf (am_push h (am_ar 1 (240 : Int).toNat (fun _ => 0)) (240 : Int).toNat) x0 9 1 (am_R h.2.1)).bind fun h1 => (if 0 ≤ 7 ∧ 7 ≤ 100000 then ((am_pf (am_push h1 (am_ar 0 (7 : Int).toNat (fun _ => 0)) (7 : Int).toNat) x0 9 5 (am_R h1.2.1)).bind fun h2 => (if 0 ≤ 7 ∧ 7 ≤ 100000 then ((am_pf (am_push h2 (am_ar 0 (7 : Int).toNat (fun _ => 0)) (7 : Int).toNat) x0 9 6 (am_R h2.2.1)).bind fun h3 => am_run am_ms 9 29 [am_R x0] [] h3) else none)) else none)) else none) :=
  (am_xs_run am_ms 9 [(.aload_n 0, 1, []), (.invokespecial 3, 3, [10, 0, 1, 0, 0, 5182, 1030, 1031]), (.aload_n 0, 1, []), (.sipush 240, 3, []), (.newarray .byte, 2, [3008]), (.putfield 9, 3, [9, 1, 5184, 3]), (.aload_n 0, 1, []), (.bipush 7, 2, []), (.newarray .int, 2, [1048]), (.putfield 13, 3, [9, 5, 5188, 3]), (.aload_n 0, 1, []), (.bipush 7, 2, []), (.newarray .int, 2, [1048]), (.putfield 17, 3, [9, 6, 5189, 3])] 0 _ _ h (by decide +kernel)).trans rfl
theorem en_9 (x0 : Nat) (h : am_H) : am_call am_ms 9 [am_R x0] h = am_run am_ms 9 0 [am_R x0] [] h := rfl
set_option maxHeartbeats 4000000 in
theorem bk_9_29 (x0 : Nat) (h : am_H) : am_run am_ms 9 29 [am_R x0] [] h = (if 0 ≤ 48 ∧ 48 ≤ 100000 then ((am_pf (am_push h (am_ar 0 (48 : Int).toNat (fun _ => 0)) (48 : Int).toNat) x0 9 7 (am_R h.2.1)).bind fun h1 => (if 0 ≤ 240 ∧ 240 ≤ 100000 then ((am_pf (am_push h1 (am_ar 0 (240 : Int).toNat (fun _ => 0)) (240 : Int).toNat) x0 9 8 (am_R h1.2.1)).bind fun h2 => (if 0 ≤ 5 ∧ 5 ≤ 100000 then ((am_pf (am_push h2 (am_ar 0 (5 : Int).toNat (fun _ => 0)) (5 : Int).toNat) x0 9 9 (am_R h2.2.1)).bind fun h3 => am_run am_ms 9 55 [am_R x0] [am_I 4, am_R x0] h3) else none)) else none)) else none) :=
  (am_xs_run am_ms 9 [(.aload_n 0, 1, []), (.bipush 48, 2, []), (.newarray .int, 2, [1048]), (.putfield 20, 3, [9, 7, 5190, 3]), (.aload_n 0, 1, []), (.sipush 240, 3, []), (.newarray .int, 2, [1048]), (.putfield 23, 3, [9, 8, 5191, 3]), (.aload_n 0, 1, []), (.iconst 5, 1, []), (.newarray .int, 2, [1048]), (.putfield 26, 3, [9, 9, 5192, 3]), (.aload_n 0, 1, []), (.iconst 4, 1, [])] 29 _ _ h (by decide +kernel)).trans rfl
set_option maxHeartbeats 4000000 in
theorem bk_9_55 (x0 : Nat) (y0 : Int) (y1 : Nat) (h : am_H) : am_run am_ms 9 55 [am_R x0] [am_I y0, am_R y1] h = (if 0 ≤ y0 ∧ y0 ≤ 100000 then ((am_pf (am_push h (am_ar 0 (y0 : Int).toNat (fun _ => 0)) (y0 : Int).toNat) y1 9 10 (am_R h.2.1)).bind fun h1 => (if 0 ≤ 609 ∧ 609 ≤ 100000 then ((am_pf (am_push h1 (am_ar 0 (609 : Int).toNat (fun _ => 0)) (609 : Int).toNat) x0 9 15 (am_R h1.2.1)).bind fun h2 => (if 0 ≤ 609 ∧ 609 ≤ 100000 then ((am_pf (am_push h2 (am_ar 0 (609 : Int).toNat (fun _ => 0)) (609 : Int).toNat) x0 9 16 (am_R h2.2.1)).bind fun h3 => (if 0 ≤ 609 ∧ 609 ≤ 100000 then ((am_pf (am_push h3 (am_ar 0 (609 : Int).toNat (fun _ => 0)) (609 : Int).toNat) x0 9 17 (am_R h3.2.1)).bind fun h4 => am_run am_ms 9 87 [am_R x0] [] h4) else none)) else none)) else none)) else none) :=
  (am_xs_run am_ms 9 [(.newarray .int, 2, [1048]), (.putfield 29, 3, [9, 10, 5193, 3]), (.aload_n 0, 1, []), (.sipush 609, 3, []), (.newarray .int, 2, [1048]), (.putfield 32, 3, [9, 15, 5198, 3]), (.aload_n 0, 1, []), (.sipush 609, 3, []), (.newarray .int, 2, [1048]), (.putfield 35, 3, [9, 16, 5199, 3]), (.aload_n 0, 1, []), (.sipush 609, 3, []), (.newarray .int, 2, [1048]), (.putfield 38, 3, [9, 17, 5200, 3])] 55 _ _ h (by decide +kernel)).trans rfl
set_option maxHeartbeats 4000000 in
theorem bk_9_87 (x0 : Nat) (h : am_H) : am_run am_ms 9 87 [am_R x0] [] h = (if 0 ≤ 609 ∧ 609 ≤ 100000 then ((am_pf (am_push h (am_ar 0 (609 : Int).toNat (fun _ => 0)) (609 : Int).toNat) x0 9 18 (am_R h.2.1)).bind fun h1 => (if 0 ≤ 24360 ∧ 24360 ≤ 100000 then ((am_pf (am_push h1 (am_ar 0 (24360 : Int).toNat (fun _ => 0)) (24360 : Int).toNat) x0 9 19 (am_R h1.2.1)).bind fun h2 => (if 0 ≤ 16 ∧ 16 ≤ 100000 then ((am_pf (am_push h2 (am_ar 0 (16 : Int).toNat (fun _ => 0)) (16 : Int).toNat) x0 9 26 (am_R h2.2.1)).bind fun h3 => am_run am_ms 9 117 [am_R x0] [am_I 128, am_R x0] h3) else none)) else none)) else none) :=
  (am_xs_run am_ms 9 [(.aload_n 0, 1, []), (.sipush 609, 3, []), (.newarray .int, 2, [1048]), (.putfield 41, 3, [9, 18, 5201, 3]), (.aload_n 0, 1, []), (.sipush 24360, 3, []), (.newarray .int, 2, [1048]), (.putfield 44, 3, [9, 19, 5202, 3]), (.aload_n 0, 1, []), (.bipush 16, 2, []), (.newarray .int, 2, [1048]), (.putfield 47, 3, [9, 26, 5209, 3]), (.aload_n 0, 1, []), (.sipush 128, 3, [])] 87 _ _ h (by decide +kernel)).trans rfl
set_option maxHeartbeats 4000000 in
theorem bk_9_117 (x0 : Nat) (y0 : Int) (y1 : Nat) (h : am_H) : am_run am_ms 9 117 [am_R x0] [am_I y0, am_R y1] h = (if 0 ≤ y0 ∧ y0 ≤ 100000 then ((am_pf (am_push h (am_ar 0 (y0 : Int).toNat (fun _ => 0)) (y0 : Int).toNat) y1 9 30 (am_R h.2.1)).bind fun h1 => some (none, h1)) else none) :=
  (am_xs_run am_ms 9 [(.newarray .int, 2, [1048]), (.putfield 50, 3, [9, 30, 5213, 3]), (.return_, 1, [])] 117 _ _ h (by decide +kernel)).trans rfl
set_option maxHeartbeats 4000000 in
theorem bk_10_0 (x0 : Int) (h : am_H) : am_run am_ms 10 0 [am_I x0, am_K 1, am_K 1] [] h = am_run am_ms 10 5 [am_I x0, am_I 0, am_I 24] [] h :=
  (am_xs_run am_ms 10 [(.iconst 0, 1, []), (.istore_n 1, 1, []), (.bipush 24, 2, []), (.istore_n 2, 1, [])] 0 _ _ h (by decide +kernel)).trans rfl
theorem en_10 (x0 : Int) (h : am_H) : am_call am_ms 10 [am_I x0] h = am_run am_ms 10 0 [am_I x0, am_K 1, am_K 1] [] h := rfl
set_option maxHeartbeats 4000000 in
theorem bk_10_5 (x0 : Int) (x1 : Int) (x2 : Int) (h : am_H) : am_run am_ms 10 5 [am_I x0, am_I x1, am_I x2] [] h = (bif decide (x2 < 0) then am_run am_ms 10 28 [am_I x0, am_I x1, am_I x2] [] h else (bif decide ((am_and (am_ushr x0 x2) 255) = 0) then am_run am_ms 10 22 [am_I x0, am_I x1, am_I x2] [] h else am_run am_ms 10 22 [am_I x0, am_I (am_w (x1 + 1)), am_I x2] [] h)) :=
  (am_xs_run am_ms 10 [(.iload_n 2, 1, []), (.ifCond .lt 22, 3, []), (.iload_n 0, 1, []), (.iload_n 2, 1, []), (.iushr, 1, []), (.sipush 255, 3, []), (.iand, 1, []), (.ifCond .eq 6, 3, []), (.iinc 1 1, 3, [])] 5 _ _ h (by decide +kernel)).trans rfl
set_option maxHeartbeats 4000000 in
theorem bk_10_22 (x0 : Int) (x1 : Int) (x2 : Int) (h : am_H) : am_run am_ms 10 22 [am_I x0, am_I x1, am_I x2] [] h = am_run am_ms 10 5 [am_I x0, am_I x1, am_I (am_w (x2 + (-8)))] [] h :=
  (am_xs_run am_ms 10 [(.iinc 2 (-8), 3, []), (.goto (-20), 3, [])] 22 _ _ h (by decide +kernel)).trans rfl
set_option maxHeartbeats 4000000 in
theorem bk_10_28 (x0 : Int) (x1 : Int) (x2 : Int) (h : am_H) : am_run am_ms 10 28 [am_I x0, am_I x1, am_I x2] [] h = some (some (am_I x1), h) :=
  (am_xs_run am_ms 10 [(.iload_n 1, 1, []), (.ireturn, 1, [0])] 28 _ _ h (by decide +kernel)).trans rfl
set_option maxHeartbeats 4000000 in
theorem bk_11_0 (x0 : Nat) (x1 : Int) (h : am_H) : am_run am_ms 11 0 [am_R x0, am_I x1, am_K 1, am_K 1] [] h = am_run am_ms 11 3 [am_R x0, am_I x1, am_I 24, am_K 1] [] h :=
  (am_xs_run am_ms 11 [(.bipush 24, 2, []), (.istore_n 2, 1, [])] 0 _ _ h (by decide +kernel)).trans rfl
theorem en_11 (x0 : Nat) (x1 : Int) (h : am_H) : am_call am_ms 11 [am_R x0, am_I x1] h = am_run am_ms 11 0 [am_R x0, am_I x1, am_K 1, am_K 1] [] h := rfl
set_option maxHeartbeats 4000000 in
theorem bk_11_3 (x0 : Nat) (x1 : Int) (x2 : Int) (x3 : am_V) (h : am_H) : am_run am_ms 11 3 [am_R x0, am_I x1, am_I x2, x3] [] h = (bif decide (x2 < 0) then am_run am_ms 11 55 [am_R x0, am_I x1, am_I x2, x3] [] h else (bif decide ((am_and (am_ushr x1 x2) 255) = 0) then am_run am_ms 11 49 [am_R x0, am_I x1, am_I x2, am_I (am_and (am_ushr x1 x2) 255)] [] h else ((am_gfI h x0 6 1).bind fun f1 => (bif decide (240 ≤ f1) then am_run am_ms 11 49 [am_R x0, am_I x1, am_I x2, am_I (am_and (am_ushr x1 x2) 255)] [] h else am_run am_ms 11 29 [am_R x0, am_I x1, am_I x2, am_I (am_and (am_ushr x1 x2) 255)] [] h)))) :=
  (am_xs_run am_ms 11 [(.iload_n 2, 1, []), (.ifCond .lt 51, 3, []), (.iload_n 1, 1, []), (.iload_n 2, 1, []), (.iushr, 1, []), (.sipush 255, 3, []), (.iand, 1, []), (.istore_n 3, 1, []), (.iload_n 3, 1, []), (.ifCond .eq 33, 3, []), (.aload_n 0, 1, []), (.getfield 13, 3, [6, 1, 1041, 0]), (.sipush 240, 3, []), (.if_icmp .ge 23, 3, [])] 3 _ _ h (by decide +kernel)).trans rfl
set_option maxHeartbeats 4000000 in
theorem bk_11_29 (x0 : Nat) (x1 : Int) (x2 : Int) (x3 : Int) (h : am_H) : am_run am_ms 11 29 [am_R x0, am_I x1, am_I x2, am_I x3] [] h = ((am_gfR h x0 6 0).bind fun f1 => ((am_gfI h x0 6 1).bind fun f2 => ((am_wr h f1 0 f2 x3).bind fun h3 => ((am_gfI h3 x0 6 1).bind fun f4 => ((am_pf h3 x0 6 1 (am_I (am_w (f4 + 1)))).bind fun h5 => am_run am_ms 11 49 [am_R x0, am_I x1, am_I x2, am_I x3] [] h5))))) :=
  (am_xs_run am_ms 11 [(.aload_n 0, 1, []), (.getfield 9, 3, [6, 0, 1038, 3]), (.aload_n 0, 1, []), (.getfield 13, 3, [6, 1, 1041, 0]), (.iload_n 3, 1, []), (.iastore, 1, []), (.aload_n 0, 1, []), (.dup, 1, []), (.getfield 13, 3, [6, 1, 1041, 0]), (.iconst 1, 1, []), (.iadd, 1, []), (.putfield 13, 3, [6, 1, 1041, 0])] 29 _ _ h (by decide +kernel)).trans rfl
set_option maxHeartbeats 4000000 in
theorem bk_11_49 (x0 : Nat) (x1 : Int) (x2 : Int) (x3 : Int) (h : am_H) : am_run am_ms 11 49 [am_R x0, am_I x1, am_I x2, am_I x3] [] h = am_run am_ms 11 3 [am_R x0, am_I x1, am_I (am_w (x2 + (-8))), am_I x3] [] h :=
  (am_xs_run am_ms 11 [(.iinc 2 (-8), 3, []), (.goto (-49), 3, [])] 49 _ _ h (by decide +kernel)).trans rfl
set_option maxHeartbeats 4000000 in
theorem bk_11_55 (x0 : Nat) (x1 : Int) (x2 : Int) (x3 : am_V) (h : am_H) : am_run am_ms 11 55 [am_R x0, am_I x1, am_I x2, x3] [] h = some (none, h) :=
  (am_xs_run am_ms 11 [(.return_, 1, [])] 55 _ _ h (by decide +kernel)).trans rfl
set_option maxHeartbeats 4000000 in
theorem bk_12_0 (x0 : Nat) (x1 : Int) (x2 : Int) (x3 : Int) (x4 : Int) (x5 : Int) (h : am_H) : am_run am_ms 12 0 [am_R x0, am_I x1, am_I x2, am_I x3, am_I x4, am_I x5, am_K 1] [] h = ((am_cI 10 [am_I x1] h).bind fun r1 => ((am_cI 10 [am_I x2] r1.2).bind fun r2 => ((am_cI 10 [am_I x3] r2.2).bind fun r3 => ((am_cI 10 [am_I x4] r3.2).bind fun r4 => ((am_cI 10 [am_I x5] r4.2).bind fun r5 => am_run am_ms 12 26 [am_R x0, am_I x1, am_I x2, am_I x3, am_I x4, am_I x5, am_K 1] [am_I (am_w ((am_w ((am_w ((am_w (r1.1 + r2.1)) + r3.1)) + r4.1)) + r5.1))] r5.2))))) :=
  (am_xs_run am_ms 12 [(.iload_n 1, 1, []), (.invokestatic 72, 3, [1, 10, 1, 0, 1, 2078, 2079]), (.iload_n 2, 1, []), (.invokestatic 72, 3, [1, 10, 1, 0, 1, 2078, 2079]), (.iadd, 1, []), (.iload_n 3, 1, []), (.invokestatic 72, 3, [1, 10, 1, 0, 1, 2078, 2079]), (.iadd, 1, []), (.iload 4, 2, []), (.invokestatic 72, 3, [1, 10, 1, 0, 1, 2078, 2079]), (.iadd, 1, []), (.iload 5, 2, []), (.invokestatic 72, 3, [1, 10, 1, 0, 1, 2078, 2079]), (.iadd, 1, [])] 0 _ _ h (by decide +kernel)).trans rfl
theorem en_12 (x0 : Nat) (x1 : Int) (x2 : Int) (x3 : Int) (x4 : Int) (x5 : Int) (h : am_H) : am_call am_ms 12 [am_R x0, am_I x1, am_I x2, am_I x3, am_I x4, am_I x5] h = am_run am_ms 12 0 [am_R x0, am_I x1, am_I x2, am_I x3, am_I x4, am_I x5, am_K 1] [] h := rfl
set_option maxHeartbeats 4000000 in
theorem bk_12_26 (x0 : Nat) (x1 : Int) (x2 : Int) (x3 : Int) (x4 : Int) (x5 : Int) (y0 : Int) (h : am_H) : am_run am_ms 12 26 [am_R x0, am_I x1, am_I x2, am_I x3, am_I x4, am_I x5, am_K 1] [am_I y0] h = ((am_gfR h x0 8 0).bind fun f1 => ((am_gfI h f1 6 1).bind fun f2 => (bif decide ((am_w (f2 + y0)) ≤ 240) then am_run am_ms 12 46 [am_R x0, am_I x1, am_I x2, am_I x3, am_I x4, am_I x5, am_I y0] [] h else some (some (am_I (-1)), h)))) :=
  (am_xs_run am_ms 12 [(.istore 6, 2, []), (.aload_n 0, 1, []), (.getfield 10, 3, [8, 0, 2037, 3]), (.getfield 76, 3, [6, 1, 1040, 0]), (.iload 6, 2, []), (.iadd, 1, []), (.sipush 240, 3, []), (.if_icmp .le 5, 3, []), (.iconst (-1), 1, []), (.ireturn, 1, [0])] 26 _ _ h (by decide +kernel)).trans rfl
set_option maxHeartbeats 4000000 in
theorem bk_12_46 (x0 : Nat) (x1 : Int) (x2 : Int) (x3 : Int) (x4 : Int) (x5 : Int) (x6 : Int) (h : am_H) : am_run am_ms 12 46 [am_R x0, am_I x1, am_I x2, am_I x3, am_I x4, am_I x5, am_I x6] [] h = ((am_gfR h x0 8 0).bind fun f1 => ((am_isc h f1 6).bind fun _ => ((am_cV 11 [am_R f1, am_I x1] h).bind fun h2 => ((am_gfR h2 x0 8 0).bind fun f3 => ((am_isc h2 f3 6).bind fun _ => ((am_cV 11 [am_R f3, am_I x2] h2).bind fun h4 => ((am_gfR h4 x0 8 0).bind fun f5 => ((am_isc h4 f5 6).bind fun _ => ((am_cV 11 [am_R f5, am_I x3] h4).bind fun h6 => ((am_gfR h6 x0 8 0).bind fun f7 => am_run am_ms 12 74 [am_R x0, am_I x1, am_I x2, am_I x3, am_I x4, am_I x5, am_I x6] [am_R f7] h6)))))))))) :=
  (am_xs_run am_ms 12 [(.aload_n 0, 1, []), (.getfield 10, 3, [8, 0, 2037, 3]), (.iload_n 1, 1, []), (.invokevirtual 80, 3, [0, 11, 2, 6, 0, 2081, 2082, 2083]), (.aload_n 0, 1, []), (.getfield 10, 3, [8, 0, 2037, 3]), (.iload_n 2, 1, []), (.invokevirtual 80, 3, [0, 11, 2, 6, 0, 2081, 2082, 2083]), (.aload_n 0, 1, []), (.getfield 10, 3, [8, 0, 2037, 3]), (.iload_n 3, 1, []), (.invokevirtual 80, 3, [0, 11, 2, 6, 0, 2081, 2082, 2083]), (.aload_n 0, 1, []), (.getfield 10, 3, [8, 0, 2037, 3])] 46 _ _ h (by decide +kernel)).trans rfl
set_option maxHeartbeats 4000000 in
theorem bk_12_74 (x0 : Nat) (x1 : Int) (x2 : Int) (x3 : Int) (x4 : Int) (x5 : Int) (x6 : Int) (y0 : Nat) (h : am_H) : am_run am_ms 12 74 [am_R x0, am_I x1, am_I x2, am_I x3, am_I x4, am_I x5, am_I x6] [am_R y0] h = ((am_isc h y0 6).bind fun _ => ((am_cV 11 [am_R y0, am_I x4] h).bind fun h1 => ((am_gfR h1 x0 8 0).bind fun f2 => ((am_isc h1 f2 6).bind fun _ => ((am_cV 11 [am_R f2, am_I x5] h1).bind fun h3 => ((am_gfR h3 x0 8 0).bind fun f4 => ((am_gfI h3 f4 6 1).bind fun f5 => some (some (am_I f5), h3)))))))) :=
  (am_xs_run am_ms 12 [(.iload 4, 2, []), (.invokevirtual 80, 3, [0, 11, 2, 6, 0, 2081, 2082, 2083]), (.aload_n 0, 1, []), (.getfield 10, 3, [8, 0, 2037, 3]), (.iload 5, 2, []), (.invokevirtual 80, 3, [0, 11, 2, 6, 0, 2081, 2082, 2083]), (.aload_n 0, 1, []), (.getfield 10, 3, [8, 0, 2037, 3]), (.getfield 76, 3, [6, 1, 1040, 0]), (.ireturn, 1, [0])] 74 _ _ h (by decide +kernel)).trans rfl
set_option maxHeartbeats 4000000 in
theorem bk_13_0 (x0 : Int) (h : am_H) : am_run am_ms 13 0 [am_I x0, am_K 1, am_K 1] [] h = am_run am_ms 13 4 [am_I x0, am_I 0, am_I 0] [] h :=
  (am_xs_run am_ms 13 [(.iconst 0, 1, []), (.istore_n 1, 1, []), (.iconst 0, 1, []), (.istore_n 2, 1, [])] 0 _ _ h (by decide +kernel)).trans rfl
theorem en_13 (x0 : Int) (h : am_H) : am_call am_ms 13 [am_I x0] h = am_run am_ms 13 0 [am_I x0, am_K 1, am_K 1] [] h := rfl
set_option maxHeartbeats 4000000 in
theorem bk_13_4 (x0 : Int) (x1 : Int) (x2 : Int) (h : am_H) : am_run am_ms 13 4 [am_I x0, am_I x1, am_I x2] [] h = (bif decide (4 ≤ x2) then am_run am_ms 13 36 [am_I x0, am_I x1, am_I x2] [] h else (bif decide (¬ (am_and (am_shr x0 (am_w (8 * x2))) 255) = 0) then am_run am_ms 13 27 [am_I x0, am_I x1, am_I x2] [am_I x1] h else am_run am_ms 13 28 [am_I x0, am_I x1, am_I x2] [am_I 0, am_I x1] h)) :=
  (am_xs_run am_ms 13 [(.iload_n 2, 1, []), (.iconst 4, 1, []), (.if_icmp .ge 30, 3, []), (.iload_n 1, 1, []), (.iload_n 0, 1, []), (.bipush 8, 2, []), (.iload_n 2, 1, []), (.imul, 1, []), (.ishr, 1, []), (.sipush 255, 3, []), (.iand, 1, []), (.ifCond .ne 7, 3, []), (.iconst 0, 1, []), (.goto 4, 3, [])] 4 _ _ h (by decide +kernel)).trans rfl
set_option maxHeartbeats 4000000 in
theorem bk_13_27 (x0 : Int) (x1 : Int) (x2 : Int) (y0 : Int) (h : am_H) : am_run am_ms 13 27 [am_I x0, am_I x1, am_I x2] [am_I y0] h = am_run am_ms 13 28 [am_I x0, am_I x1, am_I x2] [am_I 1, am_I y0] h :=
  (am_xs_run am_ms 13 [(.iconst 1, 1, [])] 27 _ _ h (by decide +kernel)).trans rfl
set_option maxHeartbeats 4000000 in
theorem bk_13_28 (x0 : Int) (x1 : Int) (x2 : Int) (y0 : Int) (y1 : Int) (h : am_H) : am_run am_ms 13 28 [am_I x0, am_I x1, am_I x2] [am_I y0, am_I y1] h = am_run am_ms 13 4 [am_I x0, am_I (am_w (y1 + y0)), am_I (am_w (x2 + 1))] [] h :=
  (am_xs_run am_ms 13 [(.iadd, 1, []), (.istore_n 1, 1, []), (.iinc 2 1, 3, []), (.goto (-29), 3, [])] 28 _ _ h (by decide +kernel)).trans rfl
set_option maxHeartbeats 4000000 in
theorem bk_13_36 (x0 : Int) (x1 : Int) (x2 : Int) (h : am_H) : am_run am_ms 13 36 [am_I x0, am_I x1, am_I x2] [] h = some (some (am_I x1), h) :=
  (am_xs_run am_ms 13 [(.iload_n 1, 1, []), (.ireturn, 1, [0])] 36 _ _ h (by decide +kernel)).trans rfl
set_option maxHeartbeats 4000000 in
theorem bk_14_0 (x0 : Nat) (x1 : Int) (h : am_H) : am_run am_ms 14 0 [am_R x0, am_I x1, am_K 1, am_K 1] [] h = am_run am_ms 14 3 [am_R x0, am_I x1, am_I 24, am_K 1] [] h :=
  (am_xs_run am_ms 14 [(.bipush 24, 2, []), (.istore_n 2, 1, [])] 0 _ _ h (by decide +kernel)).trans rfl
theorem en_14 (x0 : Nat) (x1 : Int) (h : am_H) : am_call am_ms 14 [am_R x0, am_I x1] h = am_run am_ms 14 0 [am_R x0, am_I x1, am_K 1, am_K 1] [] h := rfl
set_option maxHeartbeats 4000000 in
theorem bk_14_3 (x0 : Nat) (x1 : Int) (x2 : Int) (x3 : am_V) (h : am_H) : am_run am_ms 14 3 [am_R x0, am_I x1, am_I x2, x3] [] h = (bif decide (x2 < 0) then am_run am_ms 14 49 [am_R x0, am_I x1, am_I x2, x3] [] h else (bif decide (¬ (am_and (am_shr x1 x2) 255) = 0) then am_run am_ms 14 22 [am_R x0, am_I x1, am_I x2, am_I (am_and (am_shr x1 x2) 255)] [] h else am_run am_ms 14 43 [am_R x0, am_I x1, am_I x2, am_I (am_and (am_shr x1 x2) 255)] [] h)) :=
  (am_xs_run am_ms 14 [(.iload_n 2, 1, []), (.ifCond .lt 45, 3, []), (.iload_n 1, 1, []), (.iload_n 2, 1, []), (.ishr, 1, []), (.sipush 255, 3, []), (.iand, 1, []), (.istore_n 3, 1, []), (.iload_n 3, 1, []), (.ifCond .ne 6, 3, []), (.goto 24, 3, [])] 3 _ _ h (by decide +kernel)).trans rfl
set_option maxHeartbeats 4000000 in
theorem bk_14_22 (x0 : Nat) (x1 : Int) (x2 : Int) (x3 : Int) (h : am_H) : am_run am_ms 14 22 [am_R x0, am_I x1, am_I x2, am_I x3] [] h = ((am_gfR h x0 9 1).bind fun f1 => ((am_gfI h x0 9 2).bind fun f2 => ((am_wr h f1 1 f2 (am_i2b (am_i2b x3))).bind fun h3 => ((am_gfI h3 x0 9 2).bind fun f4 => ((am_pf h3 x0 9 2 (am_I (am_w (f4 + 1)))).bind fun h5 => am_run am_ms 14 43 [am_R x0, am_I x1, am_I x2, am_I x3] [] h5))))) :=
  (am_xs_run am_ms 14 [(.aload_n 0, 1, []), (.getfield 9, 3, [9, 1, 5184, 3]), (.aload_n 0, 1, []), (.getfield 57, 3, [9, 2, 5185, 0]), (.iload_n 3, 1, []), (.i2b, 1, []), (.bastore, 1, []), (.aload_n 0, 1, []), (.dup, 1, []), (.getfield 57, 3, [9, 2, 5185, 0]), (.iconst 1, 1, []), (.iadd, 1, []), (.putfield 57, 3, [9, 2, 5185, 0])] 22 _ _ h (by decide +kernel)).trans rfl
set_option maxHeartbeats 4000000 in
theorem bk_14_43 (x0 : Nat) (x1 : Int) (x2 : Int) (x3 : Int) (h : am_H) : am_run am_ms 14 43 [am_R x0, am_I x1, am_I x2, am_I x3] [] h = am_run am_ms 14 3 [am_R x0, am_I x1, am_I (am_w (x2 + (-8))), am_I x3] [] h :=
  (am_xs_run am_ms 14 [(.iinc 2 (-8), 3, []), (.goto (-43), 3, [])] 43 _ _ h (by decide +kernel)).trans rfl
set_option maxHeartbeats 4000000 in
theorem bk_14_49 (x0 : Nat) (x1 : Int) (x2 : Int) (x3 : am_V) (h : am_H) : am_run am_ms 14 49 [am_R x0, am_I x1, am_I x2, x3] [] h = some (none, h) :=
  (am_xs_run am_ms 14 [(.return_, 1, [])] 49 _ _ h (by decide +kernel)).trans rfl
set_option maxHeartbeats 4000000 in
theorem bk_15_0 (x0 : Nat) (x1 : Int) (x2 : Int) (x3 : Int) (x4 : Int) (x5 : Int) (h : am_H) : am_run am_ms 15 0 [am_R x0, am_I x1, am_I x2, am_I x3, am_I x4, am_I x5] [] h = ((am_pf h x0 9 0 (am_I 0)).bind fun h1 => ((am_gfI h1 x0 9 2).bind fun f2 => ((am_cI 13 [am_I x1] h1).bind fun r3 => ((am_cI 13 [am_I x2] r3.2).bind fun r4 => ((am_cI 13 [am_I x3] r4.2).bind fun r5 => am_run am_ms 15 24 [am_R x0, am_I x1, am_I x2, am_I x3, am_I x4, am_I x5] [am_I (am_w ((am_w ((am_w (f2 + r3.1)) + r4.1)) + r5.1))] r5.2))))) :=
  (am_xs_run am_ms 15 [(.aload_n 0, 1, []), (.iconst 0, 1, []), (.putfield 53, 3, [9, 0, 5183, 0]), (.aload_n 0, 1, []), (.getfield 57, 3, [9, 2, 5185, 0]), (.iload_n 1, 1, []), (.invokestatic 60, 3, [1, 13, 1, 0, 1, 6045, 6046]), (.iadd, 1, []), (.iload_n 2, 1, []), (.invokestatic 60, 3, [1, 13, 1, 0, 1, 6045, 6046]), (.iadd, 1, []), (.iload_n 3, 1, []), (.invokestatic 60, 3, [1, 13, 1, 0, 1, 6045, 6046]), (.iadd, 1, [])] 0 _ _ h (by decide +kernel)).trans rfl
theorem en_15 (x0 : Nat) (x1 : Int) (x2 : Int) (x3 : Int) (x4 : Int) (x5 : Int) (h : am_H) : am_call am_ms 15 [am_R x0, am_I x1, am_I x2, am_I x3, am_I x4, am_I x5] h = am_run am_ms 15 0 [am_R x0, am_I x1, am_I x2, am_I x3, am_I x4, am_I x5] [] h := rfl
set_option maxHeartbeats 4000000 in
theorem bk_15_24 (x0 : Nat) (x1 : Int) (x2 : Int) (x3 : Int) (x4 : Int) (x5 : Int) (y0 : Int) (h : am_H) : am_run am_ms 15 24 [am_R x0, am_I x1, am_I x2, am_I x3, am_I x4, am_I x5] [am_I y0] h = ((am_cI 13 [am_I x4] h).bind fun r1 => ((am_cI 13 [am_I x5] r1.2).bind fun r2 => (bif decide ((am_w ((am_w (y0 + r1.1)) + r2.1)) ≤ 240) then am_run am_ms 15 44 [am_R x0, am_I x1, am_I x2, am_I x3, am_I x4, am_I x5] [] r2.2 else some (some (am_I (-1)), r2.2)))) :=
  (am_xs_run am_ms 15 [(.iload 4, 2, []), (.invokestatic 60, 3, [1, 13, 1, 0, 1, 6045, 6046]), (.iadd, 1, []), (.iload 5, 2, []), (.invokestatic 60, 3, [1, 13, 1, 0, 1, 6045, 6046]), (.iadd, 1, []), (.sipush 240, 3, []), (.if_icmp .le 5, 3, []), (.iconst (-1), 1, []), (.ireturn, 1, [0])] 24 _ _ h (by decide +kernel)).trans rfl
set_option maxHeartbeats 4000000 in
theorem bk_15_44 (x0 : Nat) (x1 : Int) (x2 : Int) (x3 : Int) (x4 : Int) (x5 : Int) (h : am_H) : am_run am_ms 15 44 [am_R x0, am_I x1, am_I x2, am_I x3, am_I x4, am_I x5] [] h = ((am_isc h x0 9).bind fun _ => ((am_cV 14 [am_R x0, am_I x1] h).bind fun h1 => ((am_isc h1 x0 9).bind fun _ => ((am_cV 14 [am_R x0, am_I x2] h1).bind fun h2 => ((am_isc h2 x0 9).bind fun _ => ((am_cV 14 [am_R x0, am_I x3] h2).bind fun h3 => ((am_isc h3 x0 9).bind fun _ => ((am_cV 14 [am_R x0, am_I x4] h3).bind fun h4 => am_run am_ms 15 68 [am_R x0, am_I x1, am_I x2, am_I x3, am_I x4, am_I x5] [am_I x5, am_R x0] h4)))))))) :=
  (am_xs_run am_ms 15 [(.aload_n 0, 1, []), (.iload_n 1, 1, []), (.invokevirtual 64, 3, [0, 14, 2, 9, 0, 6048, 6050, 37]), (.aload_n 0, 1, []), (.iload_n 2, 1, []), (.invokevirtual 64, 3, [0, 14, 2, 9, 0, 6048, 6050, 37]), (.aload_n 0, 1, []), (.iload_n 3, 1, []), (.invokevirtual 64, 3, [0, 14, 2, 9, 0, 6048, 6050, 37]), (.aload_n 0, 1, []), (.iload 4, 2, []), (.invokevirtual 64, 3, [0, 14, 2, 9, 0, 6048, 6050, 37]), (.aload_n 0, 1, []), (.iload 5, 2, [])] 44 _ _ h (by decide +kernel)).trans rfl
set_option maxHeartbeats 4000000 in
theorem bk_15_68 (x0 : Nat) (x1 : Int) (x2 : Int) (x3 : Int) (x4 : Int) (x5 : Int) (y0 : Int) (y1 : Nat) (h : am_H) : am_run am_ms 15 68 [am_R x0, am_I x1, am_I x2, am_I x3, am_I x4, am_I x5] [am_I y0, am_R y1] h = ((am_isc h y1 9).bind fun _ => ((am_cV 14 [am_R y1, am_I y0] h).bind fun h1 => ((am_gfI h1 x0 9 2).bind fun f2 => some (some (am_I f2), h1)))) :=
  (am_xs_run am_ms 15 [(.invokevirtual 64, 3, [0, 14, 2, 9, 0, 6048, 6050, 37]), (.aload_n 0, 1, []), (.getfield 57, 3, [9, 2, 5185, 0]), (.ireturn, 1, [0])] 68 _ _ h (by decide +kernel)).trans rfl
set_option maxHeartbeats 4000000 in
theorem bk_16_0 (x0 : Nat) (x1 : Int) (h : am_H) : am_run am_ms 16 0 [am_R x0, am_I x1] [] h = (bif decide (x1 < 0) then am_run am_ms 16 15 [am_R x0, am_I x1] [] h else ((am_gfR h x0 8 0).bind fun f1 => ((am_gfI h f1 6 1).bind fun f2 => (bif decide (x1 ≤ f2) then am_run am_ms 16 17 [am_R x0, am_I x1] [] h else am_run am_ms 16 15 [am_R x0, am_I x1] [] h)))) :=
  (am_xs_run am_ms 16 [(.iload_n 1, 1, []), (.ifCond .lt 14, 3, []), (.iload_n 1, 1, []), (.aload_n 0, 1, []), (.getfield 10, 3, [8, 0, 2037, 3]), (.getfield 76, 3, [6, 1, 1040, 0]), (.if_icmp .le 5, 3, [])] 0 _ _ h (by decide +kernel)).trans rfl
theorem en_16 (x0 : Nat) (x1 : Int) (h : am_H) : am_call am_ms 16 [am_R x0, am_I x1] h = am_run am_ms 16 0 [am_R x0, am_I x1] [] h := rfl
set_option maxHeartbeats 4000000 in
theorem bk_16_15 (x0 : Nat) (x1 : Int) (h : am_H) : am_run am_ms 16 15 [am_R x0, am_I x1] [] h = some (some (am_I 0), h) :=
  (am_xs_run am_ms 16 [(.iconst 0, 1, []), (.ireturn, 1, [1])] 15 _ _ h (by decide +kernel)).trans rfl
set_option maxHeartbeats 4000000 in
theorem bk_16_17 (x0 : Nat) (x1 : Int) (h : am_H) : am_run am_ms 16 17 [am_R x0, am_I x1] [] h = ((am_gfR h x0 8 0).bind fun f1 => ((am_pf h f1 6 1 (am_I x1)).bind fun h2 => some (some (am_I 1), h2))) :=
  (am_xs_run am_ms 16 [(.aload_n 0, 1, []), (.getfield 10, 3, [8, 0, 2037, 3]), (.iload_n 1, 1, []), (.putfield 76, 3, [6, 1, 1040, 0]), (.iconst 1, 1, []), (.ireturn, 1, [1])] 17 _ _ h (by decide +kernel)).trans rfl
set_option maxHeartbeats 4000000 in
theorem bk_17_0 (x0 : Nat) (x1 : Int) (h : am_H) : am_run am_ms 17 0 [am_R x0, am_I x1] [] h = ((am_pf h x0 9 0 (am_I 0)).bind fun h1 => (bif decide (x1 < 0) then am_run am_ms 17 17 [am_R x0, am_I x1] [] h1 else ((am_gfI h1 x0 9 2).bind fun f2 => (bif decide (x1 ≤ f2) then am_run am_ms 17 19 [am_R x0, am_I x1] [] h1 else am_run am_ms 17 17 [am_R x0, am_I x1] [] h1)))) :=
  (am_xs_run am_ms 17 [(.aload_n 0, 1, []), (.iconst 0, 1, []), (.putfield 53, 3, [9, 0, 5183, 0]), (.iload_n 1, 1, []), (.ifCond .lt 11, 3, []), (.iload_n 1, 1, []), (.aload_n 0, 1, []), (.getfield 57, 3, [9, 2, 5185, 0]), (.if_icmp .le 5, 3, [])] 0 _ _ h (by decide +kernel)).trans rfl
theorem en_17 (x0 : Nat) (x1 : Int) (h : am_H) : am_call am_ms 17 [am_R x0, am_I x1] h = am_run am_ms 17 0 [am_R x0, am_I x1] [] h := rfl
set_option maxHeartbeats 4000000 in
theorem bk_17_17 (x0 : Nat) (x1 : Int) (h : am_H) : am_run am_ms 17 17 [am_R x0, am_I x1] [] h = some (some (am_I 0), h) :=
  (am_xs_run am_ms 17 [(.iconst 0, 1, []), (.ireturn, 1, [1])] 17 _ _ h (by decide +kernel)).trans rfl
set_option maxHeartbeats 4000000 in
theorem bk_17_19 (x0 : Nat) (x1 : Int) (h : am_H) : am_run am_ms 17 19 [am_R x0, am_I x1] [] h = ((am_pf h x0 9 2 (am_I x1)).bind fun h1 => some (some (am_I 1), h1)) :=
  (am_xs_run am_ms 17 [(.aload_n 0, 1, []), (.iload_n 1, 1, []), (.putfield 57, 3, [9, 2, 5185, 0]), (.iconst 1, 1, []), (.ireturn, 1, [1])] 19 _ _ h (by decide +kernel)).trans rfl
set_option maxHeartbeats 4000000 in
theorem bk_18_0 (x0 : Nat) (h : am_H) : am_run am_ms 18 0 [am_R x0] [] h = ((am_gfI h x0 4 8).bind fun f1 => ((am_gfR h x0 4 5).bind fun f2 => ((am_gfI h f2 6 1).bind fun f3 => (bif decide (f3 ≤ f1) then am_run am_ms 18 44 [am_R x0] [] h else ((am_gfR h x0 4 5).bind fun f4 => ((am_gfR h f4 6 0).bind fun f5 => ((am_gfI h x0 4 8).bind fun f6 => ((am_rd h f5 0 f6).bind fun v7 => (bif decide (¬ v7 = 32) then am_run am_ms 18 44 [am_R x0] [] h else am_run am_ms 18 31 [am_R x0] [] h))))))))) :=
  (am_xs_run am_ms 18 [(.aload_n 0, 1, []), (.getfield 35, 3, [4, 8, 1092, 0]), (.aload_n 0, 1, []), (.getfield 31, 3, [4, 5, 1089, 3]), (.getfield 131, 3, [6, 1, 1042, 0]), (.if_icmp .ge 33, 3, []), (.aload_n 0, 1, []), (.getfield 31, 3, [4, 5, 1089, 3]), (.getfield 126, 3, [6, 0, 1039, 3]), (.aload_n 0, 1, []), (.getfield 35, 3, [4, 8, 1092, 0]), (.iaload, 1, []), (.bipush 32, 2, []), (.if_icmp .ne 16, 3, [])] 0 _ _ h (by decide +kernel)).trans rfl
theorem en_18 (x0 : Nat) (h : am_H) : am_call am_ms 18 [am_R x0] h = am_run am_ms 18 0 [am_R x0] [] h := rfl
set_option maxHeartbeats 4000000 in
theorem bk_18_31 (x0 : Nat) (h : am_H) : am_run am_ms 18 31 [am_R x0] [] h = ((am_gfI h x0 4 8).bind fun f1 => ((am_pf h x0 4 8 (am_I (am_w (f1 + 1)))).bind fun h2 => am_run am_ms 18 0 [am_R x0] [] h2)) :=
  (am_xs_run am_ms 18 [(.aload_n 0, 1, []), (.dup, 1, []), (.getfield 35, 3, [4, 8, 1092, 0]), (.iconst 1, 1, []), (.iadd, 1, []), (.putfield 35, 3, [4, 8, 1092, 0]), (.goto (-41), 3, [])] 31 _ _ h (by decide +kernel)).trans rfl
set_option maxHeartbeats 4000000 in
theorem bk_18_44 (x0 : Nat) (h : am_H) : am_run am_ms 18 44 [am_R x0] [] h = ((am_gfI h x0 4 8).bind fun f1 => ((am_gfR h x0 4 5).bind fun f2 => ((am_gfI h f2 6 1).bind fun f3 => (bif decide (f3 ≤ f1) then am_run am_ms 18 73 [am_R x0] [] h else ((am_gfR h x0 4 5).bind fun f4 => ((am_gfR h f4 6 0).bind fun f5 => ((am_gfI h x0 4 8).bind fun f6 => ((am_rd h f5 0 f6).bind fun v7 => am_run am_ms 18 74 [am_R x0] [am_I v7] h)))))))) :=
  (am_xs_run am_ms 18 [(.aload_n 0, 1, []), (.getfield 35, 3, [4, 8, 1092, 0]), (.aload_n 0, 1, []), (.getfield 31, 3, [4, 5, 1089, 3]), (.getfield 131, 3, [6, 1, 1042, 0]), (.if_icmp .ge 18, 3, []), (.aload_n 0, 1, []), (.getfield 31, 3, [4, 5, 1089, 3]), (.getfield 126, 3, [6, 0, 1039, 3]), (.aload_n 0, 1, []), (.getfield 35, 3, [4, 8, 1092, 0]), (.iaload, 1, []), (.goto 4, 3, [])] 44 _ _ h (by decide +kernel)).trans rfl
set_option maxHeartbeats 4000000 in
theorem bk_18_73 (x0 : Nat) (h : am_H) : am_run am_ms 18 73 [am_R x0] [] h = am_run am_ms 18 74 [am_R x0] [am_I 0] h :=
  (am_xs_run am_ms 18 [(.iconst 0, 1, [])] 73 _ _ h (by decide +kernel)).trans rfl
set_option maxHeartbeats 4000000 in
theorem bk_18_74 (x0 : Nat) (y0 : Int) (h : am_H) : am_run am_ms 18 74 [am_R x0] [am_I y0] h = some (some (am_I y0), h) :=
  (am_xs_run am_ms 18 [(.ireturn, 1, [0])] 74 _ _ h (by decide +kernel)).trans rfl
set_option maxHeartbeats 4000000 in
theorem bk_19_0 (x0 : Nat) (h : am_H) : am_run am_ms 19 0 [am_K x0] [] h = (bif decide (1 = 0) then am_run am_ms 19 13 [am_K x0] [] h else (bif Nat.beq x0 1 then none else (bif am_istx x0 then am_run am_ms 19 14 [am_K x0] [am_I 0] h else none))) :=
  (am_xs_run am_ms 19 [(.getstatic 38, 3, [1, 1, 2127, 2128, 1012]), (.ifCond .eq 10, 3, []), (.aload_n 0, 1, []), (.getfield 15, 3, [99, 1, 8111, 0]), (.goto 4, 3, [])] 0 _ _ h (by decide +kernel)).trans rfl
theorem en_19 (x0 : Nat) (h : am_H) : am_call am_ms 19 [am_K x0] h = am_run am_ms 19 0 [am_K x0] [] h := rfl
set_option maxHeartbeats 4000000 in
theorem bk_19_13 (x0 : Nat) (h : am_H) : am_run am_ms 19 13 [am_K x0] [] h = am_run am_ms 19 14 [am_K x0] [am_I 1] h :=
  (am_xs_run am_ms 19 [(.iconst 1, 1, [])] 13 _ _ h (by decide +kernel)).trans rfl
set_option maxHeartbeats 4000000 in
theorem bk_19_14 (x0 : Nat) (y0 : Int) (h : am_H) : am_run am_ms 19 14 [am_K x0] [am_I y0] h = (bif am_rok 3 y0 then some (some (am_I y0), h) else none) :=
  (am_xs_run am_ms 19 [(.ireturn, 1, [3])] 14 _ _ h (by decide +kernel)).trans rfl
set_option maxHeartbeats 4000000 in
theorem bk_20_0 (x0 : Nat) (h : am_H) : am_run am_ms 20 0 [am_K x0] [] h = (bif Nat.beq x0 1 then none else (bif am_istx x0 then ((am_lenk h (x0 + 16)).bind fun n1 => (bif Nat.beq x0 1 then none else (bif am_istx x0 then ((am_cI 19 [am_K x0] h).bind fun r2 => some (some (am_I (am_shr n1 r2.1)), r2.2)) else none))) else none)) :=
  (am_xs_run am_ms 20 [(.aload_n 0, 1, []), (.getfield 9, 3, [99, 0, 8110, 0]), (.arraylength, 1, []), (.aload_n 0, 1, []), (.invokevirtual 335, 3, [5, 19, 1, 0, 1, 2123, 2124, 2125]), (.ishr, 1, []), (.ireturn, 1, [0])] 0 _ _ h (by decide +kernel)).trans rfl
theorem en_20 (x0 : Nat) (h : am_H) : am_call am_ms 20 [am_K x0] h = am_run am_ms 20 0 [am_K x0] [] h := rfl
set_option maxHeartbeats 4000000 in
theorem bk_21_0 (x0 : Nat) (h : am_H) : am_run am_ms 21 0 [am_K x0] [] h = (bif decide (1 = 0) then am_run am_ms 21 17 [am_K x0] [] h else (bif Nat.beq x0 1 then none else (bif am_istx x0 then (bif decide (¬ 0 = 0) then am_run am_ms 21 17 [am_K x0] [] h else am_run am_ms 21 18 [am_K x0] [am_I 1] h) else none))) :=
  (am_xs_run am_ms 21 [(.getstatic 38, 3, [1, 1, 2127, 2128, 1012]), (.ifCond .eq 14, 3, []), (.aload_n 0, 1, []), (.getfield 15, 3, [99, 1, 8111, 0]), (.ifCond .ne 7, 3, []), (.iconst 1, 1, []), (.goto 4, 3, [])] 0 _ _ h (by decide +kernel)).trans rfl
theorem en_21 (x0 : Nat) (h : am_H) : am_call am_ms 21 [am_K x0] h = am_run am_ms 21 0 [am_K x0] [] h := rfl
set_option maxHeartbeats 4000000 in
theorem bk_21_17 (x0 : Nat) (h : am_H) : am_run am_ms 21 17 [am_K x0] [] h = am_run am_ms 21 18 [am_K x0] [am_I 0] h :=
  (am_xs_run am_ms 21 [(.iconst 0, 1, [])] 17 _ _ h (by decide +kernel)).trans rfl
set_option maxHeartbeats 4000000 in
theorem bk_21_18 (x0 : Nat) (y0 : Int) (h : am_H) : am_run am_ms 21 18 [am_K x0] [am_I y0] h = (bif am_rok 1 y0 then some (some (am_I y0), h) else none) :=
  (am_xs_run am_ms 21 [(.ireturn, 1, [1])] 18 _ _ h (by decide +kernel)).trans rfl
set_option maxHeartbeats 4000000 in
theorem bk_22_0 (x0 : Int) (h : am_H) : am_run am_ms 22 0 [am_I x0] [] h = (bif decide (x0 < 0) then am_run am_ms 22 15 [am_I x0] [] h else (bif decide (255 < x0) then am_run am_ms 22 15 [am_I x0] [] h else am_run am_ms 22 16 [am_I x0] [am_I 1] h)) :=
  (am_xs_run am_ms 22 [(.iload_n 0, 1, []), (.ifCond .lt 14, 3, []), (.iload_n 0, 1, []), (.sipush 255, 3, []), (.if_icmp .gt 7, 3, []), (.iconst 1, 1, []), (.goto 4, 3, [])] 0 _ _ h (by decide +kernel)).trans rfl
theorem en_22 (x0 : Int) (h : am_H) : am_call am_ms 22 [am_I x0] h = am_run am_ms 22 0 [am_I x0] [] h := rfl
set_option maxHeartbeats 4000000 in
theorem bk_22_15 (x0 : Int) (h : am_H) : am_run am_ms 22 15 [am_I x0] [] h = am_run am_ms 22 16 [am_I x0] [am_I 0] h :=
  (am_xs_run am_ms 22 [(.iconst 0, 1, [])] 15 _ _ h (by decide +kernel)).trans rfl
set_option maxHeartbeats 4000000 in
theorem bk_22_16 (x0 : Int) (y0 : Int) (h : am_H) : am_run am_ms 22 16 [am_I x0] [am_I y0] h = (bif am_rok 1 y0 then some (some (am_I y0), h) else none) :=
  (am_xs_run am_ms 22 [(.ireturn, 1, [1])] 16 _ _ h (by decide +kernel)).trans rfl
set_option maxHeartbeats 4000000 in
theorem bk_23_0 (x0 : Nat) (x1 : Int) (x2 : Int) (x3 : Int) (h : am_H) : am_run am_ms 23 0 [am_K x0, am_I x1, am_I x2, am_I x3, am_K 1, am_K 1] [] h = am_run am_ms 23 7 [am_K x0, am_I x1, am_I x2, am_I x3, am_I (am_i2b x1), am_I x2] [] h :=
  (am_xs_run am_ms 23 [(.iload_n 1, 1, []), (.i2b, 1, []), (.istore 4, 2, []), (.iload_n 2, 1, []), (.istore 5, 2, [])] 0 _ _ h (by decide +kernel)).trans rfl
theorem en_23 (x0 : Nat) (x1 : Int) (x2 : Int) (x3 : Int) (h : am_H) : am_call am_ms 23 [am_K x0, am_I x1, am_I x2, am_I x3] h = am_run am_ms 23 0 [am_K x0, am_I x1, am_I x2, am_I x3, am_K 1, am_K 1] [] h := rfl
set_option maxHeartbeats 4000000 in
theorem bk_23_7 (x0 : Nat) (x1 : Int) (x2 : Int) (x3 : Int) (x4 : Int) (x5 : Int) (h : am_H) : am_run am_ms 23 7 [am_K x0, am_I x1, am_I x2, am_I x3, am_I x4, am_I x5] [] h = (bif decide (x3 ≤ x5) then am_run am_ms 23 31 [am_K x0, am_I x1, am_I x2, am_I x3, am_I x4, am_I x5] [] h else (bif Nat.beq x0 1 then none else ((am_rk h x0 1 x5).bind fun v1 => (bif decide (¬ v1 = x4) then am_run am_ms 23 25 [am_K x0, am_I x1, am_I x2, am_I x3, am_I x4, am_I x5] [] h else some (some (am_I x5), h))))) :=
  (am_xs_run am_ms 23 [(.iload 5, 2, []), (.iload_n 3, 1, []), (.if_icmp .ge 21, 3, []), (.aload_n 0, 1, []), (.iload 5, 2, []), (.baload, 1, []), (.iload 4, 2, []), (.if_icmp .ne 6, 3, []), (.iload 5, 2, []), (.ireturn, 1, [0])] 7 _ _ h (by decide +kernel)).trans rfl
set_option maxHeartbeats 4000000 in
theorem bk_23_25 (x0 : Nat) (x1 : Int) (x2 : Int) (x3 : Int) (x4 : Int) (x5 : Int) (h : am_H) : am_run am_ms 23 25 [am_K x0, am_I x1, am_I x2, am_I x3, am_I x4, am_I x5] [] h = am_run am_ms 23 7 [am_K x0, am_I x1, am_I x2, am_I x3, am_I x4, am_I (am_w (x5 + 1))] [] h :=
  (am_xs_run am_ms 23 [(.iinc 5 1, 3, []), (.goto (-21), 3, [])] 25 _ _ h (by decide +kernel)).trans rfl
set_option maxHeartbeats 4000000 in
theorem bk_23_31 (x0 : Nat) (x1 : Int) (x2 : Int) (x3 : Int) (x4 : Int) (x5 : Int) (h : am_H) : am_run am_ms 23 31 [am_K x0, am_I x1, am_I x2, am_I x3, am_I x4, am_I x5] [] h = some (some (am_I (-1)), h) :=
  (am_xs_run am_ms 23 [(.iconst (-1), 1, []), (.ireturn, 1, [0])] 31 _ _ h (by decide +kernel)).trans rfl
set_option maxHeartbeats 4000000 in
theorem bk_24_0 (x0 : Nat) (x1 : Int) (x2 : Int) (x3 : Int) (h : am_H) : am_run am_ms 24 0 [am_K x0, am_I x1, am_I x2, am_I x3] [] h = ((am_cI 22 [am_I x1] h).bind fun r1 => (bif decide (¬ r1.1 = 0) then am_run am_ms 24 9 [am_K x0, am_I x1, am_I x2, am_I x3] [] r1.2 else some (some (am_I (-1)), r1.2))) :=
  (am_xs_run am_ms 24 [(.iload_n 1, 1, []), (.invokestatic 88, 3, [1, 22, 1, 0, 1, 2145, 2146]), (.ifCond .ne 5, 3, []), (.iconst (-1), 1, []), (.ireturn, 1, [0])] 0 _ _ h (by decide +kernel)).trans rfl
theorem en_24 (x0 : Nat) (x1 : Int) (x2 : Int) (x3 : Int) (h : am_H) : am_call am_ms 24 [am_K x0, am_I x1, am_I x2, am_I x3] h = am_run am_ms 24 0 [am_K x0, am_I x1, am_I x2, am_I x3] [] h := rfl
set_option maxHeartbeats 4000000 in
theorem bk_24_9 (x0 : Nat) (x1 : Int) (x2 : Int) (x3 : Int) (h : am_H) : am_run am_ms 24 9 [am_K x0, am_I x1, am_I x2, am_I x3] [] h = (bif Nat.beq x0 1 then none else ((am_lenk h x0).bind fun n1 => (bif decide ((am_max x2 0) < (am_min x3 n1)) then am_run am_ms 24 29 [am_K x0, am_I x1, am_I (am_max x2 0), am_I (am_min x3 n1)] [] h else some (some (am_I (-1)), h)))) :=
  (am_xs_run am_ms 24 [(.iload_n 2, 1, []), (.iconst 0, 1, []), (.invokestatic 92, 3, [12, 0, 2, 0, 1, 2148, 2149, 1014, 2150]), (.istore_n 2, 1, []), (.iload_n 3, 1, []), (.aload_n 0, 1, []), (.arraylength, 1, []), (.invokestatic 38, 3, [13, 0, 2, 0, 1, 2151, 2152, 1014, 2153]), (.istore_n 3, 1, []), (.iload_n 2, 1, []), (.iload_n 3, 1, []), (.if_icmp .lt 5, 3, []), (.iconst (-1), 1, []), (.ireturn, 1, [0])] 9 _ _ h (by decide +kernel)).trans rfl
set_option maxHeartbeats 4000000 in
theorem bk_24_29 (x0 : Nat) (x1 : Int) (x2 : Int) (x3 : Int) (h : am_H) : am_run am_ms 24 29 [am_K x0, am_I x1, am_I x2, am_I x3] [] h = (bif Nat.beq x0 1 then none else ((am_cI 23 [am_K x0, am_I x1, am_I x2, am_I x3] h).bind fun r1 => some (some (am_I r1.1), r1.2))) :=
  (am_xs_run am_ms 24 [(.aload_n 0, 1, []), (.iload_n 1, 1, []), (.iload_n 2, 1, []), (.iload_n 3, 1, []), (.invokestatic 95, 3, [1, 23, 4, 0, 1, 2154, 2155]), (.ireturn, 1, [0])] 29 _ _ h (by decide +kernel)).trans rfl
set_option maxHeartbeats 4000000 in
theorem bk_25_0 (x0 : Nat) (x1 : Int) (x2 : Int) (h : am_H) : am_run am_ms 25 0 [am_K x0, am_I x1, am_I x2] [] h = (bif Nat.beq x0 1 then none else (bif am_istx x0 then ((am_cI 21 [am_K x0] h).bind fun r1 => (bif decide (r1.1 = 0) then am_run am_ms 25 23 [am_K x0, am_I x1, am_I x2] [] r1.2 else (bif Nat.beq x0 1 then none else (bif am_istx x0 then (bif Nat.beq x0 1 then none else (bif am_istx x0 then ((am_cI 20 [am_K x0] r1.2).bind fun r2 => ((am_cI 24 [am_K (x0 + 16), am_I x1, am_I x2, am_I r2.1] r2.2).bind fun r3 => am_run am_ms 25 36 [am_K x0, am_I x1, am_I x2] [am_I r3.1] r3.2)) else none)) else none)))) else none)) :=
  (am_xs_run am_ms 25 [(.aload_n 0, 1, []), (.invokevirtual 492, 3, [5, 21, 1, 0, 1, 2137, 2138, 2139]), (.ifCond .eq 19, 3, []), (.aload_n 0, 1, []), (.getfield 9, 3, [99, 0, 8110, 0]), (.iload_n 1, 1, []), (.iload_n 2, 1, []), (.aload_n 0, 1, []), (.invokevirtual 505, 3, [5, 20, 1, 0, 1, 2141, 2120, 2121]), (.invokestatic 637, 3, [1, 24, 4, 0, 1, 2142, 2143]), (.goto 16, 3, [])] 0 _ _ h (by decide +kernel)).trans rfl
theorem en_25 (x0 : Nat) (x1 : Int) (x2 : Int) (h : am_H) : am_call am_ms 25 [am_K x0, am_I x1, am_I x2] h = am_run am_ms 25 0 [am_K x0, am_I x1, am_I x2] [] h := rfl
set_option maxHeartbeats 4000000 in
theorem bk_25_23 (x0 : Nat) (x1 : Int) (x2 : Int) (h : am_H) : am_run am_ms 25 23 [am_K x0, am_I x1, am_I x2] [] h = (bif Nat.beq x0 1 then none else (bif am_istx x0 then (bif Nat.beq x0 1 then none else (bif am_istx x0 then ((am_cI 20 [am_K x0] h).bind fun r1 => am_run am_ms 25 33 [am_K x0, am_I x1, am_I x2] [am_I r1.1, am_I x2, am_I x1, am_K (x0 + 16)] r1.2) else none)) else none)) :=
  (am_xs_run am_ms 25 [(.aload_n 0, 1, []), (.getfield 9, 3, [99, 0, 8110, 0]), (.iload_n 1, 1, []), (.iload_n 2, 1, []), (.aload_n 0, 1, []), (.invokevirtual 505, 3, [5, 20, 1, 0, 1, 2141, 2120, 2121])] 23 _ _ h (by decide +kernel)).trans rfl
set_option maxHeartbeats 4000000 in
theorem bk_25_36 (x0 : Nat) (x1 : Int) (x2 : Int) (y0 : Int) (h : am_H) : am_run am_ms 25 36 [am_K x0, am_I x1, am_I x2] [am_I y0] h = some (some (am_I y0), h) :=
  (am_xs_run am_ms 25 [(.ireturn, 1, [0])] 36 _ _ h (by decide +kernel)).trans rfl
set_option maxHeartbeats 4000000 in
theorem bk_26_0 (x0 : Nat) (x1 : Int) (h : am_H) : am_run am_ms 26 0 [am_K x0, am_I x1] [] h = (bif Nat.beq x0 1 then none else (bif am_istx x0 then ((am_cI 25 [am_K x0, am_I x1, am_I 0] h).bind fun r1 => some (some (am_I r1.1), r1.2)) else none)) :=
  (am_xs_run am_ms 26 [(.aload_n 0, 1, []), (.iload_n 1, 1, []), (.iconst 0, 1, []), (.invokevirtual 633, 3, [5, 25, 3, 0, 1, 2133, 2134, 2135]), (.ireturn, 1, [0])] 0 _ _ h (by decide +kernel)).trans rfl
theorem en_26 (x0 : Nat) (x1 : Int) (h : am_H) : am_call am_ms 26 [am_K x0, am_I x1] h = am_run am_ms 26 0 [am_K x0, am_I x1] [] h := rfl
set_option maxHeartbeats 4000000 in
theorem bk_27_0 (x0 : Nat) (h : am_H) : am_run am_ms 27 0 [am_R x0] [] h = ((am_gfI h x0 4 8).bind fun f1 => ((am_gfR h x0 4 5).bind fun f2 => ((am_gfI h f2 6 1).bind fun f3 => (bif decide (f3 ≤ f1) then am_run am_ms 27 52 [am_R x0] [] h else ((am_gfR h x0 4 5).bind fun f4 => ((am_gfR h f4 6 0).bind fun f5 => ((am_gfI h x0 4 8).bind fun f6 => ((am_rd h f5 0 f6).bind fun v7 => (bif decide (v7 < 48) then am_run am_ms 27 52 [am_R x0] [] h else am_run am_ms 27 31 [am_R x0] [] h))))))))) :=
  (am_xs_run am_ms 27 [(.aload_n 0, 1, []), (.getfield 35, 3, [4, 8, 1092, 0]), (.aload_n 0, 1, []), (.getfield 31, 3, [4, 5, 1089, 3]), (.getfield 131, 3, [6, 1, 1042, 0]), (.if_icmp .ge 41, 3, []), (.aload_n 0, 1, []), (.getfield 31, 3, [4, 5, 1089, 3]), (.getfield 126, 3, [6, 0, 1039, 3]), (.aload_n 0, 1, []), (.getfield 35, 3, [4, 8, 1092, 0]), (.iaload, 1, []), (.bipush 48, 2, []), (.if_icmp .lt 24, 3, [])] 0 _ _ h (by decide +kernel)).trans rfl
theorem en_27 (x0 : Nat) (h : am_H) : am_call am_ms 27 [am_R x0] h = am_run am_ms 27 0 [am_R x0] [] h := rfl
set_option maxHeartbeats 4000000 in
theorem bk_27_31 (x0 : Nat) (h : am_H) : am_run am_ms 27 31 [am_R x0] [] h = ((am_gfR h x0 4 5).bind fun f1 => ((am_gfR h f1 6 0).bind fun f2 => ((am_gfI h x0 4 8).bind fun f3 => ((am_rd h f2 0 f3).bind fun v4 => (bif decide (57 < v4) then am_run am_ms 27 52 [am_R x0] [] h else am_run am_ms 27 53 [am_R x0] [am_I 1] h))))) :=
  (am_xs_run am_ms 27 [(.aload_n 0, 1, []), (.getfield 31, 3, [4, 5, 1089, 3]), (.getfield 126, 3, [6, 0, 1039, 3]), (.aload_n 0, 1, []), (.getfield 35, 3, [4, 8, 1092, 0]), (.iaload, 1, []), (.bipush 57, 2, []), (.if_icmp .gt 7, 3, []), (.iconst 1, 1, []), (.goto 4, 3, [])] 31 _ _ h (by decide +kernel)).trans rfl
set_option maxHeartbeats 4000000 in
theorem bk_27_52 (x0 : Nat) (h : am_H) : am_run am_ms 27 52 [am_R x0] [] h = am_run am_ms 27 53 [am_R x0] [am_I 0] h :=
  (am_xs_run am_ms 27 [(.iconst 0, 1, [])] 52 _ _ h (by decide +kernel)).trans rfl
set_option maxHeartbeats 4000000 in
theorem bk_27_53 (x0 : Nat) (y0 : Int) (h : am_H) : am_run am_ms 27 53 [am_R x0] [am_I y0] h = (bif am_rok 1 y0 then some (some (am_I y0), h) else none) :=
  (am_xs_run am_ms 27 [(.ireturn, 1, [1])] 53 _ _ h (by decide +kernel)).trans rfl
set_option maxHeartbeats 4000000 in
theorem bk_28_0 (x0 : Nat) (x1 : Int) (x2 : Int) (h : am_H) : am_run am_ms 28 0 [am_R x0, am_I x1, am_I x2, am_K 1, am_K 1] [] h = ((am_isc h x0 4).bind fun _ => ((am_cI 18 [am_R x0] h).bind fun r1 => am_run am_ms 28 10 [am_R x0, am_I x1, am_I x2, am_I 0, am_I 0] [] r1.2)) :=
  (am_xs_run am_ms 28 [(.aload_n 0, 1, []), (.invokevirtual 69, 3, [0, 18, 1, 4, 1, 2106, 2108, 1]), (.pop, 1, []), (.iconst 0, 1, []), (.istore_n 3, 1, []), (.iconst 0, 1, []), (.istore 4, 2, [])] 0 _ _ h (by decide +kernel)).trans rfl
theorem en_28 (x0 : Nat) (x1 : Int) (x2 : Int) (h : am_H) : am_call am_ms 28 [am_R x0, am_I x1, am_I x2] h = am_run am_ms 28 0 [am_R x0, am_I x1, am_I x2, am_K 1, am_K 1] [] h := rfl
set_option maxHeartbeats 4000000 in
theorem bk_28_10 (x0 : Nat) (x1 : Int) (x2 : Int) (x3 : Int) (x4 : Int) (h : am_H) : am_run am_ms 28 10 [am_R x0, am_I x1, am_I x2, am_I x3, am_I x4] [] h = (bif decide (3 ≤ x4) then am_run am_ms 28 60 [am_R x0, am_I x1, am_I x2, am_I x3, am_I x4] [] h else ((am_isc h x0 4).bind fun _ => ((am_cI 27 [am_R x0] h).bind fun r1 => (bif decide (r1.1 = 0) then am_run am_ms 28 60 [am_R x0, am_I x1, am_I x2, am_I x3, am_I x4] [] r1.2 else ((am_gfR r1.2 x0 4 5).bind fun f2 => ((am_gfR r1.2 f2 6 0).bind fun f3 => ((am_gfI r1.2 x0 4 8).bind fun f4 => am_run am_ms 28 38 [am_R x0, am_I x1, am_I x2, am_I x3, am_I x4] [am_I f4, am_R f3, am_I (am_w (x3 * 10))] r1.2))))))) :=
  (am_xs_run am_ms 28 [(.iload 4, 2, []), (.iconst 3, 1, []), (.if_icmp .ge 47, 3, []), (.aload_n 0, 1, []), (.invokevirtual 123, 3, [0, 27, 1, 4, 1, 2210, 2212, 4]), (.ifCond .eq 40, 3, []), (.iload_n 3, 1, []), (.bipush 10, 2, []), (.imul, 1, []), (.aload_n 0, 1, []), (.getfield 31, 3, [4, 5, 1089, 3]), (.getfield 126, 3, [6, 0, 1039, 3]), (.aload_n 0, 1, []), (.getfield 35, 3, [4, 8, 1092, 0])] 10 _ _ h (by decide +kernel)).trans rfl
set_option maxHeartbeats 4000000 in
theorem bk_28_38 (x0 : Nat) (x1 : Int) (x2 : Int) (x3 : Int) (x4 : Int) (y0 : Int) (y1 : Nat) (y2 : Int) (h : am_H) : am_run am_ms 28 38 [am_R x0, am_I x1, am_I x2, am_I x3, am_I x4] [am_I y0, am_R y1, am_I y2] h = ((am_rd h y1 0 y0).bind fun v1 => ((am_gfI h x0 4 8).bind fun f2 => ((am_pf h x0 4 8 (am_I (am_w (f2 + 1)))).bind fun h3 => am_run am_ms 28 10 [am_R x0, am_I x1, am_I x2, am_I (am_w ((am_w (y2 + v1)) - 48)), am_I (am_w (x4 + 1))] [] h3))) :=
  (am_xs_run am_ms 28 [(.iaload, 1, []), (.iadd, 1, []), (.bipush 48, 2, []), (.isub, 1, []), (.istore_n 3, 1, []), (.aload_n 0, 1, []), (.dup, 1, []), (.getfield 35, 3, [4, 8, 1092, 0]), (.iconst 1, 1, []), (.iadd, 1, []), (.putfield 35, 3, [4, 8, 1092, 0]), (.iinc 4 1, 3, []), (.goto (-47), 3, [])] 38 _ _ h (by decide +kernel)).trans rfl
set_option maxHeartbeats 4000000 in
theorem bk_28_60 (x0 : Nat) (x1 : Int) (x2 : Int) (x3 : Int) (x4 : Int) (h : am_H) : am_run am_ms 28 60 [am_R x0, am_I x1, am_I x2, am_I x3, am_I x4] [] h = (bif decide (x4 = 0) then am_run am_ms 28 72 [am_R x0, am_I x1, am_I x2, am_I x3, am_I x4] [] h else ((am_isc h x0 4).bind fun _ => ((am_cI 27 [am_R x0] h).bind fun r1 => (bif decide (r1.1 = 0) then am_run am_ms 28 83 [am_R x0, am_I x1, am_I x2, am_I x3, am_I x4] [] r1.2 else am_run am_ms 28 72 [am_R x0, am_I x1, am_I x2, am_I x3, am_I x4] [] r1.2)))) :=
  (am_xs_run am_ms 28 [(.iload 4, 2, []), (.ifCond .eq 10, 3, []), (.aload_n 0, 1, []), (.invokevirtual 123, 3, [0, 27, 1, 4, 1, 2210, 2212, 4]), (.ifCond .eq 14, 3, [])] 60 _ _ h (by decide +kernel)).trans rfl
set_option maxHeartbeats 4000000 in
theorem bk_28_72 (x0 : Nat) (x1 : Int) (x2 : Int) (x3 : Int) (x4 : Int) (h : am_H) : am_run am_ms 28 72 [am_R x0, am_I x1, am_I x2, am_I x3, am_I x4] [] h = ((am_gfI h x0 4 8).bind fun f1 => ((am_pf h x0 4 9 (am_I f1)).bind fun h2 => am_run am_ms 28 103 [am_R x0, am_I x1, am_I x2, am_I x3, am_I x4] [] h2)) :=
  (am_xs_run am_ms 28 [(.aload_n 0, 1, []), (.aload_n 0, 1, []), (.getfield 35, 3, [4, 8, 1092, 0]), (.putfield 39, 3, [4, 9, 1093, 0]), (.goto 23, 3, [])] 72 _ _ h (by decide +kernel)).trans rfl
set_option maxHeartbeats 4000000 in
theorem bk_28_83 (x0 : Nat) (x1 : Int) (x2 : Int) (x3 : Int) (x4 : Int) (h : am_H) : am_run am_ms 28 83 [am_R x0, am_I x1, am_I x2, am_I x3, am_I x4] [] h = (bif decide (x3 < x1) then am_run am_ms 28 93 [am_R x0, am_I x1, am_I x2, am_I x3, am_I x4] [] h else (bif decide (x3 ≤ x2) then am_run am_ms 28 103 [am_R x0, am_I x1, am_I x2, am_I x3, am_I x4] [] h else am_run am_ms 28 93 [am_R x0, am_I x1, am_I x2, am_I x3, am_I x4] [] h)) :=
  (am_xs_run am_ms 28 [(.iload_n 3, 1, []), (.iload_n 1, 1, []), (.if_icmp .lt 8, 3, []), (.iload_n 3, 1, []), (.iload_n 2, 1, []), (.if_icmp .le 13, 3, [])] 83 _ _ h (by decide +kernel)).trans rfl
set_option maxHeartbeats 4000000 in
theorem bk_28_93 (x0 : Nat) (x1 : Int) (x2 : Int) (x3 : Int) (x4 : Int) (h : am_H) : am_run am_ms 28 93 [am_R x0, am_I x1, am_I x2, am_I x3, am_I x4] [] h = ((am_gfI h x0 4 8).bind fun f1 => ((am_pf h x0 4 9 (am_I (am_w (f1 - 1)))).bind fun h2 => am_run am_ms 28 103 [am_R x0, am_I x1, am_I x2, am_I x3, am_I x4] [] h2)) :=
  (am_xs_run am_ms 28 [(.aload_n 0, 1, []), (.aload_n 0, 1, []), (.getfield 35, 3, [4, 8, 1092, 0]), (.iconst 1, 1, []), (.isub, 1, []), (.putfield 39, 3, [4, 9, 1093, 0])] 93 _ _ h (by decide +kernel)).trans rfl
set_option maxHeartbeats 4000000 in
theorem bk_28_103 (x0 : Nat) (x1 : Int) (x2 : Int) (x3 : Int) (x4 : Int) (h : am_H) : am_run am_ms 28 103 [am_R x0, am_I x1, am_I x2, am_I x3, am_I x4] [] h = some (some (am_I x3), h) :=
  (am_xs_run am_ms 28 [(.iload_n 3, 1, []), (.ireturn, 1, [0])] 103 _ _ h (by decide +kernel)).trans rfl
set_option maxHeartbeats 4000000 in
theorem bk_29_0 (x0 : Nat) (x1 : Nat) (x2 : Nat) (x3 : Nat) (x4 : Nat) (h : am_H) : am_run am_ms 29 0 [am_R x0, am_K x1, am_K x2, am_K x3, am_R x4, am_K 1, am_K 1, am_K 1] [] h = am_run am_ms 29 6 [am_R x0, am_K x1, am_K x2, am_K x3, am_R x4, am_I 0, am_I 0, am_K 1] [] h :=
  (am_xs_run am_ms 29 [(.iconst 0, 1, []), (.istore 5, 2, []), (.iconst 0, 1, []), (.istore 6, 2, [])] 0 _ _ h (by decide +kernel)).trans rfl
theorem en_29 (x0 : Nat) (x1 : Nat) (x2 : Nat) (x3 : Nat) (x4 : Nat) (h : am_H) : am_call am_ms 29 [am_R x0, am_K x1, am_K x2, am_K x3, am_R x4] h = am_run am_ms 29 0 [am_R x0, am_K x1, am_K x2, am_K x3, am_R x4, am_K 1, am_K 1, am_K 1] [] h := rfl
set_option maxHeartbeats 4000000 in
theorem bk_29_6 (x0 : Nat) (x1 : Nat) (x2 : Nat) (x3 : Nat) (x4 : Nat) (x5 : Int) (x6 : Int) (x7 : am_V) (h : am_H) : am_run am_ms 29 6 [am_R x0, am_K x1, am_K x2, am_K x3, am_R x4, am_I x5, am_I x6, x7] [] h = (bif Nat.beq x1 1 then none else (bif am_istx x1 then ((am_cI 20 [am_K x1] h).bind fun r1 => (bif decide (r1.1 < x6) then am_run am_ms 29 110 [am_R x0, am_K x1, am_K x2, am_K x3, am_R x4, am_I x5, am_I x6, x7] [] r1.2 else (bif Nat.beq x1 1 then none else ((am_isc r1.2 x0 4).bind fun _ => ((am_cI 18 [am_R x0] r1.2).bind fun r2 => (bif am_istx x1 then ((am_cI 26 [am_K x1, am_I (am_i2c r2.1)] r2.2).bind fun r3 => (bif decide (r3.1 < 0) then am_run am_ms 29 39 [am_R x0, am_K x1, am_K x2, am_K x3, am_R x4, am_I x5, am_I x6, am_I r3.1] [] r3.2 else am_run am_ms 29 35 [am_R x0, am_K x1, am_K x2, am_K x3, am_R x4, am_I x5, am_I x6, am_I r3.1] [am_R x4, am_I r3.1] r3.2)) else none)))))) else none)) :=
  (am_xs_run am_ms 29 [(.iload 6, 2, []), (.aload_n 1, 1, []), (.invokevirtual 93, 3, [5, 20, 1, 0, 1, 2119, 2120, 2121]), (.if_icmp .gt 98, 3, []), (.aload_n 1, 1, []), (.aload_n 0, 1, []), (.invokevirtual 69, 3, [0, 18, 1, 4, 1, 2106, 2108, 1]), (.i2c, 1, []), (.invokevirtual 98, 3, [5, 26, 2, 0, 1, 2129, 2130, 2131]), (.istore 7, 2, []), (.iload 7, 2, []), (.ifCond .lt 11, 3, []), (.iload 7, 2, []), (.aload 4, 2, [])] 6 _ _ h (by decide +kernel)).trans rfl
set_option maxHeartbeats 4000000 in
theorem bk_29_35 (x0 : Nat) (x1 : Nat) (x2 : Nat) (x3 : Nat) (x4 : Nat) (x5 : Int) (x6 : Int) (x7 : Int) (y0 : Nat) (y1 : Int) (h : am_H) : am_run am_ms 29 35 [am_R x0, am_K x1, am_K x2, am_K x3, am_R x4, am_I x5, am_I x6, am_I x7] [am_R y0, am_I y1] h = ((am_len h y0).bind fun n1 => (bif decide (y1 < n1) then am_run am_ms 29 40 [am_R x0, am_K x1, am_K x2, am_K x3, am_R x4, am_I x5, am_I x6, am_I x7] [] h else am_run am_ms 29 39 [am_R x0, am_K x1, am_K x2, am_K x3, am_R x4, am_I x5, am_I x6, am_I x7] [] h)) :=
  (am_xs_run am_ms 29 [(.arraylength, 1, []), (.if_icmp .lt 4, 3, [])] 35 _ _ h (by decide +kernel)).trans rfl
set_option maxHeartbeats 4000000 in
theorem bk_29_39 (x0 : Nat) (x1 : Nat) (x2 : Nat) (x3 : Nat) (x4 : Nat) (x5 : Int) (x6 : Int) (x7 : Int) (h : am_H) : am_run am_ms 29 39 [am_R x0, am_K x1, am_K x2, am_K x3, am_R x4, am_I x5, am_I x6, am_I x7] [] h = some (none, h) :=
  (am_xs_run am_ms 29 [(.return_, 1, [])] 39 _ _ h (by decide +kernel)).trans rfl
set_option maxHeartbeats 4000000 in
theorem bk_29_40 (x0 : Nat) (x1 : Nat) (x2 : Nat) (x3 : Nat) (x4 : Nat) (x5 : Int) (x6 : Int) (x7 : Int) (h : am_H) : am_run am_ms 29 40 [am_R x0, am_K x1, am_K x2, am_K x3, am_R x4, am_I x5, am_I x6, am_I x7] [] h = (bif decide ((am_and (am_shr x5 x7) 1) = 0) then am_run am_ms 29 59 [am_R x0, am_K x1, am_K x2, am_K x3, am_R x4, am_I x5, am_I x6, am_I x7] [] h else ((am_gfI h x0 4 8).bind fun f1 => ((am_pf h x0 4 9 (am_I f1)).bind fun h2 => some (none, h2)))) :=
  (am_xs_run am_ms 29 [(.iload 5, 2, []), (.iload 7, 2, []), (.ishr, 1, []), (.iconst 1, 1, []), (.iand, 1, []), (.ifCond .eq 12, 3, []), (.aload_n 0, 1, []), (.aload_n 0, 1, []), (.getfield 35, 3, [4, 8, 1092, 0]), (.putfield 39, 3, [4, 9, 1093, 0]), (.return_, 1, [])] 40 _ _ h (by decide +kernel)).trans rfl
set_option maxHeartbeats 4000000 in
theorem bk_29_59 (x0 : Nat) (x1 : Nat) (x2 : Nat) (x3 : Nat) (x4 : Nat) (x5 : Int) (x6 : Int) (x7 : Int) (h : am_H) : am_run am_ms 29 59 [am_R x0, am_K x1, am_K x2, am_K x3, am_R x4, am_I x5, am_I x6, am_I x7] [] h = ((am_gfI h x0 4 8).bind fun f1 => ((am_pf h x0 4 8 (am_I (am_w (f1 + 1)))).bind fun h2 => am_run am_ms 29 82 [am_R x0, am_K x1, am_K x2, am_K x3, am_R x4, am_I (am_or x5 (am_shl 1 x7)), am_I x6, am_I x7] [am_I x7, am_R x4] h2)) :=
  (am_xs_run am_ms 29 [(.iload 5, 2, []), (.iconst 1, 1, []), (.iload 7, 2, []), (.ishl, 1, []), (.ior, 1, []), (.istore 5, 2, []), (.aload_n 0, 1, []), (.dup, 1, []), (.getfield 35, 3, [4, 8, 1092, 0]), (.iconst 1, 1, []), (.iadd, 1, []), (.putfield 35, 3, [4, 8, 1092, 0]), (.aload 4, 2, []), (.iload 7, 2, [])] 59 _ _ h (by decide +kernel)).trans rfl
set_option maxHeartbeats 4000000 in
theorem bk_29_82 (x0 : Nat) (x1 : Nat) (x2 : Nat) (x3 : Nat) (x4 : Nat) (x5 : Int) (x6 : Int) (x7 : Int) (y0 : Int) (y1 : Nat) (h : am_H) : am_run am_ms 29 82 [am_R x0, am_K x1, am_K x2, am_K x3, am_R x4, am_I x5, am_I x6, am_I x7] [am_I y0, am_R y1] h = (bif Nat.beq x2 1 then none else ((am_rk h x2 0 x7).bind fun v1 => (bif Nat.beq x3 1 then none else ((am_rk h x3 0 x7).bind fun v2 => ((am_isc h x0 4).bind fun _ => ((am_cI 28 [am_R x0, am_I v1, am_I v2] h).bind fun r3 => ((am_wr r3.2 y1 0 y0 r3.1).bind fun h4 => ((am_gfI h4 x0 4 9).bind fun f5 => (bif decide (f5 = (-1)) then am_run am_ms 29 104 [am_R x0, am_K x1, am_K x2, am_K x3, am_R x4, am_I x5, am_I x6, am_I x7] [] h4 else some (none, h4)))))))))) :=
  (am_xs_run am_ms 29 [(.aload_n 0, 1, []), (.aload_n 2, 1, []), (.iload 7, 2, []), (.iaload, 1, []), (.aload_n 3, 1, []), (.iload 7, 2, []), (.iaload, 1, []), (.invokevirtual 102, 3, [0, 28, 3, 4, 1, 2206, 2208, 3]), (.iastore, 1, []), (.aload_n 0, 1, []), (.getfield 39, 3, [4, 9, 1093, 0]), (.iconst (-1), 1, []), (.if_icmp .eq 4, 3, []), (.return_, 1, [])] 82 _ _ h (by decide +kernel)).trans rfl
set_option maxHeartbeats 4000000 in
theorem bk_29_104 (x0 : Nat) (x1 : Nat) (x2 : Nat) (x3 : Nat) (x4 : Nat) (x5 : Int) (x6 : Int) (x7 : Int) (h : am_H) : am_run am_ms 29 104 [am_R x0, am_K x1, am_K x2, am_K x3, am_R x4, am_I x5, am_I x6, am_I x7] [] h = am_run am_ms 29 6 [am_R x0, am_K x1, am_K x2, am_K x3, am_R x4, am_I x5, am_I (am_w (x6 + 1)), am_I x7] [] h :=
  (am_xs_run am_ms 29 [(.iinc 6 1, 3, []), (.goto (-101), 3, [])] 104 _ _ h (by decide +kernel)).trans rfl
set_option maxHeartbeats 4000000 in
theorem bk_29_110 (x0 : Nat) (x1 : Nat) (x2 : Nat) (x3 : Nat) (x4 : Nat) (x5 : Int) (x6 : Int) (x7 : am_V) (h : am_H) : am_run am_ms 29 110 [am_R x0, am_K x1, am_K x2, am_K x3, am_R x4, am_I x5, am_I x6, x7] [] h = some (none, h) :=
  (am_xs_run am_ms 29 [(.return_, 1, [])] 110 _ _ h (by decide +kernel)).trans rfl
set_option maxHeartbeats 4000000 in
theorem bk_30_0 (x0 : Nat) (h : am_H) : am_run am_ms 30 0 [am_R x0, am_K 1] [] h = ((am_isc h x0 4).bind fun _ => ((am_cI 18 [am_R x0] h).bind fun r1 => (bif decide (¬ r1.1 = 115) then am_run am_ms 30 52 [am_R x0, am_I r1.1] [] r1.2 else ((am_gfI r1.2 x0 4 7).bind fun f2 => (bif decide (¬ f2 = 0) then am_run am_ms 30 52 [am_R x0, am_I r1.1] [] r1.2 else ((am_gfI r1.2 x0 4 8).bind fun f3 => am_run am_ms 30 25 [am_R x0, am_I r1.1] [am_I (am_w (f3 + 1)), am_R x0] r1.2)))))) :=
  (am_xs_run am_ms 30 [(.aload_n 0, 1, []), (.invokevirtual 69, 3, [0, 18, 1, 4, 1, 2106, 2108, 1]), (.istore_n 1, 1, []), (.iload_n 1, 1, []), (.bipush 115, 2, []), (.if_icmp .ne 44, 3, []), (.aload_n 0, 1, []), (.getfield 45, 3, [4, 7, 1091, 1]), (.ifCond .ne 37, 3, []), (.aload_n 0, 1, []), (.dup, 1, []), (.getfield 35, 3, [4, 8, 1092, 0]), (.iconst 1, 1, []), (.iadd, 1, [])] 0 _ _ h (by decide +kernel)).trans rfl
theorem en_30 (x0 : Nat) (h : am_H) : am_call am_ms 30 [am_R x0] h = am_run am_ms 30 0 [am_R x0, am_K 1] [] h := rfl
set_option maxHeartbeats 4000000 in
theorem bk_30_25 (x0 : Nat) (x1 : Int) (y0 : Int) (y1 : Nat) (h : am_H) : am_run am_ms 30 25 [am_R x0, am_I x1] [am_I y0, am_R y1] h = ((am_pf h y1 4 8 (am_I y0)).bind fun h1 => ((am_pf h1 x0 4 7 (am_I 1)).bind fun h2 => ((am_gfR h2 x0 4 0).bind fun f3 => ((am_isc h2 x0 4).bind fun _ => ((am_cV 29 [am_R x0, am_K 16, am_K 4, am_K 5, am_R f3] h2).bind fun h4 => am_run am_ms 30 158 [am_R x0, am_I x1] [] h4))))) :=
  (am_xs_run am_ms 30 [(.putfield 35, 3, [4, 8, 1092, 0]), (.aload_n 0, 1, []), (.iconst 1, 1, []), (.putfield 45, 3, [4, 7, 1091, 1]), (.aload_n 0, 1, []), (.ldc 73, 2, [1, 16, 2110]), (.getstatic 75, 3, [0, 4, 2111, 2112, 1003]), (.getstatic 78, 3, [0, 5, 2113, 2114, 1003]), (.aload_n 0, 1, []), (.getfield 9, 3, [4, 0, 1079, 3]), (.invokevirtual 81, 3, [0, 29, 5, 4, 0, 2115, 2117, 2]), (.goto 109, 3, [])] 25 _ _ h (by decide +kernel)).trans rfl
set_option maxHeartbeats 4000000 in
theorem bk_30_52 (x0 : Nat) (x1 : Int) (h : am_H) : am_run am_ms 30 52 [am_R x0, am_I x1] [] h = (bif decide (¬ x1 = 119) then am_run am_ms 30 150 [am_R x0, am_I x1] [] h else ((am_gfI h x0 4 3).bind fun f1 => (bif decide (24 ≤ f1) then am_run am_ms 30 150 [am_R x0, am_I x1] [] h else ((am_gfI h x0 4 8).bind fun f2 => ((am_pf h x0 4 8 (am_I (am_w (f2 + 1)))).bind fun h3 => am_run am_ms 30 78 [am_R x0, am_I x1] [am_R x0] h3))))) :=
  (am_xs_run am_ms 30 [(.iload_n 1, 1, []), (.bipush 119, 2, []), (.if_icmp .ne 95, 3, []), (.aload_n 0, 1, []), (.getfield 42, 3, [4, 3, 1085, 0]), (.bipush 24, 2, []), (.if_icmp .ge 86, 3, []), (.aload_n 0, 1, []), (.dup, 1, []), (.getfield 35, 3, [4, 8, 1092, 0]), (.iconst 1, 1, []), (.iadd, 1, []), (.putfield 35, 3, [4, 8, 1092, 0]), (.aload_n 0, 1, [])] 52 _ _ h (by decide +kernel)).trans rfl
set_option maxHeartbeats 4000000 in
theorem bk_30_78 (x0 : Nat) (x1 : Int) (y0 : Nat) (h : am_H) : am_run am_ms 30 78 [am_R x0, am_I x1] [am_R y0] h = ((am_gfR h y0 4 6).bind fun f1 => ((am_wr h f1 0 0 0).bind fun h2 => ((am_gfR h2 x0 4 6).bind fun f3 => ((am_wr h2 f3 0 1 0).bind fun h4 => am_run am_ms 30 101 [am_R x0, am_I x1] [am_R x0, am_K 7, am_K 6, am_K 17, am_R x0] h4)))) :=
  (am_xs_run am_ms 30 [(.getfield 28, 3, [4, 6, 1090, 3]), (.iconst 0, 1, []), (.iconst 0, 1, []), (.iastore, 1, []), (.aload_n 0, 1, []), (.getfield 28, 3, [4, 6, 1090, 3]), (.iconst 1, 1, []), (.iconst 0, 1, []), (.iastore, 1, []), (.aload_n 0, 1, []), (.ldc 85, 2, [1, 17, 2214]), (.getstatic 87, 3, [0, 6, 2215, 2216, 1003]), (.getstatic 90, 3, [0, 7, 2217, 2218, 1003]), (.aload_n 0, 1, [])] 78 _ _ h (by decide +kernel)).trans rfl
set_option maxHeartbeats 4000000 in
theorem bk_30_101 (x0 : Nat) (x1 : Int) (y0 : Nat) (y1 : Nat) (y2 : Nat) (y3 : Nat) (y4 : Nat) (h : am_H) : am_run am_ms 30 101 [am_R x0, am_I x1] [am_R y0, am_K y1, am_K y2, am_K y3, am_R y4] h = ((am_gfR h y0 4 6).bind fun f1 => ((am_isc h y4 4).bind fun _ => ((am_cV 29 [am_R y4, am_K y3, am_K y2, am_K y1, am_R f1] h).bind fun h2 => ((am_gfR h2 x0 4 1).bind fun f3 => ((am_gfI h2 x0 4 3).bind fun f4 => ((am_gfR h2 x0 4 6).bind fun f5 => ((am_rd h2 f5 0 0).bind fun v6 => ((am_wr h2 f3 0 f4 v6).bind fun h7 => ((am_gfR h7 x0 4 2).bind fun f8 => am_run am_ms 30 127 [am_R x0, am_I x1] [am_R x0, am_R f8] h7))))))))) :=
  (am_xs_run am_ms 30 [(.getfield 28, 3, [4, 6, 1090, 3]), (.invokevirtual 81, 3, [0, 29, 5, 4, 0, 2115, 2117, 2]), (.aload_n 0, 1, []), (.getfield 15, 3, [4, 1, 1081, 3]), (.aload_n 0, 1, []), (.getfield 42, 3, [4, 3, 1085, 0]), (.aload_n 0, 1, []), (.getfield 28, 3, [4, 6, 1090, 3]), (.iconst 0, 1, []), (.iaload, 1, []), (.iastore, 1, []), (.aload_n 0, 1, []), (.getfield 18, 3, [4, 2, 1083, 3]), (.aload_n 0, 1, [])] 101 _ _ h (by decide +kernel)).trans rfl
set_option maxHeartbeats 4000000 in
theorem bk_30_127 (x0 : Nat) (x1 : Int) (y0 : Nat) (y1 : Nat) (h : am_H) : am_run am_ms 30 127 [am_R x0, am_I x1] [am_R y0, am_R y1] h = ((am_gfI h y0 4 3).bind fun f1 => ((am_gfR h x0 4 6).bind fun f2 => ((am_rd h f2 0 1).bind fun v3 => ((am_wr h y1 0 f1 v3).bind fun h4 => ((am_gfI h4 x0 4 3).bind fun f5 => ((am_pf h4 x0 4 3 (am_I (am_w (f5 + 1)))).bind fun h6 => am_run am_ms 30 158 [am_R x0, am_I x1] [] h6)))))) :=
  (am_xs_run am_ms 30 [(.getfield 42, 3, [4, 3, 1085, 0]), (.aload_n 0, 1, []), (.getfield 28, 3, [4, 6, 1090, 3]), (.iconst 1, 1, []), (.iaload, 1, []), (.iastore, 1, []), (.aload_n 0, 1, []), (.dup, 1, []), (.getfield 42, 3, [4, 3, 1085, 0]), (.iconst 1, 1, []), (.iadd, 1, []), (.putfield 42, 3, [4, 3, 1085, 0]), (.goto 11, 3, [])] 127 _ _ h (by decide +kernel)).trans rfl
set_option maxHeartbeats 4000000 in
theorem bk_30_150 (x0 : Nat) (x1 : Int) (h : am_H) : am_run am_ms 30 150 [am_R x0, am_I x1] [] h = ((am_gfI h x0 4 8).bind fun f1 => ((am_pf h x0 4 9 (am_I f1)).bind fun h2 => am_run am_ms 30 158 [am_R x0, am_I x1] [] h2)) :=
  (am_xs_run am_ms 30 [(.aload_n 0, 1, []), (.aload_n 0, 1, []), (.getfield 35, 3, [4, 8, 1092, 0]), (.putfield 39, 3, [4, 9, 1093, 0])] 150 _ _ h (by decide +kernel)).trans rfl
set_option maxHeartbeats 4000000 in
theorem bk_30_158 (x0 : Nat) (x1 : Int) (h : am_H) : am_run am_ms 30 158 [am_R x0, am_I x1] [] h = some (none, h) :=
  (am_xs_run am_ms 30 [(.return_, 1, [])] 158 _ _ h (by decide +kernel)).trans rfl
set_option maxHeartbeats 4000000 in
theorem bk_31_0 (x0 : Nat) (h : am_H) : am_run am_ms 31 0 [am_R x0] [] h = ((am_isc h x0 4).bind fun _ => ((am_cI 18 [am_R x0] h).bind fun r1 => (bif decide (¬ r1.1 = 0) then am_run am_ms 31 11 [am_R x0] [] r1.2 else am_run am_ms 31 12 [am_R x0] [am_I 1] r1.2))) :=
  (am_xs_run am_ms 31 [(.aload_n 0, 1, []), (.invokevirtual 69, 3, [0, 18, 1, 4, 1, 2106, 2108, 1]), (.ifCond .ne 7, 3, []), (.iconst 1, 1, []), (.goto 4, 3, [])] 0 _ _ h (by decide +kernel)).trans rfl
theorem en_31 (x0 : Nat) (h : am_H) : am_call am_ms 31 [am_R x0] h = am_run am_ms 31 0 [am_R x0] [] h := rfl
set_option maxHeartbeats 4000000 in
theorem bk_31_11 (x0 : Nat) (h : am_H) : am_run am_ms 31 11 [am_R x0] [] h = am_run am_ms 31 12 [am_R x0] [am_I 0] h :=
  (am_xs_run am_ms 31 [(.iconst 0, 1, [])] 11 _ _ h (by decide +kernel)).trans rfl
set_option maxHeartbeats 4000000 in
theorem bk_31_12 (x0 : Nat) (y0 : Int) (h : am_H) : am_run am_ms 31 12 [am_R x0] [am_I y0] h = (bif am_rok 1 y0 then some (some (am_I y0), h) else none) :=
  (am_xs_run am_ms 31 [(.ireturn, 1, [1])] 12 _ _ h (by decide +kernel)).trans rfl
set_option maxHeartbeats 4000000 in
theorem bk_32_0 (x0 : Nat) (x1 : Int) (h : am_H) : am_run am_ms 32 0 [am_R x0, am_I x1] [] h = ((am_isc h x0 4).bind fun _ => ((am_cI 18 [am_R x0] h).bind fun r1 => (bif decide (r1.1 = x1) then am_run am_ms 32 10 [am_R x0, am_I x1] [] r1.2 else some (some (am_I 0), r1.2)))) :=
  (am_xs_run am_ms 32 [(.aload_n 0, 1, []), (.invokevirtual 69, 3, [0, 18, 1, 4, 1, 2106, 2108, 1]), (.iload_n 1, 1, []), (.if_icmp .eq 5, 3, []), (.iconst 0, 1, []), (.ireturn, 1, [1])] 0 _ _ h (by decide +kernel)).trans rfl
theorem en_32 (x0 : Nat) (x1 : Int) (h : am_H) : am_call am_ms 32 [am_R x0, am_I x1] h = am_run am_ms 32 0 [am_R x0, am_I x1] [] h := rfl
set_option maxHeartbeats 4000000 in
theorem bk_32_10 (x0 : Nat) (x1 : Int) (h : am_H) : am_run am_ms 32 10 [am_R x0, am_I x1] [] h = ((am_gfI h x0 4 8).bind fun f1 => ((am_pf h x0 4 8 (am_I (am_w (f1 + 1)))).bind fun h2 => some (some (am_I 1), h2))) :=
  (am_xs_run am_ms 32 [(.aload_n 0, 1, []), (.dup, 1, []), (.getfield 35, 3, [4, 8, 1092, 0]), (.iconst 1, 1, []), (.iadd, 1, []), (.putfield 35, 3, [4, 8, 1092, 0]), (.iconst 1, 1, []), (.ireturn, 1, [1])] 10 _ _ h (by decide +kernel)).trans rfl
set_option maxHeartbeats 4000000 in
theorem bk_33_0 (x0 : Nat) (h : am_H) : am_run am_ms 33 0 [am_R x0, am_K 1] [] h = ((am_pf h x0 4 8 (am_I 0)).bind fun h1 => ((am_pf h1 x0 4 9 (am_I (-1))).bind fun h2 => ((am_pf h2 x0 4 3 (am_I 0)).bind fun h3 => ((am_pf h3 x0 4 7 (am_I 0)).bind fun h4 => am_run am_ms 33 24 [am_R x0, am_K 1] [am_I 0, am_K 3] h4)))) :=
  (am_xs_run am_ms 33 [(.aload_n 0, 1, []), (.iconst 0, 1, []), (.putfield 35, 3, [4, 8, 1092, 0]), (.aload_n 0, 1, []), (.iconst (-1), 1, []), (.putfield 39, 3, [4, 9, 1093, 0]), (.aload_n 0, 1, []), (.iconst 0, 1, []), (.putfield 42, 3, [4, 3, 1085, 0]), (.aload_n 0, 1, []), (.iconst 0, 1, []), (.putfield 45, 3, [4, 7, 1091, 1]), (.getstatic 49, 3, [0, 3, 2097, 2098, 1003]), (.iconst 0, 1, [])] 0 _ _ h (by decide +kernel)).trans rfl
theorem en_33 (x0 : Nat) (h : am_H) : am_call am_ms 33 [am_R x0] h = am_run am_ms 33 0 [am_R x0, am_K 1] [] h := rfl
set_option maxHeartbeats 4000000 in
theorem bk_33_24 (x0 : Nat) (y0 : Int) (y1 : Nat) (h : am_H) : am_run am_ms 33 24 [am_R x0, am_K 1] [am_I y0, am_K y1] h = ((am_gfR h x0 4 0).bind fun f1 => ((am_cpy h (am_K y1) y0 f1 0 7).bind fun h2 => am_run am_ms 33 36 [am_R x0, am_I 0] [] h2)) :=
  (am_xs_run am_ms 33 [(.aload_n 0, 1, []), (.getfield 9, 3, [4, 0, 1079, 3]), (.iconst 0, 1, []), (.bipush 7, 2, []), (.invokestatic 52, 3, [11, 0, 5, 0, 0, 2099, 2101, 2100, 1011]), (.iconst 0, 1, []), (.istore_n 1, 1, [])] 24 _ _ h (by decide +kernel)).trans rfl
set_option maxHeartbeats 4000000 in
theorem bk_33_36 (x0 : Nat) (x1 : Int) (h : am_H) : am_run am_ms 33 36 [am_R x0, am_I x1] [] h = (bif decide (25 < x1) then am_run am_ms 33 88 [am_R x0, am_I x1] [] h else ((am_isc h x0 4).bind fun _ => ((am_cV 30 [am_R x0] h).bind fun h1 => ((am_gfI h1 x0 4 9).bind fun f2 => (bif decide (f2 = (-1)) then am_run am_ms 33 59 [am_R x0, am_I x1] [] h1 else ((am_gfI h1 x0 4 9).bind fun f3 => some (some (am_I f3), h1))))))) :=
  (am_xs_run am_ms 33 [(.iload_n 1, 1, []), (.bipush 25, 2, []), (.if_icmp .gt 49, 3, []), (.aload_n 0, 1, []), (.invokevirtual 58, 3, [0, 30, 1, 4, 0, 2102, 2104, 0]), (.aload_n 0, 1, []), (.getfield 39, 3, [4, 9, 1093, 0]), (.iconst (-1), 1, []), (.if_icmp .eq 8, 3, []), (.aload_n 0, 1, []), (.getfield 39, 3, [4, 9, 1093, 0]), (.ireturn, 1, [0])] 36 _ _ h (by decide +kernel)).trans rfl
set_option maxHeartbeats 4000000 in
theorem bk_33_59 (x0 : Nat) (x1 : Int) (h : am_H) : am_run am_ms 33 59 [am_R x0, am_I x1] [] h = ((am_isc h x0 4).bind fun _ => ((am_cI 31 [am_R x0] h).bind fun r1 => (bif decide (r1.1 = 0) then am_run am_ms 33 68 [am_R x0, am_I x1] [] r1.2 else some (some (am_I (-1)), r1.2)))) :=
  (am_xs_run am_ms 33 [(.aload_n 0, 1, []), (.invokevirtual 61, 3, [0, 31, 1, 4, 1, 2219, 2221, 5]), (.ifCond .eq 5, 3, []), (.iconst (-1), 1, []), (.ireturn, 1, [0])] 59 _ _ h (by decide +kernel)).trans rfl
set_option maxHeartbeats 4000000 in
theorem bk_33_68 (x0 : Nat) (x1 : Int) (h : am_H) : am_run am_ms 33 68 [am_R x0, am_I x1] [] h = ((am_isc h x0 4).bind fun _ => ((am_cI 32 [am_R x0, am_I 59] h).bind fun r1 => (bif decide (¬ r1.1 = 0) then am_run am_ms 33 82 [am_R x0, am_I x1] [] r1.2 else ((am_gfI r1.2 x0 4 8).bind fun f2 => some (some (am_I f2), r1.2))))) :=
  (am_xs_run am_ms 33 [(.aload_n 0, 1, []), (.bipush 59, 2, []), (.invokevirtual 65, 3, [0, 32, 2, 4, 1, 2223, 2225, 6]), (.ifCond .ne 8, 3, []), (.aload_n 0, 1, []), (.getfield 35, 3, [4, 8, 1092, 0]), (.ireturn, 1, [0])] 68 _ _ h (by decide +kernel)).trans rfl
set_option maxHeartbeats 4000000 in
theorem bk_33_82 (x0 : Nat) (x1 : Int) (h : am_H) : am_run am_ms 33 82 [am_R x0, am_I x1] [] h = am_run am_ms 33 36 [am_R x0, am_I (am_w (x1 + 1))] [] h :=
  (am_xs_run am_ms 33 [(.iinc 1 1, 3, []), (.goto (-49), 3, [])] 82 _ _ h (by decide +kernel)).trans rfl
set_option maxHeartbeats 4000000 in
theorem bk_33_88 (x0 : Nat) (x1 : Int) (h : am_H) : am_run am_ms 33 88 [am_R x0, am_I x1] [] h = ((am_gfI h x0 4 8).bind fun f1 => some (some (am_I f1), h)) :=
  (am_xs_run am_ms 33 [(.aload_n 0, 1, []), (.getfield 35, 3, [4, 8, 1092, 0]), (.ireturn, 1, [0])] 88 _ _ h (by decide +kernel)).trans rfl
set_option maxHeartbeats 4000000 in
theorem bk_34_0 (x0 : Nat) (h : am_H) : am_run am_ms 34 0 [am_R x0, am_K 1] [] h = ((am_isc h x0 4).bind fun _ => ((am_cI 18 [am_R x0] h).bind fun r1 => ((am_isc r1.2 x0 4).bind fun _ => ((am_cI 27 [am_R x0] r1.2).bind fun r2 => (bif decide (¬ r2.1 = 0) then am_run am_ms 34 22 [am_R x0, am_I r1.1] [] r2.2 else ((am_gfI r2.2 x0 4 8).bind fun f3 => ((am_pf r2.2 x0 4 9 (am_I f3)).bind fun h4 => some (some (am_I (-1)), h4)))))))) :=
  (am_xs_run am_ms 34 [(.aload_n 0, 1, []), (.invokevirtual 69, 3, [0, 18, 1, 4, 1, 2106, 2108, 1]), (.istore_n 1, 1, []), (.aload_n 0, 1, []), (.invokevirtual 123, 3, [0, 27, 1, 4, 1, 2210, 2212, 4]), (.ifCond .ne 13, 3, []), (.aload_n 0, 1, []), (.aload_n 0, 1, []), (.getfield 35, 3, [4, 8, 1092, 0]), (.putfield 39, 3, [4, 9, 1093, 0]), (.iconst (-1), 1, []), (.ireturn, 1, [0])] 0 _ _ h (by decide +kernel)).trans rfl
theorem en_34 (x0 : Nat) (h : am_H) : am_call am_ms 34 [am_R x0] h = am_run am_ms 34 0 [am_R x0, am_K 1] [] h := rfl
set_option maxHeartbeats 4000000 in
theorem bk_34_22 (x0 : Nat) (x1 : Int) (h : am_H) : am_run am_ms 34 22 [am_R x0, am_I x1] [] h = ((am_gfI h x0 4 8).bind fun f1 => ((am_pf h x0 4 8 (am_I (am_w (f1 + 1)))).bind fun h2 => some (some (am_I (am_w (x1 - 48))), h2))) :=
  (am_xs_run am_ms 34 [(.aload_n 0, 1, []), (.dup, 1, []), (.getfield 35, 3, [4, 8, 1092, 0]), (.iconst 1, 1, []), (.iadd, 1, []), (.putfield 35, 3, [4, 8, 1092, 0]), (.iload_n 1, 1, []), (.bipush 48, 2, []), (.isub, 1, []), (.ireturn, 1, [0])] 22 _ _ h (by decide +kernel)).trans rfl
set_option maxHeartbeats 4000000 in
theorem bk_35_0 (x0 : Nat) (h : am_H) : am_run am_ms 35 0 [am_R x0] [] h = ((am_isc h x0 4).bind fun _ => ((am_cI 18 [am_R x0] h).bind fun r1 => (bif decide (r1.1 = 61) then am_run am_ms 35 19 [am_R x0] [] r1.2 else ((am_gfI r1.2 x0 4 8).bind fun f2 => ((am_pf r1.2 x0 4 9 (am_I f2)).bind fun h3 => some (some (am_I (-1)), h3)))))) :=
  (am_xs_run am_ms 35 [(.aload_n 0, 1, []), (.invokevirtual 69, 3, [0, 18, 1, 4, 1, 2106, 2108, 1]), (.bipush 61, 2, []), (.if_icmp .eq 13, 3, []), (.aload_n 0, 1, []), (.aload_n 0, 1, []), (.getfield 35, 3, [4, 8, 1092, 0]), (.putfield 39, 3, [4, 9, 1093, 0]), (.iconst (-1), 1, []), (.ireturn, 1, [0])] 0 _ _ h (by decide +kernel)).trans rfl
theorem en_35 (x0 : Nat) (h : am_H) : am_call am_ms 35 [am_R x0] h = am_run am_ms 35 0 [am_R x0] [] h := rfl
set_option maxHeartbeats 4000000 in
theorem bk_35_19 (x0 : Nat) (h : am_H) : am_run am_ms 35 19 [am_R x0] [] h = ((am_gfI h x0 4 8).bind fun f1 => ((am_pf h x0 4 8 (am_I (am_w (f1 + 1)))).bind fun h2 => ((am_isc h2 x0 4).bind fun _ => ((am_cI 28 [am_R x0, am_I 0, am_I 999] h2).bind fun r3 => some (some (am_I r3.1), r3.2))))) :=
  (am_xs_run am_ms 35 [(.aload_n 0, 1, []), (.dup, 1, []), (.getfield 35, 3, [4, 8, 1092, 0]), (.iconst 1, 1, []), (.iadd, 1, []), (.putfield 35, 3, [4, 8, 1092, 0]), (.aload_n 0, 1, []), (.iconst 0, 1, []), (.sipush 999, 3, []), (.invokevirtual 102, 3, [0, 28, 3, 4, 1, 2206, 2208, 3]), (.ireturn, 1, [0])] 19 _ _ h (by decide +kernel)).trans rfl
set_option maxHeartbeats 4000000 in
theorem bk_36_0 (x0 : Nat) (x1 : Int) (x2 : Int) (x3 : Int) (h : am_H) : am_run am_ms 36 0 [am_R x0, am_I x1, am_I x2, am_I x3] [] h = ((am_gfI h x0 5 3).bind fun f1 => (bif decide (16 ≤ f1) then am_run am_ms 36 49 [am_R x0, am_I x1, am_I x2, am_I x3] [] h else ((am_gfR h x0 5 0).bind fun f2 => ((am_gfI h x0 5 3).bind fun f3 => ((am_wr h f2 0 f3 x1).bind fun h4 => ((am_gfR h4 x0 5 1).bind fun f5 => ((am_gfI h4 x0 5 3).bind fun f6 => am_run am_ms 36 27 [am_R x0, am_I x1, am_I x2, am_I x3] [am_I f6, am_R f5] h4))))))) :=
  (am_xs_run am_ms 36 [(.aload_n 0, 1, []), (.getfield 21, 3, [5, 3, 1067, 0]), (.bipush 16, 2, []), (.if_icmp .ge 43, 3, []), (.aload_n 0, 1, []), (.getfield 9, 3, [5, 0, 1061, 3]), (.aload_n 0, 1, []), (.getfield 21, 3, [5, 3, 1067, 0]), (.iload_n 1, 1, []), (.iastore, 1, []), (.aload_n 0, 1, []), (.getfield 15, 3, [5, 1, 1063, 3]), (.aload_n 0, 1, []), (.getfield 21, 3, [5, 3, 1067, 0])] 0 _ _ h (by decide +kernel)).trans rfl
theorem en_36 (x0 : Nat) (x1 : Int) (x2 : Int) (x3 : Int) (h : am_H) : am_call am_ms 36 [am_R x0, am_I x1, am_I x2, am_I x3] h = am_run am_ms 36 0 [am_R x0, am_I x1, am_I x2, am_I x3] [] h := rfl
set_option maxHeartbeats 4000000 in
theorem bk_36_27 (x0 : Nat) (x1 : Int) (x2 : Int) (x3 : Int) (y0 : Int) (y1 : Nat) (h : am_H) : am_run am_ms 36 27 [am_R x0, am_I x1, am_I x2, am_I x3] [am_I y0, am_R y1] h = ((am_wr h y1 0 y0 x2).bind fun h1 => ((am_gfR h1 x0 5 2).bind fun f2 => ((am_gfI h1 x0 5 3).bind fun f3 => ((am_wr h1 f2 0 f3 x3).bind fun h4 => ((am_gfI h4 x0 5 3).bind fun f5 => ((am_pf h4 x0 5 3 (am_I (am_w (f5 + 1)))).bind fun h6 => am_run am_ms 36 49 [am_R x0, am_I x1, am_I x2, am_I x3] [] h6)))))) :=
  (am_xs_run am_ms 36 [(.iload_n 2, 1, []), (.iastore, 1, []), (.aload_n 0, 1, []), (.getfield 18, 3, [5, 2, 1065, 3]), (.aload_n 0, 1, []), (.getfield 21, 3, [5, 3, 1067, 0]), (.iload_n 3, 1, []), (.iastore, 1, []), (.aload_n 0, 1, []), (.dup, 1, []), (.getfield 21, 3, [5, 3, 1067, 0]), (.iconst 1, 1, []), (.iadd, 1, []), (.putfield 21, 3, [5, 3, 1067, 0])] 27 _ _ h (by decide +kernel)).trans rfl
set_option maxHeartbeats 4000000 in
theorem bk_36_49 (x0 : Nat) (x1 : Int) (x2 : Int) (x3 : Int) (h : am_H) : am_run am_ms 36 49 [am_R x0, am_I x1, am_I x2, am_I x3] [] h = some (none, h) :=
  (am_xs_run am_ms 36 [(.return_, 1, [])] 49 _ _ h (by decide +kernel)).trans rfl
set_option maxHeartbeats 4000000 in
theorem bk_37_0 (x0 : Nat) (h : am_H) : am_run am_ms 37 0 [am_R x0, am_K 1, am_K 1, am_K 1] [] h = ((am_isc h x0 4).bind fun _ => ((am_cI 18 [am_R x0] h).bind fun r1 => (bif am_istx 18 then ((am_cI 26 [am_K 18, am_I (am_i2c r1.1)] r1.2).bind fun r2 => (bif decide (0 ≤ r2.1) then am_run am_ms 37 24 [am_R x0, am_I r2.1, am_K 1, am_K 1] [] r2.2 else ((am_gfI r2.2 x0 4 8).bind fun f3 => ((am_pf r2.2 x0 4 9 (am_I f3)).bind fun h4 => some (none, h4))))) else none))) :=
  (am_xs_run am_ms 37 [(.ldc 111, 2, [1, 18, 2235]), (.aload_n 0, 1, []), (.invokevirtual 69, 3, [0, 18, 1, 4, 1, 2106, 2108, 1]), (.i2c, 1, []), (.invokevirtual 98, 3, [5, 26, 2, 0, 1, 2129, 2130, 2131]), (.istore_n 1, 1, []), (.iload_n 1, 1, []), (.ifCond .ge 12, 3, []), (.aload_n 0, 1, []), (.aload_n 0, 1, []), (.getfield 35, 3, [4, 8, 1092, 0]), (.putfield 39, 3, [4, 9, 1093, 0]), (.return_, 1, [])] 0 _ _ h (by decide +kernel)).trans rfl
theorem en_37 (x0 : Nat) (h : am_H) : am_call am_ms 37 [am_R x0] h = am_run am_ms 37 0 [am_R x0, am_K 1, am_K 1, am_K 1] [] h := rfl
set_option maxHeartbeats 4000000 in
theorem bk_37_24 (x0 : Nat) (x1 : Int) (h : am_H) : am_run am_ms 37 24 [am_R x0, am_I x1, am_K 1, am_K 1] [] h = ((am_gfI h x0 4 8).bind fun f1 => ((am_pf h x0 4 8 (am_I (am_w (f1 + 1)))).bind fun h2 => (bif decide (x1 = 0) then am_run am_ms 37 47 [am_R x0, am_I x1, am_I (-1), am_I (-1)] [] h2 else am_run am_ms 37 44 [am_R x0, am_I x1, am_I (-1), am_I (-1)] [am_I 1, am_I x1] h2))) :=
  (am_xs_run am_ms 37 [(.aload_n 0, 1, []), (.dup, 1, []), (.getfield 35, 3, [4, 8, 1092, 0]), (.iconst 1, 1, []), (.iadd, 1, []), (.putfield 35, 3, [4, 8, 1092, 0]), (.iconst (-1), 1, []), (.istore_n 2, 1, []), (.iconst (-1), 1, []), (.istore_n 3, 1, []), (.iload_n 1, 1, []), (.ifCond .eq 8, 3, []), (.iload_n 1, 1, []), (.iconst 1, 1, [])] 24 _ _ h (by decide +kernel)).trans rfl
set_option maxHeartbeats 4000000 in
theorem bk_37_44 (x0 : Nat) (x1 : Int) (x2 : Int) (x3 : Int) (y0 : Int) (y1 : Int) (h : am_H) : am_run am_ms 37 44 [am_R x0, am_I x1, am_I x2, am_I x3] [am_I y0, am_I y1] h = (bif decide (¬ y1 = y0) then am_run am_ms 37 58 [am_R x0, am_I x1, am_I x2, am_I x3] [] h else am_run am_ms 37 47 [am_R x0, am_I x1, am_I x2, am_I x3] [] h) :=
  (am_xs_run am_ms 37 [(.if_icmp .ne 14, 3, [])] 44 _ _ h (by decide +kernel)).trans rfl
set_option maxHeartbeats 4000000 in
theorem bk_37_47 (x0 : Nat) (x1 : Int) (x2 : Int) (x3 : Int) (h : am_H) : am_run am_ms 37 47 [am_R x0, am_I x1, am_I x2, am_I x3] [] h = ((am_isc h x0 4).bind fun _ => ((am_cI 28 [am_R x0, am_I 0, am_I 31] h).bind fun r1 => am_run am_ms 37 73 [am_R x0, am_I x1, am_I r1.1, am_I x3] [] r1.2)) :=
  (am_xs_run am_ms 37 [(.aload_n 0, 1, []), (.iconst 0, 1, []), (.bipush 31, 2, []), (.invokevirtual 102, 3, [0, 28, 3, 4, 1, 2206, 2208, 3]), (.istore_n 2, 1, []), (.goto 18, 3, [])] 47 _ _ h (by decide +kernel)).trans rfl
set_option maxHeartbeats 4000000 in
theorem bk_37_58 (x0 : Nat) (x1 : Int) (x2 : Int) (x3 : Int) (h : am_H) : am_run am_ms 37 58 [am_R x0, am_I x1, am_I x2, am_I x3] [] h = (bif decide (x1 = 2) then am_run am_ms 37 73 [am_R x0, am_I x1, am_I x2, am_I x3] [] h else (bif decide (x1 = 3) then am_run am_ms 37 73 [am_R x0, am_I x1, am_I x2, am_I x3] [] h else ((am_isc h x0 4).bind fun _ => ((am_cI 34 [am_R x0] h).bind fun r1 => am_run am_ms 37 73 [am_R x0, am_I x1, am_I r1.1, am_I x3] [] r1.2)))) :=
  (am_xs_run am_ms 37 [(.iload_n 1, 1, []), (.iconst 2, 1, []), (.if_icmp .eq 13, 3, []), (.iload_n 1, 1, []), (.iconst 3, 1, []), (.if_icmp .eq 8, 3, []), (.aload_n 0, 1, []), (.invokevirtual 113, 3, [0, 34, 1, 4, 1, 2236, 2238, 8]), (.istore_n 2, 1, [])] 58 _ _ h (by decide +kernel)).trans rfl
set_option maxHeartbeats 4000000 in
theorem bk_37_73 (x0 : Nat) (x1 : Int) (x2 : Int) (x3 : Int) (h : am_H) : am_run am_ms 37 73 [am_R x0, am_I x1, am_I x2, am_I x3] [] h = (bif decide (¬ x1 = 0) then am_run am_ms 37 90 [am_R x0, am_I x1, am_I x2, am_I x3] [] h else ((am_gfI h x0 4 9).bind fun f1 => (bif decide (¬ f1 = (-1)) then am_run am_ms 37 90 [am_R x0, am_I x1, am_I x2, am_I x3] [] h else ((am_isc h x0 4).bind fun _ => ((am_cI 35 [am_R x0] h).bind fun r2 => am_run am_ms 37 90 [am_R x0, am_I x1, am_I x2, am_I r2.1] [] r2.2))))) :=
  (am_xs_run am_ms 37 [(.iload_n 1, 1, []), (.ifCond .ne 16, 3, []), (.aload_n 0, 1, []), (.getfield 39, 3, [4, 9, 1093, 0]), (.iconst (-1), 1, []), (.if_icmp .ne 8, 3, []), (.aload_n 0, 1, []), (.invokevirtual 116, 3, [0, 35, 1, 4, 1, 3000, 3002, 9]), (.istore_n 3, 1, [])] 73 _ _ h (by decide +kernel)).trans rfl
set_option maxHeartbeats 4000000 in
theorem bk_37_90 (x0 : Nat) (x1 : Int) (x2 : Int) (x3 : Int) (h : am_H) : am_run am_ms 37 90 [am_R x0, am_I x1, am_I x2, am_I x3] [] h = ((am_gfR h x0 4 4).bind fun f1 => ((am_isc h f1 5).bind fun _ => ((am_cV 36 [am_R f1, am_I x1, am_I x2, am_I x3] h).bind fun h2 => some (none, h2)))) :=
  (am_xs_run am_ms 37 [(.aload_n 0, 1, []), (.getfield 24, 3, [4, 4, 1087, 3]), (.iload_n 1, 1, []), (.iload_n 2, 1, []), (.iload_n 3, 1, []), (.invokevirtual 119, 3, [0, 36, 4, 5, 0, 3004, 3005, 3006]), (.return_, 1, [])] 90 _ _ h (by decide +kernel)).trans rfl
set_option maxHeartbeats 4000000 in
theorem bk_38_0 (x0 : Nat) (h : am_H) : am_run am_ms 38 0 [am_R x0, am_K 1] [] h = ((am_pf h x0 4 8 (am_I 0)).bind fun h1 => ((am_pf h1 x0 4 9 (am_I (-1))).bind fun h2 => ((am_gfR h2 x0 4 4).bind fun f3 => ((am_pf h2 f3 5 3 (am_I 0)).bind fun h4 => am_run am_ms 38 20 [am_R x0, am_I 0] [] h4)))) :=
  (am_xs_run am_ms 38 [(.aload_n 0, 1, []), (.iconst 0, 1, []), (.putfield 35, 3, [4, 8, 1092, 0]), (.aload_n 0, 1, []), (.iconst (-1), 1, []), (.putfield 39, 3, [4, 9, 1093, 0]), (.aload_n 0, 1, []), (.getfield 24, 3, [4, 4, 1087, 3]), (.iconst 0, 1, []), (.putfield 106, 3, [5, 3, 1068, 0]), (.iconst 0, 1, []), (.istore_n 1, 1, [])] 0 _ _ h (by decide +kernel)).trans rfl
theorem en_38 (x0 : Nat) (h : am_H) : am_call am_ms 38 [am_R x0] h = am_run am_ms 38 0 [am_R x0, am_K 1] [] h := rfl
set_option maxHeartbeats 4000000 in
theorem bk_38_20 (x0 : Nat) (x1 : Int) (h : am_H) : am_run am_ms 38 20 [am_R x0, am_I x1] [] h = (bif decide (16 ≤ x1) then am_run am_ms 38 78 [am_R x0, am_I x1] [] h else ((am_isc h x0 4).bind fun _ => ((am_cV 37 [am_R x0] h).bind fun h1 => ((am_gfI h1 x0 4 9).bind fun f2 => (bif decide (f2 = (-1)) then am_run am_ms 38 43 [am_R x0, am_I x1] [] h1 else ((am_gfI h1 x0 4 9).bind fun f3 => some (some (am_I f3), h1))))))) :=
  (am_xs_run am_ms 38 [(.iload_n 1, 1, []), (.bipush 16, 2, []), (.if_icmp .ge 55, 3, []), (.aload_n 0, 1, []), (.invokevirtual 108, 3, [0, 37, 1, 4, 0, 2231, 2233, 7]), (.aload_n 0, 1, []), (.getfield 39, 3, [4, 9, 1093, 0]), (.iconst (-1), 1, []), (.if_icmp .eq 8, 3, []), (.aload_n 0, 1, []), (.getfield 39, 3, [4, 9, 1093, 0]), (.ireturn, 1, [0])] 20 _ _ h (by decide +kernel)).trans rfl
set_option maxHeartbeats 4000000 in
theorem bk_38_43 (x0 : Nat) (x1 : Int) (h : am_H) : am_run am_ms 38 43 [am_R x0, am_I x1] [] h = ((am_isc h x0 4).bind fun _ => ((am_cI 31 [am_R x0] h).bind fun r1 => (bif decide (r1.1 = 0) then am_run am_ms 38 52 [am_R x0, am_I x1] [] r1.2 else some (some (am_I (-1)), r1.2)))) :=
  (am_xs_run am_ms 38 [(.aload_n 0, 1, []), (.invokevirtual 61, 3, [0, 31, 1, 4, 1, 2219, 2221, 5]), (.ifCond .eq 5, 3, []), (.iconst (-1), 1, []), (.ireturn, 1, [0])] 43 _ _ h (by decide +kernel)).trans rfl
set_option maxHeartbeats 4000000 in
theorem bk_38_52 (x0 : Nat) (x1 : Int) (h : am_H) : am_run am_ms 38 52 [am_R x0, am_I x1] [] h = (bif decide (x1 = 15) then am_run am_ms 38 67 [am_R x0, am_I x1] [] h else ((am_isc h x0 4).bind fun _ => ((am_cI 32 [am_R x0, am_I 59] h).bind fun r1 => (bif decide (¬ r1.1 = 0) then am_run am_ms 38 72 [am_R x0, am_I x1] [] r1.2 else am_run am_ms 38 67 [am_R x0, am_I x1] [] r1.2)))) :=
  (am_xs_run am_ms 38 [(.iload_n 1, 1, []), (.bipush 15, 2, []), (.if_icmp .eq 12, 3, []), (.aload_n 0, 1, []), (.bipush 59, 2, []), (.invokevirtual 65, 3, [0, 32, 2, 4, 1, 2223, 2225, 6]), (.ifCond .ne 8, 3, [])] 52 _ _ h (by decide +kernel)).trans rfl
set_option maxHeartbeats 4000000 in
theorem bk_38_67 (x0 : Nat) (x1 : Int) (h : am_H) : am_run am_ms 38 67 [am_R x0, am_I x1] [] h = ((am_gfI h x0 4 8).bind fun f1 => some (some (am_I f1), h)) :=
  (am_xs_run am_ms 38 [(.aload_n 0, 1, []), (.getfield 35, 3, [4, 8, 1092, 0]), (.ireturn, 1, [0])] 67 _ _ h (by decide +kernel)).trans rfl
set_option maxHeartbeats 4000000 in
theorem bk_38_72 (x0 : Nat) (x1 : Int) (h : am_H) : am_run am_ms 38 72 [am_R x0, am_I x1] [] h = am_run am_ms 38 20 [am_R x0, am_I (am_w (x1 + 1))] [] h :=
  (am_xs_run am_ms 38 [(.iinc 1 1, 3, []), (.goto (-55), 3, [])] 72 _ _ h (by decide +kernel)).trans rfl
set_option maxHeartbeats 4000000 in
theorem bk_38_78 (x0 : Nat) (x1 : Int) (h : am_H) : am_run am_ms 38 78 [am_R x0, am_I x1] [] h = ((am_gfI h x0 4 8).bind fun f1 => some (some (am_I f1), h)) :=
  (am_xs_run am_ms 38 [(.aload_n 0, 1, []), (.getfield 35, 3, [4, 8, 1092, 0]), (.ireturn, 1, [0])] 78 _ _ h (by decide +kernel)).trans rfl
set_option maxHeartbeats 4000000 in
theorem bk_39_0 (x0 : Nat) (x1 : Int) (h : am_H) : am_run am_ms 39 0 [am_R x0, am_I x1] [] h = (bif decide (¬ x1 = 0) then am_run am_ms 39 12 [am_R x0, am_I x1] [] h else ((am_gfR h x0 8 1).bind fun f1 => ((am_isc h f1 4).bind fun _ => ((am_cI 33 [am_R f1] h).bind fun r2 => some (some (am_I r2.1), r2.2))))) :=
  (am_xs_run am_ms 39 [(.iload_n 1, 1, []), (.ifCond .ne 11, 3, []), (.aload_n 0, 1, []), (.getfield 21, 3, [8, 1, 2038, 3]), (.invokevirtual 84, 3, [0, 33, 1, 4, 1, 2093, 2094, 2095]), (.ireturn, 1, [0])] 0 _ _ h (by decide +kernel)).trans rfl
theorem en_39 (x0 : Nat) (x1 : Int) (h : am_H) : am_call am_ms 39 [am_R x0, am_I x1] h = am_run am_ms 39 0 [am_R x0, am_I x1] [] h := rfl
set_option maxHeartbeats 4000000 in
theorem bk_39_12 (x0 : Nat) (x1 : Int) (h : am_H) : am_run am_ms 39 12 [am_R x0, am_I x1] [] h = (bif decide (¬ x1 = 1) then am_run am_ms 39 27 [am_R x0, am_I x1] [] h else ((am_gfR h x0 8 1).bind fun f1 => ((am_isc h f1 4).bind fun _ => ((am_cI 38 [am_R f1] h).bind fun r2 => am_run am_ms 39 29 [am_R x0, am_I x1] [am_I r2.1] r2.2)))) :=
  (am_xs_run am_ms 39 [(.iload_n 1, 1, []), (.iconst 1, 1, []), (.if_icmp .ne 13, 3, []), (.aload_n 0, 1, []), (.getfield 21, 3, [8, 1, 2038, 3]), (.invokevirtual 88, 3, [0, 38, 1, 4, 1, 2227, 2228, 2229]), (.goto 5, 3, [])] 12 _ _ h (by decide +kernel)).trans rfl
set_option maxHeartbeats 4000000 in
theorem bk_39_27 (x0 : Nat) (x1 : Int) (h : am_H) : am_run am_ms 39 27 [am_R x0, am_I x1] [] h = am_run am_ms 39 29 [am_R x0, am_I x1] [am_I (-2)] h :=
  (am_xs_run am_ms 39 [(.bipush (-2), 2, [])] 27 _ _ h (by decide +kernel)).trans rfl
set_option maxHeartbeats 4000000 in
theorem bk_39_29 (x0 : Nat) (x1 : Int) (y0 : Int) (h : am_H) : am_run am_ms 39 29 [am_R x0, am_I x1] [am_I y0] h = some (some (am_I y0), h) :=
  (am_xs_run am_ms 39 [(.ireturn, 1, [0])] 29 _ _ h (by decide +kernel)).trans rfl
set_option maxHeartbeats 4000000 in
theorem bk_40_0 (x0 : Int) (x2 : Int) (x4 : Int) (h : am_H) : am_run am_ms 40 0 [am_L x0, am_K 1, am_L x2, am_K 1, am_L x4, am_K 1] [] h = (bif decide ((am_lcmp x0 x2) < 0) then am_run am_ms 40 17 [am_L x0, am_K 1, am_L x2, am_K 1, am_L x4, am_K 1] [] h else (bif decide (0 < (am_lcmp x0 x4)) then am_run am_ms 40 17 [am_L x0, am_K 1, am_L x2, am_K 1, am_L x4, am_K 1] [] h else am_run am_ms 40 18 [am_L x0, am_K 1, am_L x2, am_K 1, am_L x4, am_K 1] [am_I 1] h)) :=
  (am_xs_run am_ms 40 [(.lload_n 0, 1, []), (.lload_n 2, 1, []), (.lcmp, 1, []), (.ifCond .lt 14, 3, []), (.lload_n 0, 1, []), (.lload 4, 2, []), (.lcmp, 1, []), (.ifCond .gt 7, 3, []), (.iconst 1, 1, []), (.goto 4, 3, [])] 0 _ _ h (by decide +kernel)).trans rfl
theorem en_40 (x0 : Int) (x2 : Int) (x4 : Int) (h : am_H) : am_call am_ms 40 [am_L x0, am_L x2, am_L x4] h = am_run am_ms 40 0 [am_L x0, am_K 1, am_L x2, am_K 1, am_L x4, am_K 1] [] h := rfl
set_option maxHeartbeats 4000000 in
theorem bk_40_17 (x0 : Int) (x2 : Int) (x4 : Int) (h : am_H) : am_run am_ms 40 17 [am_L x0, am_K 1, am_L x2, am_K 1, am_L x4, am_K 1] [] h = am_run am_ms 40 18 [am_L x0, am_K 1, am_L x2, am_K 1, am_L x4, am_K 1] [am_I 0] h :=
  (am_xs_run am_ms 40 [(.iconst 0, 1, [])] 17 _ _ h (by decide +kernel)).trans rfl
set_option maxHeartbeats 4000000 in
theorem bk_40_18 (x0 : Int) (x2 : Int) (x4 : Int) (y0 : Int) (h : am_H) : am_run am_ms 40 18 [am_L x0, am_K 1, am_L x2, am_K 1, am_L x4, am_K 1] [am_I y0] h = (bif am_rok 1 y0 then some (some (am_I y0), h) else none) :=
  (am_xs_run am_ms 40 [(.ireturn, 1, [1])] 18 _ _ h (by decide +kernel)).trans rfl
set_option maxHeartbeats 4000000 in
theorem bk_41_0 (x0 : Int) (h : am_H) : am_run am_ms 41 0 [am_I x0] [] h = am_run am_ms 41 1 [am_I x0] [am_I x0] h :=
  (am_xs_run am_ms 41 [(.iload_n 0, 1, [])] 0 _ _ h (by decide +kernel)).trans rfl
theorem en_41 (x0 : Int) (h : am_H) : am_call am_ms 41 [am_I x0] h = am_run am_ms 41 0 [am_I x0] [] h := rfl
theorem bk_41_1 (x0 : Int) (y0 : Int) (h : am_H) : am_run am_ms 41 1 [am_I x0] [am_I y0] h = am_run am_ms 41 (am_tsw 1 54 0 6 #[43, 45, 48, 50, 54, 54, 52] y0) [am_I x0] [] h := by
  rw [am_run_eq, show am_code am_ms 41 1 = some (.tableswitch 54 0 6 #[43, 45, 48, 50, 54, 54, 52], 43, []) from by decide +kernel]
  rfl
set_option maxHeartbeats 4000000 in
theorem bk_41_44 (x0 : Int) (h : am_H) : am_run am_ms 41 44 [am_I x0] [] h = some (some (am_I 4), h) :=
  (am_xs_run am_ms 41 [(.iconst 4, 1, []), (.ireturn, 1, [0])] 44 _ _ h (by decide +kernel)).trans rfl
set_option maxHeartbeats 4000000 in
theorem bk_41_46 (x0 : Int) (h : am_H) : am_run am_ms 41 46 [am_I x0] [] h = some (some (am_I 8), h) :=
  (am_xs_run am_ms 41 [(.bipush 8, 2, []), (.ireturn, 1, [0])] 46 _ _ h (by decide +kernel)).trans rfl
set_option maxHeartbeats 4000000 in
theorem bk_41_49 (x0 : Int) (h : am_H) : am_run am_ms 41 49 [am_I x0] [] h = some (some (am_I 2), h) :=
  (am_xs_run am_ms 41 [(.iconst 2, 1, []), (.ireturn, 1, [0])] 49 _ _ h (by decide +kernel)).trans rfl
set_option maxHeartbeats 4000000 in
theorem bk_41_51 (x0 : Int) (h : am_H) : am_run am_ms 41 51 [am_I x0] [] h = some (some (am_I 3), h) :=
  (am_xs_run am_ms 41 [(.iconst 3, 1, []), (.ireturn, 1, [0])] 51 _ _ h (by decide +kernel)).trans rfl
set_option maxHeartbeats 4000000 in
theorem bk_41_53 (x0 : Int) (h : am_H) : am_run am_ms 41 53 [am_I x0] [] h = some (some (am_I 0), h) :=
  (am_xs_run am_ms 41 [(.iconst 0, 1, []), (.ireturn, 1, [0])] 53 _ _ h (by decide +kernel)).trans rfl
set_option maxHeartbeats 4000000 in
theorem bk_41_55 (x0 : Int) (h : am_H) : am_run am_ms 41 55 [am_I x0] [] h = some (some (am_I 1), h) :=
  (am_xs_run am_ms 41 [(.iconst 1, 1, []), (.ireturn, 1, [0])] 55 _ _ h (by decide +kernel)).trans rfl
set_option maxHeartbeats 4000000 in
theorem bk_42_0 (x0 : Nat) (h : am_H) : am_run am_ms 42 0 [am_R x0] [] h = ((am_gfI h x0 9 3).bind fun f1 => ((am_gfI h x0 9 2).bind fun f2 => (bif decide (f2 ≤ f1) then am_run am_ms 42 27 [am_R x0] [] h else ((am_gfR h x0 9 1).bind fun f3 => ((am_gfI h x0 9 3).bind fun f4 => ((am_rd h f3 1 f4).bind fun v5 => am_run am_ms 42 28 [am_R x0] [am_I (am_and v5 255)] h)))))) :=
  (am_xs_run am_ms 42 [(.aload_n 0, 1, []), (.getfield 68, 3, [9, 3, 5186, 0]), (.aload_n 0, 1, []), (.getfield 57, 3, [9, 2, 5185, 0]), (.if_icmp .ge 19, 3, []), (.aload_n 0, 1, []), (.getfield 9, 3, [9, 1, 5184, 3]), (.aload_n 0, 1, []), (.getfield 68, 3, [9, 3, 5186, 0]), (.baload, 1, []), (.sipush 255, 3, []), (.iand, 1, []), (.goto 4, 3, [])] 0 _ _ h (by decide +kernel)).trans rfl
theorem en_42 (x0 : Nat) (h : am_H) : am_call am_ms 42 [am_R x0] h = am_run am_ms 42 0 [am_R x0] [] h := rfl
set_option maxHeartbeats 4000000 in
theorem bk_42_27 (x0 : Nat) (h : am_H) : am_run am_ms 42 27 [am_R x0] [] h = am_run am_ms 42 28 [am_R x0] [am_I (-1)] h :=
  (am_xs_run am_ms 42 [(.iconst (-1), 1, [])] 27 _ _ h (by decide +kernel)).trans rfl
set_option maxHeartbeats 4000000 in
theorem bk_42_28 (x0 : Nat) (y0 : Int) (h : am_H) : am_run am_ms 42 28 [am_R x0] [am_I y0] h = some (some (am_I y0), h) :=
  (am_xs_run am_ms 42 [(.ireturn, 1, [0])] 28 _ _ h (by decide +kernel)).trans rfl
set_option maxHeartbeats 4000000 in
theorem bk_43_0 (x0 : Nat) (h : am_H) : am_run am_ms 43 0 [am_R x0] [] h = ((am_isc h x0 9).bind fun _ => ((am_cI 42 [am_R x0] h).bind fun r1 => (bif decide (¬ r1.1 = 32) then am_run am_ms 43 22 [am_R x0] [] r1.2 else ((am_gfI r1.2 x0 9 3).bind fun f2 => ((am_pf r1.2 x0 9 3 (am_I (am_w (f2 + 1)))).bind fun h3 => am_run am_ms 43 0 [am_R x0] [] h3))))) :=
  (am_xs_run am_ms 43 [(.aload_n 0, 1, []), (.invokevirtual 71, 3, [0, 42, 1, 9, 1, 6078, 6080, 41]), (.bipush 32, 2, []), (.if_icmp .ne 16, 3, []), (.aload_n 0, 1, []), (.dup, 1, []), (.getfield 68, 3, [9, 3, 5186, 0]), (.iconst 1, 1, []), (.iadd, 1, []), (.putfield 68, 3, [9, 3, 5186, 0]), (.goto (-19), 3, [])] 0 _ _ h (by decide +kernel)).trans rfl
theorem en_43 (x0 : Nat) (h : am_H) : am_call am_ms 43 [am_R x0] h = am_run am_ms 43 0 [am_R x0] [] h := rfl
set_option maxHeartbeats 4000000 in
theorem bk_43_22 (x0 : Nat) (h : am_H) : am_run am_ms 43 22 [am_R x0] [] h = ((am_isc h x0 9).bind fun _ => ((am_cI 42 [am_R x0] h).bind fun r1 => some (some (am_I r1.1), r1.2))) :=
  (am_xs_run am_ms 43 [(.aload_n 0, 1, []), (.invokevirtual 71, 3, [0, 42, 1, 9, 1, 6078, 6080, 41]), (.ireturn, 1, [0])] 22 _ _ h (by decide +kernel)).trans rfl
set_option maxHeartbeats 4000000 in
theorem bk_44_0 (x0 : Int) (x1 : Int) (x2 : Nat) (h : am_H) : am_run am_ms 44 0 [am_I x0, am_I x1, am_K x2] [] h = (bif decide (x0 < 0) then am_run am_ms 44 9 [am_I x0, am_I x1, am_K x2] [] h else (bif decide (x0 < x1) then am_run am_ms 44 16 [am_I x0, am_I x1, am_K x2] [] h else am_run am_ms 44 9 [am_I x0, am_I x1, am_K x2] [] h)) :=
  (am_xs_run am_ms 44 [(.iload_n 0, 1, []), (.ifCond .lt 8, 3, []), (.iload_n 0, 1, []), (.iload_n 1, 1, []), (.if_icmp .lt 10, 3, [])] 0 _ _ h (by decide +kernel)).trans rfl
theorem en_44 (x0 : Int) (x1 : Int) (x2 : Nat) (h : am_H) : am_call am_ms 44 [am_I x0, am_I x1, am_K x2] h = am_run am_ms 44 0 [am_I x0, am_I x1, am_K x2] [] h := rfl
set_option maxHeartbeats 4000000 in
theorem bk_44_9 (x0 : Int) (x1 : Int) (x2 : Nat) (h : am_H) : am_run am_ms 44 9 [am_I x0, am_I x1, am_K x2] [] h = (bif Nat.beq x2 1 then none else am_run am_ms 44 12 [am_I x0, am_I x1, am_K x2] [am_I x1, am_I x0, am_K x2] h) :=
  (am_xs_run am_ms 44 [(.aload_n 2, 1, []), (.iload_n 0, 1, []), (.iload_n 1, 1, [])] 9 _ _ h (by decide +kernel)).trans rfl
set_option maxHeartbeats 4000000 in
theorem bk_44_16 (x0 : Int) (x1 : Int) (x2 : Nat) (h : am_H) : am_run am_ms 44 16 [am_I x0, am_I x1, am_K x2] [] h = some (some (am_I x0), h) :=
  (am_xs_run am_ms 44 [(.iload_n 0, 1, []), (.ireturn, 1, [0])] 16 _ _ h (by decide +kernel)).trans rfl
set_option maxHeartbeats 4000000 in
theorem bk_45_0 (x0 : Int) (x1 : Int) (h : am_H) : am_run am_ms 45 0 [am_I x0, am_I x1] [] h = ((am_cI 44 [am_I x0, am_I x1, am_K 40] h).bind fun r1 => some (none, r1.2)) :=
  (am_xs_run am_ms 45 [(.iload_n 0, 1, []), (.iload_n 1, 1, []), (.getstatic 1053, 3, [0, 40, 2175, 2176, 1016]), (.invokestatic 1059, 3, [1, 44, 3, 0, 1, 6102, 6103]), (.pop, 1, []), (.return_, 1, [])] 0 _ _ h (by decide +kernel)).trans rfl
theorem en_45 (x0 : Int) (x1 : Int) (h : am_H) : am_call am_ms 45 [am_I x0, am_I x1] h = am_run am_ms 45 0 [am_I x0, am_I x1] [] h := rfl
set_option maxHeartbeats 4000000 in
theorem bk_46_0 (x0 : Nat) (x1 : Int) (h : am_H) : am_run am_ms 46 0 [am_K x0, am_I x1] [] h = (bif Nat.beq x0 1 then none else ((am_lenk h x0).bind fun n1 => ((am_cV 45 [am_I x1, am_I n1] h).bind fun h2 => (bif Nat.beq x0 1 then none else ((am_rk h2 x0 1 x1).bind fun v3 => (bif am_rok 2 (am_i2c (am_and v3 255)) then some (some (am_I (am_i2c (am_and v3 255))), h2) else none)))))) :=
  (am_xs_run am_ms 46 [(.iload_n 1, 1, []), (.aload_n 0, 1, []), (.arraylength, 1, []), (.invokestatic 9, 3, [1, 45, 2, 0, 0, 6099, 6100]), (.aload_n 0, 1, []), (.iload_n 1, 1, []), (.baload, 1, []), (.sipush 255, 3, []), (.iand, 1, []), (.i2c, 1, []), (.ireturn, 1, [2])] 0 _ _ h (by decide +kernel)).trans rfl
theorem en_46 (x0 : Nat) (x1 : Int) (h : am_H) : am_call am_ms 46 [am_K x0, am_I x1] h = am_run am_ms 46 0 [am_K x0, am_I x1] [] h := rfl
set_option maxHeartbeats 4000000 in
theorem bk_47_0 (x0 : Nat) (x1 : Int) (h : am_H) : am_run am_ms 47 0 [am_K x0, am_I x1] [] h = (bif Nat.beq x0 1 then none else (bif am_istx x0 then ((am_cI 21 [am_K x0] h).bind fun r1 => (bif decide (r1.1 = 0) then am_run am_ms 47 16 [am_K x0, am_I x1] [] r1.2 else (bif Nat.beq x0 1 then none else (bif am_istx x0 then ((am_cI 46 [am_K (x0 + 16), am_I x1] r1.2).bind fun r2 => (bif am_rok 2 r2.1 then some (some (am_I r2.1), r2.2) else none)) else none)))) else none)) :=
  (am_xs_run am_ms 47 [(.aload_n 0, 1, []), (.invokevirtual 492, 3, [5, 21, 1, 0, 1, 2137, 2138, 2139]), (.ifCond .eq 12, 3, []), (.aload_n 0, 1, []), (.getfield 9, 3, [99, 0, 8110, 0]), (.iload_n 1, 1, []), (.invokestatic 495, 3, [1, 46, 2, 0, 1, 6096, 6097]), (.ireturn, 1, [2])] 0 _ _ h (by decide +kernel)).trans rfl
theorem en_47 (x0 : Nat) (x1 : Int) (h : am_H) : am_call am_ms 47 [am_K x0, am_I x1] h = am_run am_ms 47 0 [am_K x0, am_I x1] [] h := rfl
set_option maxHeartbeats 4000000 in
theorem bk_47_16 (x0 : Nat) (x1 : Int) (h : am_H) : am_run am_ms 47 16 [am_K x0, am_I x1] [] h = (bif Nat.beq x0 1 then none else (bif am_istx x0 then am_run am_ms 47 21 [am_K x0, am_I x1] [am_I x1, am_K (x0 + 16)] h else none)) :=
  (am_xs_run am_ms 47 [(.aload_n 0, 1, []), (.getfield 9, 3, [99, 0, 8110, 0]), (.iload_n 1, 1, [])] 16 _ _ h (by decide +kernel)).trans rfl
set_option maxHeartbeats 4000000 in
theorem bk_48_0 (x0 : Nat) (x1 : Int) (h : am_H) : am_run am_ms 48 0 [am_K x0, am_I x1, am_K 1] [] h = am_run am_ms 48 2 [am_K x0, am_I x1, am_I 0] [] h :=
  (am_xs_run am_ms 48 [(.iconst 0, 1, []), (.istore_n 2, 1, [])] 0 _ _ h (by decide +kernel)).trans rfl
theorem en_48 (x0 : Nat) (x1 : Int) (h : am_H) : am_call am_ms 48 [am_K x0, am_I x1] h = am_run am_ms 48 0 [am_K x0, am_I x1, am_K 1] [] h := rfl
set_option maxHeartbeats 4000000 in
theorem bk_48_2 (x0 : Nat) (x1 : Int) (x2 : Int) (h : am_H) : am_run am_ms 48 2 [am_K x0, am_I x1, am_I x2] [] h = (bif Nat.beq x0 1 then none else (bif am_istx x0 then ((am_cI 20 [am_K x0] h).bind fun r1 => (bif decide (r1.1 ≤ x2) then am_run am_ms 48 27 [am_K x0, am_I x1, am_I x2] [] r1.2 else (bif Nat.beq x0 1 then none else (bif am_istx x0 then ((am_cI 47 [am_K x0, am_I x2] r1.2).bind fun r2 => (bif decide (¬ r2.1 = x1) then am_run am_ms 48 21 [am_K x0, am_I x1, am_I x2] [] r2.2 else some (some (am_I x2), r2.2))) else none)))) else none)) :=
  (am_xs_run am_ms 48 [(.iload_n 2, 1, []), (.aload_n 0, 1, []), (.invokevirtual 78, 3, [5, 20, 1, 0, 1, 6091, 2120, 2121]), (.if_icmp .ge 20, 3, []), (.aload_n 0, 1, []), (.iload_n 2, 1, []), (.invokevirtual 82, 3, [5, 47, 2, 0, 1, 6092, 6093, 6094]), (.iload_n 1, 1, []), (.if_icmp .ne 5, 3, []), (.iload_n 2, 1, []), (.ireturn, 1, [0])] 2 _ _ h (by decide +kernel)).trans rfl
set_option maxHeartbeats 4000000 in
theorem bk_48_21 (x0 : Nat) (x1 : Int) (x2 : Int) (h : am_H) : am_run am_ms 48 21 [am_K x0, am_I x1, am_I x2] [] h = am_run am_ms 48 2 [am_K x0, am_I x1, am_I (am_w (x2 + 1))] [] h :=
  (am_xs_run am_ms 48 [(.iinc 2 1, 3, []), (.goto (-22), 3, [])] 21 _ _ h (by decide +kernel)).trans rfl
set_option maxHeartbeats 4000000 in
theorem bk_48_27 (x0 : Nat) (x1 : Int) (x2 : Int) (h : am_H) : am_run am_ms 48 27 [am_K x0, am_I x1, am_I x2] [] h = some (some (am_I (-1)), h) :=
  (am_xs_run am_ms 48 [(.iconst (-1), 1, []), (.ireturn, 1, [0])] 27 _ _ h (by decide +kernel)).trans rfl
set_option maxHeartbeats 4000000 in
theorem bk_49_0 (x0 : Int) (x1 : Int) (h : am_H) : am_run am_ms 49 0 [am_I x0, am_I x1] [] h = (bif decide (¬ (am_and (am_shr x0 x1) 1) = 1) then am_run am_ms 49 13 [am_I x0, am_I x1] [] h else am_run am_ms 49 14 [am_I x0, am_I x1] [am_I 1] h) :=
  (am_xs_run am_ms 49 [(.iload_n 0, 1, []), (.iload_n 1, 1, []), (.ishr, 1, []), (.iconst 1, 1, []), (.iand, 1, []), (.iconst 1, 1, []), (.if_icmp .ne 7, 3, []), (.iconst 1, 1, []), (.goto 4, 3, [])] 0 _ _ h (by decide +kernel)).trans rfl
theorem en_49 (x0 : Int) (x1 : Int) (h : am_H) : am_call am_ms 49 [am_I x0, am_I x1] h = am_run am_ms 49 0 [am_I x0, am_I x1] [] h := rfl
set_option maxHeartbeats 4000000 in
theorem bk_49_13 (x0 : Int) (x1 : Int) (h : am_H) : am_run am_ms 49 13 [am_I x0, am_I x1] [] h = am_run am_ms 49 14 [am_I x0, am_I x1] [am_I 0] h :=
  (am_xs_run am_ms 49 [(.iconst 0, 1, [])] 13 _ _ h (by decide +kernel)).trans rfl
set_option maxHeartbeats 4000000 in
theorem bk_49_14 (x0 : Int) (x1 : Int) (y0 : Int) (h : am_H) : am_run am_ms 49 14 [am_I x0, am_I x1] [am_I y0] h = (bif am_rok 1 y0 then some (some (am_I y0), h) else none) :=
  (am_xs_run am_ms 49 [(.ireturn, 1, [1])] 14 _ _ h (by decide +kernel)).trans rfl
set_option maxHeartbeats 4000000 in
theorem bk_50_0 (x0 : Nat) (h : am_H) : am_run am_ms 50 0 [am_R x0] [] h = ((am_gfI h x0 9 4).bind fun f1 => (bif decide (¬ f1 = (-1)) then am_run am_ms 50 16 [am_R x0] [] h else ((am_gfI h x0 9 3).bind fun f2 => ((am_pf h x0 9 4 (am_I f2)).bind fun h3 => am_run am_ms 50 16 [am_R x0] [] h3)))) :=
  (am_xs_run am_ms 50 [(.aload_n 0, 1, []), (.getfield 75, 3, [9, 4, 5187, 0]), (.iconst (-1), 1, []), (.if_icmp .ne 11, 3, []), (.aload_n 0, 1, []), (.aload_n 0, 1, []), (.getfield 68, 3, [9, 3, 5186, 0]), (.putfield 75, 3, [9, 4, 5187, 0])] 0 _ _ h (by decide +kernel)).trans rfl
theorem en_50 (x0 : Nat) (h : am_H) : am_call am_ms 50 [am_R x0] h = am_run am_ms 50 0 [am_R x0] [] h := rfl
set_option maxHeartbeats 4000000 in
theorem bk_50_16 (x0 : Nat) (h : am_H) : am_run am_ms 50 16 [am_R x0] [] h = some (none, h) :=
  (am_xs_run am_ms 50 [(.return_, 1, [])] 16 _ _ h (by decide +kernel)).trans rfl
set_option maxHeartbeats 4000000 in
theorem bk_51_0 (x0 : Int) (h : am_H) : am_run am_ms 51 0 [am_I x0] [] h = am_run am_ms 51 1 [am_I x0] [am_I x0] h :=
  (am_xs_run am_ms 51 [(.iload_n 0, 1, [])] 0 _ _ h (by decide +kernel)).trans rfl
theorem en_51 (x0 : Int) (h : am_H) : am_call am_ms 51 [am_I x0] h = am_run am_ms 51 0 [am_I x0] [] h := rfl
theorem bk_51_1 (x0 : Int) (y0 : Int) (h : am_H) : am_run am_ms 51 1 [am_I x0] [am_I y0] h = am_run am_ms 51 (am_lsw 1 41 #[(0, 35), (1, 37), (6, 39)] y0) [am_I x0] [] h := by
  rw [am_run_eq, show am_code am_ms 51 1 = some (.lookupswitch 41 #[(0, 35), (1, 37), (6, 39)], 35, []) from by decide +kernel]
  rfl
set_option maxHeartbeats 4000000 in
theorem bk_51_36 (x0 : Int) (h : am_H) : am_run am_ms 51 36 [am_I x0] [] h = some (some (am_I 3), h) :=
  (am_xs_run am_ms 51 [(.iconst 3, 1, []), (.ireturn, 1, [0])] 36 _ _ h (by decide +kernel)).trans rfl
set_option maxHeartbeats 4000000 in
theorem bk_51_38 (x0 : Int) (h : am_H) : am_run am_ms 51 38 [am_I x0] [] h = some (some (am_I 2), h) :=
  (am_xs_run am_ms 51 [(.iconst 2, 1, []), (.ireturn, 1, [0])] 38 _ _ h (by decide +kernel)).trans rfl
set_option maxHeartbeats 4000000 in
theorem bk_51_40 (x0 : Int) (h : am_H) : am_run am_ms 51 40 [am_I x0] [] h = some (some (am_I 0), h) :=
  (am_xs_run am_ms 51 [(.iconst 0, 1, []), (.ireturn, 1, [0])] 40 _ _ h (by decide +kernel)).trans rfl
set_option maxHeartbeats 4000000 in
theorem bk_51_42 (x0 : Int) (h : am_H) : am_run am_ms 51 42 [am_I x0] [] h = some (some (am_I 1), h) :=
  (am_xs_run am_ms 51 [(.iconst 1, 1, []), (.ireturn, 1, [0])] 42 _ _ h (by decide +kernel)).trans rfl
set_option maxHeartbeats 4000000 in
theorem bk_52_0 (x0 : Int) (h : am_H) : am_run am_ms 52 0 [am_I x0] [] h = am_run am_ms 52 1 [am_I x0] [am_I x0] h :=
  (am_xs_run am_ms 52 [(.iload_n 0, 1, [])] 0 _ _ h (by decide +kernel)).trans rfl
theorem en_52 (x0 : Int) (h : am_H) : am_call am_ms 52 [am_I x0] h = am_run am_ms 52 0 [am_I x0] [] h := rfl
theorem bk_52_1 (x0 : Int) (y0 : Int) (h : am_H) : am_run am_ms 52 1 [am_I x0] [am_I y0] h = am_run am_ms 52 (am_tsw 1 48 1 6 #[39, 48, 48, 42, 44, 46] y0) [am_I x0] [] h := by
  rw [am_run_eq, show am_code am_ms 52 1 = some (.tableswitch 48 1 6 #[39, 48, 48, 42, 44, 46], 39, []) from by decide +kernel]
  rfl
set_option maxHeartbeats 4000000 in
theorem bk_52_40 (x0 : Int) (h : am_H) : am_run am_ms 52 40 [am_I x0] [] h = some (some (am_I 16), h) :=
  (am_xs_run am_ms 52 [(.bipush 16, 2, []), (.ireturn, 1, [0])] 40 _ _ h (by decide +kernel)).trans rfl
set_option maxHeartbeats 4000000 in
theorem bk_52_43 (x0 : Int) (h : am_H) : am_run am_ms 52 43 [am_I x0] [] h = some (some (am_I 3), h) :=
  (am_xs_run am_ms 52 [(.iconst 3, 1, []), (.ireturn, 1, [0])] 43 _ _ h (by decide +kernel)).trans rfl
set_option maxHeartbeats 4000000 in
theorem bk_52_45 (x0 : Int) (h : am_H) : am_run am_ms 52 45 [am_I x0] [] h = some (some (am_I 2), h) :=
  (am_xs_run am_ms 52 [(.iconst 2, 1, []), (.ireturn, 1, [0])] 45 _ _ h (by decide +kernel)).trans rfl
set_option maxHeartbeats 4000000 in
theorem bk_52_47 (x0 : Int) (h : am_H) : am_run am_ms 52 47 [am_I x0] [] h = some (some (am_I 3), h) :=
  (am_xs_run am_ms 52 [(.iconst 3, 1, []), (.ireturn, 1, [0])] 47 _ _ h (by decide +kernel)).trans rfl
set_option maxHeartbeats 4000000 in
theorem bk_52_49 (x0 : Int) (h : am_H) : am_run am_ms 52 49 [am_I x0] [] h = some (some (am_I 8), h) :=
  (am_xs_run am_ms 52 [(.bipush 8, 2, []), (.ireturn, 1, [0])] 49 _ _ h (by decide +kernel)).trans rfl
set_option maxHeartbeats 4000000 in
theorem bk_53_0 (x0 : Nat) (h : am_H) : am_run am_ms 53 0 [am_R x0] [] h = ((am_isc h x0 9).bind fun _ => ((am_cI 42 [am_R x0] h).bind fun r1 => (bif decide (r1.1 < 48) then am_run am_ms 53 22 [am_R x0] [] r1.2 else ((am_isc r1.2 x0 9).bind fun _ => ((am_cI 42 [am_R x0] r1.2).bind fun r2 => (bif decide (57 < r2.1) then am_run am_ms 53 22 [am_R x0] [] r2.2 else am_run am_ms 53 23 [am_R x0] [am_I 1] r2.2)))))) :=
  (am_xs_run am_ms 53 [(.aload_n 0, 1, []), (.invokevirtual 71, 3, [0, 42, 1, 9, 1, 6078, 6080, 41]), (.bipush 48, 2, []), (.if_icmp .lt 16, 3, []), (.aload_n 0, 1, []), (.invokevirtual 71, 3, [0, 42, 1, 9, 1, 6078, 6080, 41]), (.bipush 57, 2, []), (.if_icmp .gt 7, 3, []), (.iconst 1, 1, []), (.goto 4, 3, [])] 0 _ _ h (by decide +kernel)).trans rfl
theorem en_53 (x0 : Nat) (h : am_H) : am_call am_ms 53 [am_R x0] h = am_run am_ms 53 0 [am_R x0] [] h := rfl
set_option maxHeartbeats 4000000 in
theorem bk_53_22 (x0 : Nat) (h : am_H) : am_run am_ms 53 22 [am_R x0] [] h = am_run am_ms 53 23 [am_R x0] [am_I 0] h :=
  (am_xs_run am_ms 53 [(.iconst 0, 1, [])] 22 _ _ h (by decide +kernel)).trans rfl
set_option maxHeartbeats 4000000 in
theorem bk_53_23 (x0 : Nat) (y0 : Int) (h : am_H) : am_run am_ms 53 23 [am_R x0] [am_I y0] h = (bif am_rok 1 y0 then some (some (am_I y0), h) else none) :=
  (am_xs_run am_ms 53 [(.ireturn, 1, [1])] 23 _ _ h (by decide +kernel)).trans rfl
set_option maxHeartbeats 4000000 in
theorem bk_54_0 (x0 : Nat) (x1 : Int) (x2 : Int) (h : am_H) : am_run am_ms 54 0 [am_R x0, am_I x1, am_I x2, am_K 1, am_K 1, am_K 1] [] h = ((am_isc h x0 9).bind fun _ => ((am_cI 43 [am_R x0] h).bind fun r1 => ((am_isc r1.2 x0 9).bind fun _ => ((am_cI 53 [am_R x0] r1.2).bind fun r2 => (bif decide (¬ r2.1 = 0) then am_run am_ms 54 18 [am_R x0, am_I x1, am_I x2, am_I r1.1, am_K 1, am_K 1] [] r2.2 else ((am_isc r2.2 x0 9).bind fun _ => ((am_cV 50 [am_R x0] r2.2).bind fun h3 => some (some (am_I 0), h3)))))))) :=
  (am_xs_run am_ms 54 [(.aload_n 0, 1, []), (.invokevirtual 86, 3, [0, 43, 1, 9, 1, 6074, 6076, 40]), (.istore_n 3, 1, []), (.aload_n 0, 1, []), (.invokevirtual 89, 3, [0, 53, 1, 9, 1, 6129, 6131, 45]), (.ifCond .ne 9, 3, []), (.aload_n 0, 1, []), (.invokevirtual 93, 3, [0, 50, 1, 9, 0, 6115, 6117, 43]), (.iconst 0, 1, []), (.ireturn, 1, [0])] 0 _ _ h (by decide +kernel)).trans rfl
theorem en_54 (x0 : Nat) (x1 : Int) (x2 : Int) (h : am_H) : am_call am_ms 54 [am_R x0, am_I x1, am_I x2] h = am_run am_ms 54 0 [am_R x0, am_I x1, am_I x2, am_K 1, am_K 1, am_K 1] [] h := rfl
set_option maxHeartbeats 4000000 in
theorem bk_54_18 (x0 : Nat) (x1 : Int) (x2 : Int) (x3 : Int) (h : am_H) : am_run am_ms 54 18 [am_R x0, am_I x1, am_I x2, am_I x3, am_K 1, am_K 1] [] h = am_run am_ms 54 24 [am_R x0, am_I x1, am_I x2, am_I x3, am_I 0, am_I 0] [] h :=
  (am_xs_run am_ms 54 [(.iconst 0, 1, []), (.istore 4, 2, []), (.iconst 0, 1, []), (.istore 5, 2, [])] 18 _ _ h (by decide +kernel)).trans rfl
set_option maxHeartbeats 4000000 in
theorem bk_54_24 (x0 : Nat) (x1 : Int) (x2 : Int) (x3 : Int) (x4 : Int) (x5 : Int) (h : am_H) : am_run am_ms 54 24 [am_R x0, am_I x1, am_I x2, am_I x3, am_I x4, am_I x5] [] h = (bif decide (3 ≤ x5) then am_run am_ms 54 68 [am_R x0, am_I x1, am_I x2, am_I x3, am_I x4, am_I x5] [] h else ((am_isc h x0 9).bind fun _ => ((am_cI 53 [am_R x0] h).bind fun r1 => (bif decide (r1.1 = 0) then am_run am_ms 54 68 [am_R x0, am_I x1, am_I x2, am_I x3, am_I x4, am_I x5] [] r1.2 else ((am_isc r1.2 x0 9).bind fun _ => ((am_cI 42 [am_R x0] r1.2).bind fun r2 => am_run am_ms 54 50 [am_R x0, am_I x1, am_I x2, am_I x3, am_I x4, am_I x5] [am_I (am_w ((am_w ((am_w (10 * x4)) + r2.1)) - 48))] r2.2)))))) :=
  (am_xs_run am_ms 54 [(.iload 5, 2, []), (.iconst 3, 1, []), (.if_icmp .ge 41, 3, []), (.aload_n 0, 1, []), (.invokevirtual 89, 3, [0, 53, 1, 9, 1, 6129, 6131, 45]), (.ifCond .eq 34, 3, []), (.bipush 10, 2, []), (.iload 4, 2, []), (.imul, 1, []), (.aload_n 0, 1, []), (.invokevirtual 71, 3, [0, 42, 1, 9, 1, 6078, 6080, 41]), (.iadd, 1, []), (.bipush 48, 2, []), (.isub, 1, [])] 24 _ _ h (by decide +kernel)).trans rfl
set_option maxHeartbeats 4000000 in
theorem bk_54_50 (x0 : Nat) (x1 : Int) (x2 : Int) (x3 : Int) (x4 : Int) (x5 : Int) (y0 : Int) (h : am_H) : am_run am_ms 54 50 [am_R x0, am_I x1, am_I x2, am_I x3, am_I x4, am_I x5] [am_I y0] h = ((am_gfI h x0 9 3).bind fun f1 => ((am_pf h x0 9 3 (am_I (am_w (f1 + 1)))).bind fun h2 => am_run am_ms 54 24 [am_R x0, am_I x1, am_I x2, am_I x3, am_I y0, am_I (am_w (x5 + 1))] [] h2)) :=
  (am_xs_run am_ms 54 [(.istore 4, 2, []), (.aload_n 0, 1, []), (.dup, 1, []), (.getfield 68, 3, [9, 3, 5186, 0]), (.iconst 1, 1, []), (.iadd, 1, []), (.putfield 68, 3, [9, 3, 5186, 0]), (.iinc 5 1, 3, []), (.goto (-41), 3, [])] 50 _ _ h (by decide +kernel)).trans rfl
set_option maxHeartbeats 4000000 in
theorem bk_54_68 (x0 : Nat) (x1 : Int) (x2 : Int) (x3 : Int) (x4 : Int) (x5 : Int) (h : am_H) : am_run am_ms 54 68 [am_R x0, am_I x1, am_I x2, am_I x3, am_I x4, am_I x5] [] h = ((am_isc h x0 9).bind fun _ => ((am_cI 53 [am_R x0] h).bind fun r1 => (bif decide (r1.1 = 0) then am_run am_ms 54 82 [am_R x0, am_I x1, am_I x2, am_I x3, am_I x4, am_I x5] [] r1.2 else ((am_isc r1.2 x0 9).bind fun _ => ((am_cV 50 [am_R x0] r1.2).bind fun h2 => am_run am_ms 54 109 [am_R x0, am_I x1, am_I x2, am_I x3, am_I x4, am_I x5] [] h2))))) :=
  (am_xs_run am_ms 54 [(.aload_n 0, 1, []), (.invokevirtual 89, 3, [0, 53, 1, 9, 1, 6129, 6131, 45]), (.ifCond .eq 10, 3, []), (.aload_n 0, 1, []), (.invokevirtual 93, 3, [0, 50, 1, 9, 0, 6115, 6117, 43]), (.goto 30, 3, [])] 68 _ _ h (by decide +kernel)).trans rfl
set_option maxHeartbeats 4000000 in
theorem bk_54_82 (x0 : Nat) (x1 : Int) (x2 : Int) (x3 : Int) (x4 : Int) (x5 : Int) (h : am_H) : am_run am_ms 54 82 [am_R x0, am_I x1, am_I x2, am_I x3, am_I x4, am_I x5] [] h = ((am_cI 40 [am_L x4, am_L x1, am_L x2] h).bind fun r1 => (bif decide (¬ r1.1 = 0) then am_run am_ms 54 109 [am_R x0, am_I x1, am_I x2, am_I x3, am_I x4, am_I x5] [] r1.2 else ((am_gfI r1.2 x0 9 3).bind fun f2 => ((am_pf r1.2 x0 9 3 (am_I (am_w (f2 - 1)))).bind fun h3 => am_run am_ms 54 105 [am_R x0, am_I x1, am_I x2, am_I x3, am_I x4, am_I x5] [] h3)))) :=
  (am_xs_run am_ms 54 [(.iload 4, 2, []), (.i2l, 1, []), (.iload_n 1, 1, []), (.i2l, 1, []), (.iload_n 2, 1, []), (.i2l, 1, []), (.invokestatic 96, 3, [1, 40, 3, 0, 1, 6060, 6061]), (.ifCond .ne 17, 3, []), (.aload_n 0, 1, []), (.dup, 1, []), (.getfield 68, 3, [9, 3, 5186, 0]), (.iconst 1, 1, []), (.isub, 1, []), (.putfield 68, 3, [9, 3, 5186, 0])] 82 _ _ h (by decide +kernel)).trans rfl
set_option maxHeartbeats 4000000 in
theorem bk_54_105 (x0 : Nat) (x1 : Int) (x2 : Int) (x3 : Int) (x4 : Int) (x5 : Int) (h : am_H) : am_run am_ms 54 105 [am_R x0, am_I x1, am_I x2, am_I x3, am_I x4, am_I x5] [] h = ((am_isc h x0 9).bind fun _ => ((am_cV 50 [am_R x0] h).bind fun h1 => am_run am_ms 54 109 [am_R x0, am_I x1, am_I x2, am_I x3, am_I x4, am_I x5] [] h1)) :=
  (am_xs_run am_ms 54 [(.aload_n 0, 1, []), (.invokevirtual 93, 3, [0, 50, 1, 9, 0, 6115, 6117, 43])] 105 _ _ h (by decide +kernel)).trans rfl
set_option maxHeartbeats 4000000 in
theorem bk_54_109 (x0 : Nat) (x1 : Int) (x2 : Int) (x3 : Int) (x4 : Int) (x5 : Int) (h : am_H) : am_run am_ms 54 109 [am_R x0, am_I x1, am_I x2, am_I x3, am_I x4, am_I x5] [] h = some (some (am_I x4), h) :=
  (am_xs_run am_ms 54 [(.iload 4, 2, []), (.ireturn, 1, [0])] 109 _ _ h (by decide +kernel)).trans rfl
set_option maxHeartbeats 4000000 in
theorem bk_55_0 (x0 : Nat) (x1 : Int) (h : am_H) : am_run am_ms 55 0 [am_R x0, am_I x1, am_K 1, am_K 1, am_K 1, am_K 1, am_K 1] [] h = (bif decide (x1 = 0) then am_run am_ms 55 9 [am_R x0, am_I x1, am_K 1, am_K 1, am_K 1, am_K 1, am_K 1] [] h else am_run am_ms 55 11 [am_R x0, am_I x1, am_K 1, am_K 1, am_K 1, am_K 1, am_K 1] [am_K 19] h) :=
  (am_xs_run am_ms 55 [(.iload_n 1, 1, []), (.ifCond .eq 8, 3, []), (.ldc 100, 2, [1, 19, 6086]), (.goto 5, 3, [])] 0 _ _ h (by decide +kernel)).trans rfl
theorem en_55 (x0 : Nat) (x1 : Int) (h : am_H) : am_call am_ms 55 [am_R x0, am_I x1] h = am_run am_ms 55 0 [am_R x0, am_I x1, am_K 1, am_K 1, am_K 1, am_K 1, am_K 1] [] h := rfl
set_option maxHeartbeats 4000000 in
theorem bk_55_9 (x0 : Nat) (x1 : Int) (h : am_H) : am_run am_ms 55 9 [am_R x0, am_I x1, am_K 1, am_K 1, am_K 1, am_K 1, am_K 1] [] h = am_run am_ms 55 11 [am_R x0, am_I x1, am_K 1, am_K 1, am_K 1, am_K 1, am_K 1] [am_K 20] h :=
  (am_xs_run am_ms 55 [(.ldc 102, 2, [1, 20, 6087])] 9 _ _ h (by decide +kernel)).trans rfl
set_option maxHeartbeats 4000000 in
theorem bk_55_11 (x0 : Nat) (x1 : Int) (y0 : Nat) (h : am_H) : am_run am_ms 55 11 [am_R x0, am_I x1, am_K 1, am_K 1, am_K 1, am_K 1, am_K 1] [am_K y0] h = (bif !(Nat.beq y0 1) && !(Nat.beq y0 0) then ((am_gfI h x0 9 11).bind fun f1 => (bif Nat.beq y0 1 then none else ((am_isc h x0 9).bind fun _ => ((am_cI 43 [am_R x0] h).bind fun r2 => ((am_cI 48 [am_K y0, am_I r2.1] r2.2).bind fun r3 => am_run am_ms 55 32 [am_R x0, am_I x1, am_K y0, am_I (am_w (2 * (am_w (f1 - 1)))), am_I 0, am_K 1, am_K 1] [am_I r3.1] r3.2))))) else none) :=
  (am_xs_run am_ms 55 [(.astore_n 2, 1, []), (.iconst 2, 1, []), (.aload_n 0, 1, []), (.getfield 104, 3, [9, 11, 5194, 0]), (.iconst 1, 1, []), (.isub, 1, []), (.imul, 1, []), (.istore_n 3, 1, []), (.iconst 0, 1, []), (.istore 4, 2, []), (.aload_n 2, 1, []), (.aload_n 0, 1, []), (.invokevirtual 86, 3, [0, 43, 1, 9, 1, 6074, 6076, 40]), (.invokestatic 107, 3, [1, 48, 2, 0, 1, 6088, 6089])] 11 _ _ h (by decide +kernel)).trans rfl
set_option maxHeartbeats 4000000 in
theorem bk_55_32 (x0 : Nat) (x1 : Int) (x2 : Nat) (x3 : Int) (x4 : Int) (y0 : Int) (h : am_H) : am_run am_ms 55 32 [am_R x0, am_I x1, am_K x2, am_I x3, am_I x4, am_K 1, am_K 1] [am_I y0] h = am_run am_ms 55 34 [am_R x0, am_I x1, am_K x2, am_I x3, am_I x4, am_I y0, am_K 1] [] h :=
  (am_xs_run am_ms 55 [(.istore 5, 2, [])] 32 _ _ h (by decide +kernel)).trans rfl
set_option maxHeartbeats 4000000 in
theorem bk_55_34 (x0 : Nat) (x1 : Int) (x2 : Nat) (x3 : Int) (x4 : Int) (x5 : Int) (x6 : am_V) (h : am_H) : am_run am_ms 55 34 [am_R x0, am_I x1, am_K x2, am_I x3, am_I x4, am_I x5, x6] [] h = (bif decide (x5 = (-1)) then am_run am_ms 55 171 [am_R x0, am_I x1, am_K x2, am_I x3, am_I x4, am_I x5, x6] [] h else ((am_gfI h x0 9 4).bind fun f1 => (bif decide (¬ f1 = (-1)) then am_run am_ms 55 171 [am_R x0, am_I x1, am_K x2, am_I x3, am_I x4, am_I x5, x6] [] h else ((am_cI 49 [am_I x4, am_I x5] h).bind fun r2 => (bif decide (r2.1 = 0) then am_run am_ms 55 63 [am_R x0, am_I x1, am_K x2, am_I x3, am_I x4, am_I x5, x6] [] r2.2 else ((am_isc r2.2 x0 9).bind fun _ => ((am_cV 50 [am_R x0] r2.2).bind fun h3 => some (none, h3)))))))) :=
  (am_xs_run am_ms 55 [(.iload 5, 2, []), (.iconst (-1), 1, []), (.if_icmp .eq 134, 3, []), (.aload_n 0, 1, []), (.getfield 75, 3, [9, 4, 5187, 0]), (.iconst (-1), 1, []), (.if_icmp .ne 126, 3, []), (.iload 4, 2, []), (.iload 5, 2, []), (.invokestatic 111, 3, [1, 49, 2, 0, 1, 6112, 6113]), (.ifCond .eq 8, 3, []), (.aload_n 0, 1, []), (.invokevirtual 93, 3, [0, 50, 1, 9, 0, 6115, 6117, 43]), (.return_, 1, [])] 34 _ _ h (by decide +kernel)).trans rfl
set_option maxHeartbeats 4000000 in
theorem bk_55_63 (x0 : Nat) (x1 : Int) (x2 : Nat) (x3 : Int) (x4 : Int) (x5 : Int) (x6 : am_V) (h : am_H) : am_run am_ms 55 63 [am_R x0, am_I x1, am_K x2, am_I x3, am_I x4, am_I x5, x6] [] h = ((am_gfI h x0 9 3).bind fun f1 => ((am_pf h x0 9 3 (am_I (am_w (f1 + 1)))).bind fun h2 => (bif decide (x1 = 0) then am_run am_ms 55 103 [am_R x0, am_I x1, am_K x2, am_I x3, am_I (am_or x4 (am_shl 1 x5)), am_I x5, x6] [] h2 else am_run am_ms 55 86 [am_R x0, am_I x1, am_K x2, am_I x3, am_I (am_or x4 (am_shl 1 x5)), am_I x5, x6] [] h2))) :=
  (am_xs_run am_ms 55 [(.iload 4, 2, []), (.iconst 1, 1, []), (.iload 5, 2, []), (.ishl, 1, []), (.ior, 1, []), (.istore 4, 2, []), (.aload_n 0, 1, []), (.dup, 1, []), (.getfield 68, 3, [9, 3, 5186, 0]), (.iconst 1, 1, []), (.iadd, 1, []), (.putfield 68, 3, [9, 3, 5186, 0]), (.iload_n 1, 1, []), (.ifCond .eq 20, 3, [])] 63 _ _ h (by decide +kernel)).trans rfl
set_option maxHeartbeats 4000000 in
theorem bk_55_86 (x0 : Nat) (x1 : Int) (x2 : Nat) (x3 : Int) (x4 : Int) (x5 : Int) (x6 : am_V) (h : am_H) : am_run am_ms 55 86 [am_R x0, am_I x1, am_K x2, am_I x3, am_I x4, am_I x5, x6] [] h = ((am_cI 51 [am_I x5] h).bind fun r1 => ((am_cI 52 [am_I x5] r1.2).bind fun r2 => ((am_isc r2.2 x0 9).bind fun _ => ((am_cI 54 [am_R x0, am_I r1.1, am_I r2.1] r2.2).bind fun r3 => am_run am_ms 55 121 [am_R x0, am_I x1, am_K x2, am_I x3, am_I x4, am_I x5, x6] [am_I r3.1] r3.2)))) :=
  (am_xs_run am_ms 55 [(.aload_n 0, 1, []), (.iload 5, 2, []), (.invokestatic 115, 3, [1, 51, 1, 0, 1, 6119, 6120]), (.iload 5, 2, []), (.invokestatic 118, 3, [1, 52, 1, 0, 1, 6122, 6123]), (.invokevirtual 121, 3, [0, 54, 3, 9, 1, 6125, 6127, 44]), (.goto 21, 3, [])] 86 _ _ h (by decide +kernel)).trans rfl
set_option maxHeartbeats 4000000 in
theorem bk_55_103 (x0 : Nat) (x1 : Int) (x2 : Nat) (x3 : Int) (x4 : Int) (x5 : Int) (x6 : am_V) (h : am_H) : am_run am_ms 55 103 [am_R x0, am_I x1, am_K x2, am_I x3, am_I x4, am_I x5, x6] [] h = (bif decide (¬ x5 = 0) then am_run am_ms 55 115 [am_R x0, am_I x1, am_K x2, am_I x3, am_I x4, am_I x5, x6] [am_I 0, am_R x0] h else am_run am_ms 55 118 [am_R x0, am_I x1, am_K x2, am_I x3, am_I x4, am_I x5, x6] [am_I 31, am_I 0, am_R x0] h) :=
  (am_xs_run am_ms 55 [(.aload_n 0, 1, []), (.iconst 0, 1, []), (.iload 5, 2, []), (.ifCond .ne 8, 3, []), (.bipush 31, 2, []), (.goto 6, 3, [])] 103 _ _ h (by decide +kernel)).trans rfl
set_option maxHeartbeats 4000000 in
theorem bk_55_115 (x0 : Nat) (x1 : Int) (x2 : Nat) (x3 : Int) (x4 : Int) (x5 : Int) (x6 : am_V) (y0 : Int) (y1 : Nat) (h : am_H) : am_run am_ms 55 115 [am_R x0, am_I x1, am_K x2, am_I x3, am_I x4, am_I x5, x6] [am_I y0, am_R y1] h = am_run am_ms 55 118 [am_R x0, am_I x1, am_K x2, am_I x3, am_I x4, am_I x5, x6] [am_I 999, am_I y0, am_R y1] h :=
  (am_xs_run am_ms 55 [(.sipush 999, 3, [])] 115 _ _ h (by decide +kernel)).trans rfl
set_option maxHeartbeats 4000000 in
theorem bk_55_118 (x0 : Nat) (x1 : Int) (x2 : Nat) (x3 : Int) (x4 : Int) (x5 : Int) (x6 : am_V) (y0 : Int) (y1 : Int) (y2 : Nat) (h : am_H) : am_run am_ms 55 118 [am_R x0, am_I x1, am_K x2, am_I x3, am_I x4, am_I x5, x6] [am_I y0, am_I y1, am_R y2] h = ((am_isc h y2 9).bind fun _ => ((am_cI 54 [am_R y2, am_I y1, am_I y0] h).bind fun r1 => am_run am_ms 55 121 [am_R x0, am_I x1, am_K x2, am_I x3, am_I x4, am_I x5, x6] [am_I r1.1] r1.2)) :=
  (am_xs_run am_ms 55 [(.invokevirtual 121, 3, [0, 54, 3, 9, 1, 6125, 6127, 44])] 118 _ _ h (by decide +kernel)).trans rfl
set_option maxHeartbeats 4000000 in
theorem bk_55_121 (x0 : Nat) (x1 : Int) (x2 : Nat) (x3 : Int) (x4 : Int) (x5 : Int) (x6 : am_V) (y0 : Int) (h : am_H) : am_run am_ms 55 121 [am_R x0, am_I x1, am_K x2, am_I x3, am_I x4, am_I x5, x6] [am_I y0] h = (bif decide (x1 = 0) then am_run am_ms 55 139 [am_R x0, am_I x1, am_K x2, am_I x3, am_I x4, am_I x5, am_I y0] [] h else ((am_gfR h x0 9 5).bind fun f1 => ((am_wr h f1 0 x5 y0).bind fun h2 => am_run am_ms 55 150 [am_R x0, am_I x1, am_K x2, am_I x3, am_I x4, am_I x5, am_I y0] [] h2))) :=
  (am_xs_run am_ms 55 [(.istore 6, 2, []), (.iload_n 1, 1, []), (.ifCond .eq 15, 3, []), (.aload_n 0, 1, []), (.getfield 13, 3, [9, 5, 5188, 3]), (.iload 5, 2, []), (.iload 6, 2, []), (.iastore, 1, []), (.goto 14, 3, [])] 121 _ _ h (by decide +kernel)).trans rfl
set_option maxHeartbeats 4000000 in
theorem bk_55_139 (x0 : Nat) (x1 : Int) (x2 : Nat) (x3 : Int) (x4 : Int) (x5 : Int) (x6 : Int) (h : am_H) : am_run am_ms 55 139 [am_R x0, am_I x1, am_K x2, am_I x3, am_I x4, am_I x5, am_I x6] [] h = ((am_gfR h x0 9 7).bind fun f1 => ((am_wr h f1 0 (am_w (x3 + x5)) x6).bind fun h2 => am_run am_ms 55 150 [am_R x0, am_I x1, am_K x2, am_I x3, am_I x4, am_I x5, am_I x6] [] h2)) :=
  (am_xs_run am_ms 55 [(.aload_n 0, 1, []), (.getfield 20, 3, [9, 7, 5190, 3]), (.iload_n 3, 1, []), (.iload 5, 2, []), (.iadd, 1, []), (.iload 6, 2, []), (.iastore, 1, [])] 139 _ _ h (by decide +kernel)).trans rfl
set_option maxHeartbeats 4000000 in
theorem bk_55_150 (x0 : Nat) (x1 : Int) (x2 : Nat) (x3 : Int) (x4 : Int) (x5 : Int) (x6 : Int) (h : am_H) : am_run am_ms 55 150 [am_R x0, am_I x1, am_K x2, am_I x3, am_I x4, am_I x5, am_I x6] [] h = ((am_gfI h x0 9 4).bind fun f1 => (bif decide (¬ f1 = (-1)) then am_run am_ms 55 168 [am_R x0, am_I x1, am_K x2, am_I x3, am_I x4, am_I x5, am_I x6] [] h else (bif Nat.beq x2 1 then none else ((am_isc h x0 9).bind fun _ => ((am_cI 43 [am_R x0] h).bind fun r2 => ((am_cI 48 [am_K x2, am_I r2.1] r2.2).bind fun r3 => am_run am_ms 55 168 [am_R x0, am_I x1, am_K x2, am_I x3, am_I x4, am_I r3.1, am_I x6] [] r3.2)))))) :=
  (am_xs_run am_ms 55 [(.aload_n 0, 1, []), (.getfield 75, 3, [9, 4, 5187, 0]), (.iconst (-1), 1, []), (.if_icmp .ne 13, 3, []), (.aload_n 2, 1, []), (.aload_n 0, 1, []), (.invokevirtual 86, 3, [0, 43, 1, 9, 1, 6074, 6076, 40]), (.invokestatic 107, 3, [1, 48, 2, 0, 1, 6088, 6089]), (.istore 5, 2, [])] 150 _ _ h (by decide +kernel)).trans rfl
set_option maxHeartbeats 4000000 in
theorem bk_55_168 (x0 : Nat) (x1 : Int) (x2 : Nat) (x3 : Int) (x4 : Int) (x5 : Int) (x6 : Int) (h : am_H) : am_run am_ms 55 168 [am_R x0, am_I x1, am_K x2, am_I x3, am_I x4, am_I x5, am_I x6] [] h = am_run am_ms 55 34 [am_R x0, am_I x1, am_K x2, am_I x3, am_I x4, am_I x5, am_I x6] [] h :=
  (am_xs_run am_ms 55 [(.goto (-134), 3, [])] 168 _ _ h (by decide +kernel)).trans rfl
set_option maxHeartbeats 4000000 in
theorem bk_55_171 (x0 : Nat) (x1 : Int) (x2 : Nat) (x3 : Int) (x4 : Int) (x5 : Int) (x6 : am_V) (h : am_H) : am_run am_ms 55 171 [am_R x0, am_I x1, am_K x2, am_I x3, am_I x4, am_I x5, x6] [] h = some (none, h) :=
  (am_xs_run am_ms 55 [(.return_, 1, [])] 171 _ _ h (by decide +kernel)).trans rfl
set_option maxHeartbeats 4000000 in
theorem bk_56_0 (x0 : Nat) (h : am_H) : am_run am_ms 56 0 [am_R x0, am_K 1] [] h = ((am_isc h x0 9).bind fun _ => ((am_cI 43 [am_R x0] h).bind fun r1 => (bif decide (¬ r1.1 = 115) then am_run am_ms 56 41 [am_R x0, am_I r1.1] [] r1.2 else ((am_gfI r1.2 x0 9 13).bind fun f2 => (bif decide (¬ f2 = 0) then am_run am_ms 56 41 [am_R x0, am_I r1.1] [] r1.2 else ((am_pf r1.2 x0 9 13 (am_I 1)).bind fun h3 => am_run am_ms 56 25 [am_R x0, am_I r1.1] [am_R x0, am_R x0] h3)))))) :=
  (am_xs_run am_ms 56 [(.aload_n 0, 1, []), (.invokevirtual 86, 3, [0, 43, 1, 9, 1, 6074, 6076, 40]), (.istore_n 1, 1, []), (.iload_n 1, 1, []), (.bipush 115, 2, []), (.if_icmp .ne 33, 3, []), (.aload_n 0, 1, []), (.getfield 125, 3, [9, 13, 5196, 1]), (.ifCond .ne 26, 3, []), (.aload_n 0, 1, []), (.iconst 1, 1, []), (.putfield 125, 3, [9, 13, 5196, 1]), (.aload_n 0, 1, []), (.dup, 1, [])] 0 _ _ h (by decide +kernel)).trans rfl
theorem en_56 (x0 : Nat) (h : am_H) : am_call am_ms 56 [am_R x0] h = am_run am_ms 56 0 [am_R x0, am_K 1] [] h := rfl
set_option maxHeartbeats 4000000 in
theorem bk_56_25 (x0 : Nat) (x1 : Int) (y0 : Nat) (y1 : Nat) (h : am_H) : am_run am_ms 56 25 [am_R x0, am_I x1] [am_R y0, am_R y1] h = ((am_gfI h y0 9 3).bind fun f1 => ((am_pf h y1 9 3 (am_I (am_w (f1 + 1)))).bind fun h2 => ((am_isc h2 x0 9).bind fun _ => ((am_cV 55 [am_R x0, am_I 1] h2).bind fun h3 => am_run am_ms 56 114 [am_R x0, am_I x1] [] h3)))) :=
  (am_xs_run am_ms 56 [(.getfield 68, 3, [9, 3, 5186, 0]), (.iconst 1, 1, []), (.iadd, 1, []), (.putfield 68, 3, [9, 3, 5186, 0]), (.aload_n 0, 1, []), (.iconst 1, 1, []), (.invokevirtual 129, 3, [0, 55, 2, 9, 0, 6082, 6084, 42]), (.goto 76, 3, [])] 25 _ _ h (by decide +kernel)).trans rfl
set_option maxHeartbeats 4000000 in
theorem bk_56_41 (x0 : Nat) (x1 : Int) (h : am_H) : am_run am_ms 56 41 [am_R x0, am_I x1] [] h = (bif decide (¬ x1 = 119) then am_run am_ms 56 110 [am_R x0, am_I x1] [] h else ((am_gfI h x0 9 11).bind fun f1 => (bif decide (24 ≤ f1) then am_run am_ms 56 110 [am_R x0, am_I x1] [] h else ((am_gfR h x0 9 7).bind fun f2 => ((am_gfI h x0 9 11).bind fun f3 => am_run am_ms 56 67 [am_R x0, am_I x1] [am_I 0, am_I (am_w (2 * f3)), am_R f2] h))))) :=
  (am_xs_run am_ms 56 [(.iload_n 1, 1, []), (.bipush 119, 2, []), (.if_icmp .ne 66, 3, []), (.aload_n 0, 1, []), (.getfield 104, 3, [9, 11, 5194, 0]), (.bipush 24, 2, []), (.if_icmp .ge 57, 3, []), (.aload_n 0, 1, []), (.getfield 20, 3, [9, 7, 5190, 3]), (.iconst 2, 1, []), (.aload_n 0, 1, []), (.getfield 104, 3, [9, 11, 5194, 0]), (.imul, 1, []), (.iconst 0, 1, [])] 41 _ _ h (by decide +kernel)).trans rfl
set_option maxHeartbeats 4000000 in
theorem bk_56_67 (x0 : Nat) (x1 : Int) (y0 : Int) (y1 : Int) (y2 : Nat) (h : am_H) : am_run am_ms 56 67 [am_R x0, am_I x1] [am_I y0, am_I y1, am_R y2] h = ((am_wr h y2 0 y1 y0).bind fun h1 => ((am_gfR h1 x0 9 7).bind fun f2 => ((am_gfI h1 x0 9 11).bind fun f3 => ((am_wr h1 f2 0 (am_w ((am_w (2 * f3)) + 1)) 0).bind fun h4 => ((am_gfI h4 x0 9 11).bind fun f5 => am_run am_ms 56 87 [am_R x0, am_I x1] [am_I f5, am_R x0] h4))))) :=
  (am_xs_run am_ms 56 [(.iastore, 1, []), (.aload_n 0, 1, []), (.getfield 20, 3, [9, 7, 5190, 3]), (.iconst 2, 1, []), (.aload_n 0, 1, []), (.getfield 104, 3, [9, 11, 5194, 0]), (.imul, 1, []), (.iconst 1, 1, []), (.iadd, 1, []), (.iconst 0, 1, []), (.iastore, 1, []), (.aload_n 0, 1, []), (.dup, 1, []), (.getfield 104, 3, [9, 11, 5194, 0])] 67 _ _ h (by decide +kernel)).trans rfl
set_option maxHeartbeats 4000000 in
theorem bk_56_87 (x0 : Nat) (x1 : Int) (y0 : Int) (y1 : Nat) (h : am_H) : am_run am_ms 56 87 [am_R x0, am_I x1] [am_I y0, am_R y1] h = ((am_pf h y1 9 11 (am_I (am_w (y0 + 1)))).bind fun h1 => ((am_gfI h1 x0 9 3).bind fun f2 => ((am_pf h1 x0 9 3 (am_I (am_w (f2 + 1)))).bind fun h3 => ((am_isc h3 x0 9).bind fun _ => ((am_cV 55 [am_R x0, am_I 0] h3).bind fun h4 => am_run am_ms 56 114 [am_R x0, am_I x1] [] h4))))) :=
  (am_xs_run am_ms 56 [(.iconst 1, 1, []), (.iadd, 1, []), (.putfield 104, 3, [9, 11, 5194, 0]), (.aload_n 0, 1, []), (.dup, 1, []), (.getfield 68, 3, [9, 3, 5186, 0]), (.iconst 1, 1, []), (.iadd, 1, []), (.putfield 68, 3, [9, 3, 5186, 0]), (.aload_n 0, 1, []), (.iconst 0, 1, []), (.invokevirtual 129, 3, [0, 55, 2, 9, 0, 6082, 6084, 42]), (.goto 7, 3, [])] 87 _ _ h (by decide +kernel)).trans rfl
set_option maxHeartbeats 4000000 in
theorem bk_56_110 (x0 : Nat) (x1 : Int) (h : am_H) : am_run am_ms 56 110 [am_R x0, am_I x1] [] h = ((am_isc h x0 9).bind fun _ => ((am_cV 50 [am_R x0] h).bind fun h1 => am_run am_ms 56 114 [am_R x0, am_I x1] [] h1)) :=
  (am_xs_run am_ms 56 [(.aload_n 0, 1, []), (.invokevirtual 93, 3, [0, 50, 1, 9, 0, 6115, 6117, 43])] 110 _ _ h (by decide +kernel)).trans rfl
set_option maxHeartbeats 4000000 in
theorem bk_56_114 (x0 : Nat) (x1 : Int) (h : am_H) : am_run am_ms 56 114 [am_R x0, am_I x1] [] h = some (none, h) :=
  (am_xs_run am_ms 56 [(.return_, 1, [])] 114 _ _ h (by decide +kernel)).trans rfl
set_option maxHeartbeats 4000000 in
theorem bk_57_0 (x0 : Nat) (h : am_H) : am_run am_ms 57 0 [am_R x0, am_K 1] [] h = am_run am_ms 57 2 [am_R x0, am_I 0] [] h :=
  (am_xs_run am_ms 57 [(.iconst 0, 1, []), (.istore_n 1, 1, [])] 0 _ _ h (by decide +kernel)).trans rfl
theorem en_57 (x0 : Nat) (h : am_H) : am_call am_ms 57 [am_R x0] h = am_run am_ms 57 0 [am_R x0, am_K 1] [] h := rfl
set_option maxHeartbeats 4000000 in
theorem bk_57_2 (x0 : Nat) (x1 : Int) (h : am_H) : am_run am_ms 57 2 [am_R x0, am_I x1] [] h = (bif decide (7 ≤ x1) then am_run am_ms 57 24 [am_R x0, am_I x1] [] h else ((am_gfR h x0 9 5).bind fun f1 => ((am_cI 41 [am_I x1] h).bind fun r2 => ((am_wr r2.2 f1 0 x1 r2.1).bind fun h3 => am_run am_ms 57 2 [am_R x0, am_I (am_w (x1 + 1))] [] h3)))) :=
  (am_xs_run am_ms 57 [(.iload_n 1, 1, []), (.bipush 7, 2, []), (.if_icmp .ge 19, 3, []), (.aload_n 0, 1, []), (.getfield 13, 3, [9, 5, 5188, 3]), (.iload_n 1, 1, []), (.iload_n 1, 1, []), (.invokestatic 133, 3, [1, 41, 1, 0, 1, 6067, 6068]), (.iastore, 1, []), (.iinc 1 1, 3, []), (.goto (-19), 3, [])] 2 _ _ h (by decide +kernel)).trans rfl
set_option maxHeartbeats 4000000 in
theorem bk_57_24 (x0 : Nat) (x1 : Int) (h : am_H) : am_run am_ms 57 24 [am_R x0, am_I x1] [] h = ((am_pf h x0 9 11 (am_I 0)).bind fun h1 => ((am_pf h1 x0 9 13 (am_I 0)).bind fun h2 => am_run am_ms 57 36 [am_R x0, am_I 1] [] h2)) :=
  (am_xs_run am_ms 57 [(.aload_n 0, 1, []), (.iconst 0, 1, []), (.putfield 104, 3, [9, 11, 5194, 0]), (.aload_n 0, 1, []), (.iconst 0, 1, []), (.putfield 125, 3, [9, 13, 5196, 1]), (.iconst 1, 1, []), (.istore_n 1, 1, [])] 24 _ _ h (by decide +kernel)).trans rfl
set_option maxHeartbeats 4000000 in
theorem bk_57_36 (x0 : Nat) (x1 : Int) (h : am_H) : am_run am_ms 57 36 [am_R x0, am_I x1] [] h = (bif decide (x1 = 0) then am_run am_ms 57 92 [am_R x0, am_I x1] [] h else ((am_gfI h x0 9 4).bind fun f1 => (bif decide (¬ f1 = (-1)) then am_run am_ms 57 92 [am_R x0, am_I x1] [] h else ((am_isc h x0 9).bind fun _ => ((am_cV 56 [am_R x0] h).bind fun h2 => ((am_gfI h2 x0 9 4).bind fun f3 => (bif decide (¬ f3 = (-1)) then am_run am_ms 57 73 [am_R x0, am_I x1] [] h2 else ((am_isc h2 x0 9).bind fun _ => ((am_cI 43 [am_R x0] h2).bind fun r4 => am_run am_ms 57 64 [am_R x0, am_I x1] [am_I r4.1] r4.2))))))))) :=
  (am_xs_run am_ms 57 [(.iload_n 1, 1, []), (.ifCond .eq 55, 3, []), (.aload_n 0, 1, []), (.getfield 75, 3, [9, 4, 5187, 0]), (.iconst (-1), 1, []), (.if_icmp .ne 47, 3, []), (.aload_n 0, 1, []), (.invokevirtual 136, 3, [0, 56, 1, 9, 0, 6070, 6072, 39]), (.aload_n 0, 1, []), (.getfield 75, 3, [9, 4, 5187, 0]), (.iconst (-1), 1, []), (.if_icmp .ne 16, 3, []), (.aload_n 0, 1, []), (.invokevirtual 86, 3, [0, 43, 1, 9, 1, 6074, 6076, 40])] 36 _ _ h (by decide +kernel)).trans rfl
set_option maxHeartbeats 4000000 in
theorem bk_57_64 (x0 : Nat) (x1 : Int) (y0 : Int) (h : am_H) : am_run am_ms 57 64 [am_R x0, am_I x1] [am_I y0] h = (bif decide (¬ y0 = 59) then am_run am_ms 57 73 [am_R x0, am_I x1] [] h else am_run am_ms 57 74 [am_R x0, am_I x1] [am_I 1] h) :=
  (am_xs_run am_ms 57 [(.bipush 59, 2, []), (.if_icmp .ne 7, 3, []), (.iconst 1, 1, []), (.goto 4, 3, [])] 64 _ _ h (by decide +kernel)).trans rfl
set_option maxHeartbeats 4000000 in
theorem bk_57_73 (x0 : Nat) (x1 : Int) (h : am_H) : am_run am_ms 57 73 [am_R x0, am_I x1] [] h = am_run am_ms 57 74 [am_R x0, am_I x1] [am_I 0] h :=
  (am_xs_run am_ms 57 [(.iconst 0, 1, [])] 73 _ _ h (by decide +kernel)).trans rfl
set_option maxHeartbeats 4000000 in
theorem bk_57_74 (x0 : Nat) (x1 : Int) (y0 : Int) (h : am_H) : am_run am_ms 57 74 [am_R x0, am_I x1] [am_I y0] h = (bif decide (y0 = 0) then am_run am_ms 57 36 [am_R x0, am_I y0] [] h else ((am_gfI h x0 9 3).bind fun f1 => ((am_pf h x0 9 3 (am_I (am_w (f1 + 1)))).bind fun h2 => am_run am_ms 57 36 [am_R x0, am_I y0] [] h2))) :=
  (am_xs_run am_ms 57 [(.istore_n 1, 1, []), (.iload_n 1, 1, []), (.ifCond .eq (-40), 3, []), (.aload_n 0, 1, []), (.dup, 1, []), (.getfield 68, 3, [9, 3, 5186, 0]), (.iconst 1, 1, []), (.iadd, 1, []), (.putfield 68, 3, [9, 3, 5186, 0]), (.goto (-53), 3, [])] 74 _ _ h (by decide +kernel)).trans rfl
set_option maxHeartbeats 4000000 in
theorem bk_57_92 (x0 : Nat) (x1 : Int) (h : am_H) : am_run am_ms 57 92 [am_R x0, am_I x1] [] h = ((am_gfI h x0 9 4).bind fun f1 => (bif decide (¬ f1 = (-1)) then am_run am_ms 57 112 [am_R x0, am_I x1] [] h else ((am_isc h x0 9).bind fun _ => ((am_cI 43 [am_R x0] h).bind fun r2 => (bif decide (r2.1 = (-1)) then am_run am_ms 57 112 [am_R x0, am_I x1] [] r2.2 else ((am_isc r2.2 x0 9).bind fun _ => ((am_cV 50 [am_R x0] r2.2).bind fun h3 => am_run am_ms 57 112 [am_R x0, am_I x1] [] h3))))))) :=
  (am_xs_run am_ms 57 [(.aload_n 0, 1, []), (.getfield 75, 3, [9, 4, 5187, 0]), (.iconst (-1), 1, []), (.if_icmp .ne 15, 3, []), (.aload_n 0, 1, []), (.invokevirtual 86, 3, [0, 43, 1, 9, 1, 6074, 6076, 40]), (.iconst (-1), 1, []), (.if_icmp .eq 7, 3, []), (.aload_n 0, 1, []), (.invokevirtual 93, 3, [0, 50, 1, 9, 0, 6115, 6117, 43])] 92 _ _ h (by decide +kernel)).trans rfl
set_option maxHeartbeats 4000000 in
theorem bk_57_112 (x0 : Nat) (x1 : Int) (h : am_H) : am_run am_ms 57 112 [am_R x0, am_I x1] [] h = some (none, h) :=
  (am_xs_run am_ms 57 [(.return_, 1, [])] 112 _ _ h (by decide +kernel)).trans rfl
set_option maxHeartbeats 4000000 in
theorem bk_58_0 (x0 : Nat) (x1 : Int) (h : am_H) : am_run am_ms 58 0 [am_R x0, am_I x1, am_K 1, am_K 1] [] h = ((am_isc h x0 9).bind fun _ => ((am_cI 43 [am_R x0] h).bind fun r1 => ((am_cI 48 [am_K 21, am_I r1.1] r1.2).bind fun r2 => ((am_gfR r2.2 x0 9 8).bind fun f3 => ((am_wr r2.2 f3 0 (am_w (x1 + 1)) (-1)).bind fun h4 => ((am_gfR h4 x0 9 8).bind fun f5 => am_run am_ms 58 23 [am_R x0, am_I x1, am_I r2.1, am_K 1] [am_R f5] h4)))))) :=
  (am_xs_run am_ms 58 [(.ldc 139, 2, [1, 21, 6141]), (.aload_n 0, 1, []), (.invokevirtual 86, 3, [0, 43, 1, 9, 1, 6074, 6076, 40]), (.invokestatic 107, 3, [1, 48, 2, 0, 1, 6088, 6089]), (.istore_n 2, 1, []), (.aload_n 0, 1, []), (.getfield 23, 3, [9, 8, 5191, 3]), (.iload_n 1, 1, []), (.iconst 1, 1, []), (.iadd, 1, []), (.iconst (-1), 1, []), (.iastore, 1, []), (.aload_n 0, 1, []), (.getfield 23, 3, [9, 8, 5191, 3])] 0 _ _ h (by decide +kernel)).trans rfl
theorem en_58 (x0 : Nat) (x1 : Int) (h : am_H) : am_call am_ms 58 [am_R x0, am_I x1] h = am_run am_ms 58 0 [am_R x0, am_I x1, am_K 1, am_K 1] [] h := rfl
set_option maxHeartbeats 4000000 in
theorem bk_58_23 (x0 : Nat) (x1 : Int) (x2 : Int) (y0 : Nat) (h : am_H) : am_run am_ms 58 23 [am_R x0, am_I x1, am_I x2, am_K 1] [am_R y0] h = ((am_wr h y0 0 (am_w (x1 + 2)) (-1)).bind fun h1 => (bif decide (¬ x2 = (-1)) then am_run am_ms 58 38 [am_R x0, am_I x1, am_I x2, am_K 1] [] h1 else ((am_isc h1 x0 9).bind fun _ => ((am_cV 50 [am_R x0] h1).bind fun h2 => some (none, h2))))) :=
  (am_xs_run am_ms 58 [(.iload_n 1, 1, []), (.iconst 2, 1, []), (.iadd, 1, []), (.iconst (-1), 1, []), (.iastore, 1, []), (.iload_n 2, 1, []), (.iconst (-1), 1, []), (.if_icmp .ne 8, 3, []), (.aload_n 0, 1, []), (.invokevirtual 93, 3, [0, 50, 1, 9, 0, 6115, 6117, 43]), (.return_, 1, [])] 23 _ _ h (by decide +kernel)).trans rfl
set_option maxHeartbeats 4000000 in
theorem bk_58_38 (x0 : Nat) (x1 : Int) (x2 : Int) (h : am_H) : am_run am_ms 58 38 [am_R x0, am_I x1, am_I x2, am_K 1] [] h = ((am_gfI h x0 9 3).bind fun f1 => ((am_pf h x0 9 3 (am_I (am_w (f1 + 1)))).bind fun h2 => ((am_gfR h2 x0 9 8).bind fun f3 => ((am_wr h2 f3 0 x1 x2).bind fun h4 => (bif decide (x2 = 2) then am_run am_ms 58 65 [am_R x0, am_I x1, am_I x2, am_K 1] [] h4 else am_run am_ms 58 60 [am_R x0, am_I x1, am_I x2, am_K 1] [] h4))))) :=
  (am_xs_run am_ms 58 [(.aload_n 0, 1, []), (.dup, 1, []), (.getfield 68, 3, [9, 3, 5186, 0]), (.iconst 1, 1, []), (.iadd, 1, []), (.putfield 68, 3, [9, 3, 5186, 0]), (.aload_n 0, 1, []), (.getfield 23, 3, [9, 8, 5191, 3]), (.iload_n 1, 1, []), (.iload_n 2, 1, []), (.iastore, 1, []), (.iload_n 2, 1, []), (.iconst 2, 1, []), (.if_icmp .eq 8, 3, [])] 38 _ _ h (by decide +kernel)).trans rfl
set_option maxHeartbeats 4000000 in
theorem bk_58_60 (x0 : Nat) (x1 : Int) (x2 : Int) (h : am_H) : am_run am_ms 58 60 [am_R x0, am_I x1, am_I x2, am_K 1] [] h = (bif decide (¬ x2 = 3) then am_run am_ms 58 66 [am_R x0, am_I x1, am_I x2, am_K 1] [] h else am_run am_ms 58 65 [am_R x0, am_I x1, am_I x2, am_K 1] [] h) :=
  (am_xs_run am_ms 58 [(.iload_n 2, 1, []), (.iconst 3, 1, []), (.if_icmp .ne 4, 3, [])] 60 _ _ h (by decide +kernel)).trans rfl
set_option maxHeartbeats 4000000 in
theorem bk_58_65 (x0 : Nat) (x1 : Int) (x2 : Int) (h : am_H) : am_run am_ms 58 65 [am_R x0, am_I x1, am_I x2, am_K 1] [] h = some (none, h) :=
  (am_xs_run am_ms 58 [(.return_, 1, [])] 65 _ _ h (by decide +kernel)).trans rfl
set_option maxHeartbeats 4000000 in
theorem bk_58_66 (x0 : Nat) (x1 : Int) (x2 : Int) (h : am_H) : am_run am_ms 58 66 [am_R x0, am_I x1, am_I x2, am_K 1] [] h = (bif decide (2 ≤ x2) then am_run am_ms 58 141 [am_R x0, am_I x1, am_I x2, am_K 1] [] h else ((am_gfR h x0 9 8).bind fun f1 => ((am_isc h x0 9).bind fun _ => ((am_cI 54 [am_R x0, am_I 0, am_I 31] h).bind fun r2 => ((am_wr r2.2 f1 0 (am_w (x1 + 1)) r2.1).bind fun h3 => am_run am_ms 58 87 [am_R x0, am_I x1, am_I x2, am_K 1] [am_R x0] h3))))) :=
  (am_xs_run am_ms 58 [(.iload_n 2, 1, []), (.iconst 2, 1, []), (.if_icmp .ge 73, 3, []), (.aload_n 0, 1, []), (.getfield 23, 3, [9, 8, 5191, 3]), (.iload_n 1, 1, []), (.iconst 1, 1, []), (.iadd, 1, []), (.aload_n 0, 1, []), (.iconst 0, 1, []), (.bipush 31, 2, []), (.invokevirtual 121, 3, [0, 54, 3, 9, 1, 6125, 6127, 44]), (.iastore, 1, []), (.aload_n 0, 1, [])] 66 _ _ h (by decide +kernel)).trans rfl
set_option maxHeartbeats 4000000 in
theorem bk_58_87 (x0 : Nat) (x1 : Int) (x2 : Int) (y0 : Nat) (h : am_H) : am_run am_ms 58 87 [am_R x0, am_I x1, am_I x2, am_K 1] [am_R y0] h = ((am_gfI h y0 9 4).bind fun f1 => (bif decide (¬ f1 = (-1)) then am_run am_ms 58 99 [am_R x0, am_I x1, am_I x2, am_K 1] [] h else (bif decide (¬ x2 = 1) then am_run am_ms 58 100 [am_R x0, am_I x1, am_I x2, am_K 1] [] h else am_run am_ms 58 99 [am_R x0, am_I x1, am_I x2, am_K 1] [] h))) :=
  (am_xs_run am_ms 58 [(.getfield 75, 3, [9, 4, 5187, 0]), (.iconst (-1), 1, []), (.if_icmp .ne 8, 3, []), (.iload_n 2, 1, []), (.iconst 1, 1, []), (.if_icmp .ne 4, 3, [])] 87 _ _ h (by decide +kernel)).trans rfl
set_option maxHeartbeats 4000000 in
theorem bk_58_99 (x0 : Nat) (x1 : Int) (x2 : Int) (h : am_H) : am_run am_ms 58 99 [am_R x0, am_I x1, am_I x2, am_K 1] [] h = some (none, h) :=
  (am_xs_run am_ms 58 [(.return_, 1, [])] 99 _ _ h (by decide +kernel)).trans rfl
set_option maxHeartbeats 4000000 in
theorem bk_58_100 (x0 : Nat) (x1 : Int) (x2 : Int) (h : am_H) : am_run am_ms 58 100 [am_R x0, am_I x1, am_I x2, am_K 1] [] h = ((am_isc h x0 9).bind fun _ => ((am_cI 43 [am_R x0] h).bind fun r1 => (bif decide (r1.1 = 61) then am_run am_ms 58 114 [am_R x0, am_I x1, am_I x2, am_K 1] [] r1.2 else ((am_isc r1.2 x0 9).bind fun _ => ((am_cV 50 [am_R x0] r1.2).bind fun h2 => some (none, h2)))))) :=
  (am_xs_run am_ms 58 [(.aload_n 0, 1, []), (.invokevirtual 86, 3, [0, 43, 1, 9, 1, 6074, 6076, 40]), (.bipush 61, 2, []), (.if_icmp .eq 8, 3, []), (.aload_n 0, 1, []), (.invokevirtual 93, 3, [0, 50, 1, 9, 0, 6115, 6117, 43]), (.return_, 1, [])] 100 _ _ h (by decide +kernel)).trans rfl
set_option maxHeartbeats 4000000 in
theorem bk_58_114 (x0 : Nat) (x1 : Int) (x2 : Int) (h : am_H) : am_run am_ms 58 114 [am_R x0, am_I x1, am_I x2, am_K 1] [] h = ((am_gfI h x0 9 3).bind fun f1 => ((am_pf h x0 9 3 (am_I (am_w (f1 + 1)))).bind fun h2 => ((am_gfR h2 x0 9 8).bind fun f3 => am_run am_ms 58 136 [am_R x0, am_I x1, am_I x2, am_K 1] [am_I 999, am_I 0, am_R x0, am_I (am_w (x1 + 2)), am_R f3] h2))) :=
  (am_xs_run am_ms 58 [(.aload_n 0, 1, []), (.dup, 1, []), (.getfield 68, 3, [9, 3, 5186, 0]), (.iconst 1, 1, []), (.iadd, 1, []), (.putfield 68, 3, [9, 3, 5186, 0]), (.aload_n 0, 1, []), (.getfield 23, 3, [9, 8, 5191, 3]), (.iload_n 1, 1, []), (.iconst 2, 1, []), (.iadd, 1, []), (.aload_n 0, 1, []), (.iconst 0, 1, []), (.sipush 999, 3, [])] 114 _ _ h (by decide +kernel)).trans rfl
set_option maxHeartbeats 4000000 in
theorem bk_58_136 (x0 : Nat) (x1 : Int) (x2 : Int) (y0 : Int) (y1 : Int) (y2 : Nat) (y3 : Int) (y4 : Nat) (h : am_H) : am_run am_ms 58 136 [am_R x0, am_I x1, am_I x2, am_K 1] [am_I y0, am_I y1, am_R y2, am_I y3, am_R y4] h = ((am_isc h y2 9).bind fun _ => ((am_cI 54 [am_R y2, am_I y1, am_I y0] h).bind fun r1 => ((am_wr r1.2 y4 0 y3 r1.1).bind fun h2 => some (none, h2)))) :=
  (am_xs_run am_ms 58 [(.invokevirtual 121, 3, [0, 54, 3, 9, 1, 6125, 6127, 44]), (.iastore, 1, []), (.return_, 1, [])] 136 _ _ h (by decide +kernel)).trans rfl
set_option maxHeartbeats 4000000 in
theorem bk_58_141 (x0 : Nat) (x1 : Int) (x2 : Int) (h : am_H) : am_run am_ms 58 141 [am_R x0, am_I x1, am_I x2, am_K 1] [] h = ((am_isc h x0 9).bind fun _ => ((am_cI 43 [am_R x0] h).bind fun r1 => ((am_isc r1.2 x0 9).bind fun _ => ((am_cI 53 [am_R x0] r1.2).bind fun r2 => (bif decide (¬ r2.1 = 0) then am_run am_ms 58 158 [am_R x0, am_I x1, am_I x2, am_I r1.1] [] r2.2 else ((am_isc r2.2 x0 9).bind fun _ => ((am_cV 50 [am_R x0] r2.2).bind fun h3 => some (none, h3)))))))) :=
  (am_xs_run am_ms 58 [(.aload_n 0, 1, []), (.invokevirtual 86, 3, [0, 43, 1, 9, 1, 6074, 6076, 40]), (.istore_n 3, 1, []), (.aload_n 0, 1, []), (.invokevirtual 89, 3, [0, 53, 1, 9, 1, 6129, 6131, 45]), (.ifCond .ne 8, 3, []), (.aload_n 0, 1, []), (.invokevirtual 93, 3, [0, 50, 1, 9, 0, 6115, 6117, 43]), (.return_, 1, [])] 141 _ _ h (by decide +kernel)).trans rfl
set_option maxHeartbeats 4000000 in
theorem bk_58_158 (x0 : Nat) (x1 : Int) (x2 : Int) (x3 : Int) (h : am_H) : am_run am_ms 58 158 [am_R x0, am_I x1, am_I x2, am_I x3] [] h = ((am_gfR h x0 9 8).bind fun f1 => ((am_isc h x0 9).bind fun _ => ((am_cI 42 [am_R x0] h).bind fun r2 => ((am_wr r2.2 f1 0 (am_w (x1 + 1)) (am_w (r2.1 - 48))).bind fun h3 => ((am_gfI h3 x0 9 3).bind fun f4 => am_run am_ms 58 179 [am_R x0, am_I x1, am_I x2, am_I x3] [am_I 1, am_I f4, am_R x0] h3))))) :=
  (am_xs_run am_ms 58 [(.aload_n 0, 1, []), (.getfield 23, 3, [9, 8, 5191, 3]), (.iload_n 1, 1, []), (.iconst 1, 1, []), (.iadd, 1, []), (.aload_n 0, 1, []), (.invokevirtual 71, 3, [0, 42, 1, 9, 1, 6078, 6080, 41]), (.bipush 48, 2, []), (.isub, 1, []), (.iastore, 1, []), (.aload_n 0, 1, []), (.dup, 1, []), (.getfield 68, 3, [9, 3, 5186, 0]), (.iconst 1, 1, [])] 158 _ _ h (by decide +kernel)).trans rfl
set_option maxHeartbeats 4000000 in
theorem bk_58_179 (x0 : Nat) (x1 : Int) (x2 : Int) (x3 : Int) (y0 : Int) (y1 : Int) (y2 : Nat) (h : am_H) : am_run am_ms 58 179 [am_R x0, am_I x1, am_I x2, am_I x3] [am_I y0, am_I y1, am_R y2] h = ((am_pf h y2 9 3 (am_I (am_w (y1 + y0)))).bind fun h1 => some (none, h1)) :=
  (am_xs_run am_ms 58 [(.iadd, 1, []), (.putfield 68, 3, [9, 3, 5186, 0]), (.return_, 1, [])] 179 _ _ h (by decide +kernel)).trans rfl
set_option maxHeartbeats 4000000 in
theorem bk_59_0 (x0 : Nat) (h : am_H) : am_run am_ms 59 0 [am_R x0, am_K 1, am_K 1] [] h = am_run am_ms 59 4 [am_R x0, am_I 0, am_I 1] [] h :=
  (am_xs_run am_ms 59 [(.iconst 0, 1, []), (.istore_n 1, 1, []), (.iconst 1, 1, []), (.istore_n 2, 1, [])] 0 _ _ h (by decide +kernel)).trans rfl
theorem en_59 (x0 : Nat) (h : am_H) : am_call am_ms 59 [am_R x0] h = am_run am_ms 59 0 [am_R x0, am_K 1, am_K 1] [] h := rfl
set_option maxHeartbeats 4000000 in
theorem bk_59_4 (x0 : Nat) (x1 : Int) (x2 : Int) (h : am_H) : am_run am_ms 59 4 [am_R x0, am_I x1, am_I x2] [] h = (bif decide (x2 = 0) then am_run am_ms 59 77 [am_R x0, am_I x1, am_I x2] [] h else ((am_isc h x0 9).bind fun _ => ((am_cV 58 [am_R x0, am_I (am_w (3 * (am_w (64 + x1))))] h).bind fun h1 => ((am_gfI h1 x0 9 4).bind fun f2 => (bif decide (f2 = (-1)) then am_run am_ms 59 27 [am_R x0, am_I x1, am_I x2] [] h1 else some (none, h1)))))) :=
  (am_xs_run am_ms 59 [(.iload_n 2, 1, []), (.ifCond .eq 72, 3, []), (.aload_n 0, 1, []), (.iconst 3, 1, []), (.bipush 64, 2, []), (.iload_n 1, 1, []), (.iadd, 1, []), (.imul, 1, []), (.invokevirtual 141, 3, [0, 58, 2, 9, 0, 6137, 6139, 47]), (.aload_n 0, 1, []), (.getfield 75, 3, [9, 4, 5187, 0]), (.iconst (-1), 1, []), (.if_icmp .eq 4, 3, []), (.return_, 1, [])] 4 _ _ h (by decide +kernel)).trans rfl
set_option maxHeartbeats 4000000 in
theorem bk_59_27 (x0 : Nat) (x1 : Int) (x2 : Int) (h : am_H) : am_run am_ms 59 27 [am_R x0, am_I x1, am_I x2] [] h = ((am_isc h x0 9).bind fun _ => ((am_cI 43 [am_R x0] h).bind fun r1 => (bif decide (¬ r1.1 = 59) then am_run am_ms 59 43 [am_R x0, am_I (am_w (x1 + 1)), am_I x2] [] r1.2 else am_run am_ms 59 44 [am_R x0, am_I (am_w (x1 + 1)), am_I x2] [am_I 1] r1.2))) :=
  (am_xs_run am_ms 59 [(.iinc 1 1, 3, []), (.aload_n 0, 1, []), (.invokevirtual 86, 3, [0, 43, 1, 9, 1, 6074, 6076, 40]), (.bipush 59, 2, []), (.if_icmp .ne 7, 3, []), (.iconst 1, 1, []), (.goto 4, 3, [])] 27 _ _ h (by decide +kernel)).trans rfl
set_option maxHeartbeats 4000000 in
theorem bk_59_43 (x0 : Nat) (x1 : Int) (x2 : Int) (h : am_H) : am_run am_ms 59 43 [am_R x0, am_I x1, am_I x2] [] h = am_run am_ms 59 44 [am_R x0, am_I x1, am_I x2] [am_I 0] h :=
  (am_xs_run am_ms 59 [(.iconst 0, 1, [])] 43 _ _ h (by decide +kernel)).trans rfl
set_option maxHeartbeats 4000000 in
theorem bk_59_44 (x0 : Nat) (x1 : Int) (x2 : Int) (y0 : Int) (h : am_H) : am_run am_ms 59 44 [am_R x0, am_I x1, am_I x2] [am_I y0] h = (bif decide (y0 = 0) then am_run am_ms 59 60 [am_R x0, am_I x1, am_I y0] [] h else (bif decide (¬ x1 = 16) then am_run am_ms 59 60 [am_R x0, am_I x1, am_I y0] [] h else ((am_isc h x0 9).bind fun _ => ((am_cV 50 [am_R x0] h).bind fun h1 => some (none, h1))))) :=
  (am_xs_run am_ms 59 [(.istore_n 2, 1, []), (.iload_n 2, 1, []), (.ifCond .eq 14, 3, []), (.iload_n 1, 1, []), (.bipush 16, 2, []), (.if_icmp .ne 8, 3, []), (.aload_n 0, 1, []), (.invokevirtual 93, 3, [0, 50, 1, 9, 0, 6115, 6117, 43]), (.return_, 1, [])] 44 _ _ h (by decide +kernel)).trans rfl
set_option maxHeartbeats 4000000 in
theorem bk_59_60 (x0 : Nat) (x1 : Int) (x2 : Int) (h : am_H) : am_run am_ms 59 60 [am_R x0, am_I x1, am_I x2] [] h = (bif decide (x2 = 0) then am_run am_ms 59 4 [am_R x0, am_I x1, am_I x2] [] h else ((am_gfI h x0 9 3).bind fun f1 => ((am_pf h x0 9 3 (am_I (am_w (f1 + 1)))).bind fun h2 => am_run am_ms 59 4 [am_R x0, am_I x1, am_I x2] [] h2))) :=
  (am_xs_run am_ms 59 [(.iload_n 2, 1, []), (.ifCond .eq (-57), 3, []), (.aload_n 0, 1, []), (.dup, 1, []), (.getfield 68, 3, [9, 3, 5186, 0]), (.iconst 1, 1, []), (.iadd, 1, []), (.putfield 68, 3, [9, 3, 5186, 0]), (.goto (-70), 3, [])] 60 _ _ h (by decide +kernel)).trans rfl
set_option maxHeartbeats 4000000 in
theorem bk_59_77 (x0 : Nat) (x1 : Int) (x2 : Int) (h : am_H) : am_run am_ms 59 77 [am_R x0, am_I x1, am_I x2] [] h = ((am_gfR h x0 9 9).bind fun f1 => ((am_wr h f1 0 4 x1).bind fun h2 => ((am_isc h2 x0 9).bind fun _ => ((am_cI 43 [am_R x0] h2).bind fun r3 => (bif decide (r3.1 = (-1)) then am_run am_ms 59 96 [am_R x0, am_I x1, am_I x2] [] r3.2 else ((am_isc r3.2 x0 9).bind fun _ => ((am_cV 50 [am_R x0] r3.2).bind fun h4 => am_run am_ms 59 96 [am_R x0, am_I x1, am_I x2] [] h4))))))) :=
  (am_xs_run am_ms 59 [(.aload_n 0, 1, []), (.getfield 26, 3, [9, 9, 5192, 3]), (.iconst 4, 1, []), (.iload_n 1, 1, []), (.iastore, 1, []), (.aload_n 0, 1, []), (.invokevirtual 86, 3, [0, 43, 1, 9, 1, 6074, 6076, 40]), (.iconst (-1), 1, []), (.if_icmp .eq 7, 3, []), (.aload_n 0, 1, []), (.invokevirtual 93, 3, [0, 50, 1, 9, 0, 6115, 6117, 43])] 77 _ _ h (by decide +kernel)).trans rfl
set_option maxHeartbeats 4000000 in
theorem bk_59_96 (x0 : Nat) (x1 : Int) (x2 : Int) (h : am_H) : am_run am_ms 59 96 [am_R x0, am_I x1, am_I x2] [] h = some (none, h) :=
  (am_xs_run am_ms 59 [(.return_, 1, [])] 96 _ _ h (by decide +kernel)).trans rfl
set_option maxHeartbeats 4000000 in
theorem bk_60_0 (x0 : Nat) (x1 : Int) (h : am_H) : am_run am_ms 60 0 [am_R x0, am_I x1] [] h = ((am_pf h x0 9 0 (am_I 0)).bind fun h1 => ((am_cI 40 [am_L x1, am_L 0, am_L 1] h1).bind fun r2 => (bif decide (¬ r2.1 = 0) then am_run am_ms 60 18 [am_R x0, am_I x1] [] r2.2 else some (some (am_I (-2)), r2.2)))) :=
  (am_xs_run am_ms 60 [(.aload_n 0, 1, []), (.iconst 0, 1, []), (.putfield 53, 3, [9, 0, 5183, 0]), (.iload_n 1, 1, []), (.i2l, 1, []), (.lconst 0, 1, []), (.lconst 1, 1, []), (.invokestatic 96, 3, [1, 40, 3, 0, 1, 6060, 6061]), (.ifCond .ne 6, 3, []), (.bipush (-2), 2, []), (.ireturn, 1, [0])] 0 _ _ h (by decide +kernel)).trans rfl
theorem en_60 (x0 : Nat) (x1 : Int) (h : am_H) : am_call am_ms 60 [am_R x0, am_I x1] h = am_run am_ms 60 0 [am_R x0, am_I x1] [] h := rfl
set_option maxHeartbeats 4000000 in
theorem bk_60_18 (x0 : Nat) (x1 : Int) (h : am_H) : am_run am_ms 60 18 [am_R x0, am_I x1] [] h = ((am_pf h x0 9 3 (am_I 0)).bind fun h1 => ((am_pf h1 x0 9 4 (am_I (-1))).bind fun h2 => (bif decide (¬ x1 = 0) then am_run am_ms 60 39 [am_R x0, am_I x1] [] h2 else ((am_isc h2 x0 9).bind fun _ => ((am_cV 57 [am_R x0] h2).bind fun h3 => am_run am_ms 60 43 [am_R x0, am_I x1] [] h3))))) :=
  (am_xs_run am_ms 60 [(.aload_n 0, 1, []), (.iconst 0, 1, []), (.putfield 68, 3, [9, 3, 5186, 0]), (.aload_n 0, 1, []), (.iconst (-1), 1, []), (.putfield 75, 3, [9, 4, 5187, 0]), (.iload_n 1, 1, []), (.ifCond .ne 10, 3, []), (.aload_n 0, 1, []), (.invokevirtual 144, 3, [0, 57, 1, 9, 0, 6063, 6065, 38]), (.goto 7, 3, [])] 18 _ _ h (by decide +kernel)).trans rfl
set_option maxHeartbeats 4000000 in
theorem bk_60_39 (x0 : Nat) (x1 : Int) (h : am_H) : am_run am_ms 60 39 [am_R x0, am_I x1] [] h = ((am_isc h x0 9).bind fun _ => ((am_cV 59 [am_R x0] h).bind fun h1 => am_run am_ms 60 43 [am_R x0, am_I x1] [] h1)) :=
  (am_xs_run am_ms 60 [(.aload_n 0, 1, []), (.invokevirtual 147, 3, [0, 59, 1, 9, 0, 6133, 6135, 46])] 39 _ _ h (by decide +kernel)).trans rfl
set_option maxHeartbeats 4000000 in
theorem bk_60_43 (x0 : Nat) (x1 : Int) (h : am_H) : am_run am_ms 60 43 [am_R x0, am_I x1] [] h = ((am_gfI h x0 9 4).bind fun f1 => some (some (am_I f1), h)) :=
  (am_xs_run am_ms 60 [(.aload_n 0, 1, []), (.getfield 75, 3, [9, 4, 5187, 0]), (.ireturn, 1, [0])] 43 _ _ h (by decide +kernel)).trans rfl
set_option maxHeartbeats 4000000 in
theorem bk_61_0 (x0 : Nat) (h : am_H) : am_run am_ms 61 0 [am_R x0] [] h = ((am_pf h x0 2 1 (am_I 0)).bind fun h1 => ((am_pf h1 x0 2 2 (am_I 0)).bind fun h2 => some (none, h2))) :=
  (am_xs_run am_ms 61 [(.aload_n 0, 1, []), (.iconst 0, 1, []), (.putfield 15, 3, [2, 1, 2024, 0]), (.aload_n 0, 1, []), (.iconst 0, 1, []), (.putfield 19, 3, [2, 2, 2025, 0]), (.return_, 1, [])] 0 _ _ h (by decide +kernel)).trans rfl
theorem en_61 (x0 : Nat) (h : am_H) : am_call am_ms 61 [am_R x0] h = am_run am_ms 61 0 [am_R x0] [] h := rfl
set_option maxHeartbeats 4000000 in
theorem bk_62_0 (x0 : Nat) (x1 : Int) (h : am_H) : am_run am_ms 62 0 [am_R x0, am_I x1, am_K 1, am_K 1] [] h = ((am_len h x0).bind fun n1 => am_run am_ms 62 5 [am_R x0, am_I x1, am_I 0, am_I n1] [] h) :=
  (am_xs_run am_ms 62 [(.iconst 0, 1, []), (.istore_n 2, 1, []), (.aload_n 0, 1, []), (.arraylength, 1, []), (.istore_n 3, 1, [])] 0 _ _ h (by decide +kernel)).trans rfl
theorem en_62 (x0 : Nat) (x1 : Int) (h : am_H) : am_call am_ms 62 [am_R x0, am_I x1] h = am_run am_ms 62 0 [am_R x0, am_I x1, am_K 1, am_K 1] [] h := rfl
set_option maxHeartbeats 4000000 in
theorem bk_62_5 (x0 : Nat) (x1 : Int) (x2 : Int) (x3 : Int) (h : am_H) : am_run am_ms 62 5 [am_R x0, am_I x1, am_I x2, am_I x3] [] h = (bif decide (x3 ≤ x2) then am_run am_ms 62 20 [am_R x0, am_I x1, am_I x2, am_I x3] [] h else ((am_wr h x0 0 x2 x1).bind fun h1 => am_run am_ms 62 5 [am_R x0, am_I x1, am_I (am_w (x2 + 1)), am_I x3] [] h1)) :=
  (am_xs_run am_ms 62 [(.iload_n 2, 1, []), (.iload_n 3, 1, []), (.if_icmp .ge 13, 3, []), (.aload_n 0, 1, []), (.iload_n 2, 1, []), (.iload_n 1, 1, []), (.iastore, 1, []), (.iinc 2 1, 3, []), (.goto (-12), 3, [])] 5 _ _ h (by decide +kernel)).trans rfl
set_option maxHeartbeats 4000000 in
theorem bk_62_20 (x0 : Nat) (x1 : Int) (x2 : Int) (x3 : Int) (h : am_H) : am_run am_ms 62 20 [am_R x0, am_I x1, am_I x2, am_I x3] [] h = some (none, h) :=
  (am_xs_run am_ms 62 [(.return_, 1, [])] 20 _ _ h (by decide +kernel)).trans rfl
set_option maxHeartbeats 4000000 in
theorem bk_63_0 (x0 : Nat) (h : am_H) : am_run am_ms 63 0 [am_R x0] [] h = ((am_pf h x0 3 3 (am_I 0)).bind fun h1 => ((am_pf h1 x0 3 4 (am_I 0)).bind fun h2 => some (none, h2))) :=
  (am_xs_run am_ms 63 [(.aload_n 0, 1, []), (.iconst 0, 1, []), (.putfield 21, 3, [3, 3, 1132, 0]), (.aload_n 0, 1, []), (.iconst 0, 1, []), (.putfield 25, 3, [3, 4, 1133, 0]), (.return_, 1, [])] 0 _ _ h (by decide +kernel)).trans rfl
theorem en_63 (x0 : Nat) (h : am_H) : am_call am_ms 63 [am_R x0] h = am_run am_ms 63 0 [am_R x0] [] h := rfl
set_option maxHeartbeats 4000000 in
theorem bk_64_0 (x0 : Nat) (x1 : Int) (h : am_H) : am_run am_ms 64 0 [am_R x0, am_I x1] [] h = (bif decide (x1 < 0) then am_run am_ms 64 18 [am_R x0, am_I x1] [] h else ((am_gfR h x0 1 0).bind fun f1 => ((am_rd h f1 0 0).bind fun v2 => (bif decide (v2 ≤ x1) then am_run am_ms 64 18 [am_R x0, am_I x1] [] h else am_run am_ms 64 19 [am_R x0, am_I x1] [am_I 1] h)))) :=
  (am_xs_run am_ms 64 [(.iload_n 1, 1, []), (.ifCond .lt 17, 3, []), (.iload_n 1, 1, []), (.aload_n 0, 1, []), (.getfield 9, 3, [1, 0, 1146, 3]), (.iconst 0, 1, []), (.iaload, 1, []), (.if_icmp .ge 7, 3, []), (.iconst 1, 1, []), (.goto 4, 3, [])] 0 _ _ h (by decide +kernel)).trans rfl
theorem en_64 (x0 : Nat) (x1 : Int) (h : am_H) : am_call am_ms 64 [am_R x0, am_I x1] h = am_run am_ms 64 0 [am_R x0, am_I x1] [] h := rfl
set_option maxHeartbeats 4000000 in
theorem bk_64_18 (x0 : Nat) (x1 : Int) (h : am_H) : am_run am_ms 64 18 [am_R x0, am_I x1] [] h = am_run am_ms 64 19 [am_R x0, am_I x1] [am_I 0] h :=
  (am_xs_run am_ms 64 [(.iconst 0, 1, [])] 18 _ _ h (by decide +kernel)).trans rfl
set_option maxHeartbeats 4000000 in
theorem bk_64_19 (x0 : Nat) (x1 : Int) (y0 : Int) (h : am_H) : am_run am_ms 64 19 [am_R x0, am_I x1] [am_I y0] h = (bif am_rok 1 y0 then some (some (am_I y0), h) else none) :=
  (am_xs_run am_ms 64 [(.ireturn, 1, [1])] 19 _ _ h (by decide +kernel)).trans rfl
set_option maxHeartbeats 4000000 in
theorem bk_65_0 (x0 : Nat) (x1 : Int) (h : am_H) : am_run am_ms 65 0 [am_R x0, am_I x1, am_K 1] [] h = (if 16 = 0 then none else (bif decide (x1 < 0) then am_run am_ms 65 34 [am_R x0, am_I x1, am_I (am_div x1 16)] [] h else ((am_isc h x0 1).bind fun _ => ((am_cI 64 [am_R x0, am_I (am_div x1 16)] h).bind fun r1 => (bif decide (r1.1 = 0) then am_run am_ms 65 34 [am_R x0, am_I x1, am_I (am_div x1 16)] [] r1.2 else (if 16 = 0 then none else am_run am_ms 65 22 [am_R x0, am_I x1, am_I (am_div x1 16)] [am_R x0, am_I (am_rem x1 16)] r1.2)))))) :=
  (am_xs_run am_ms 65 [(.iload_n 1, 1, []), (.bipush 16, 2, []), (.idiv, 1, []), (.istore_n 2, 1, []), (.iload_n 1, 1, []), (.ifCond .lt 28, 3, []), (.aload_n 0, 1, []), (.iload_n 2, 1, []), (.invokevirtual 86, 3, [0, 64, 2, 1, 1, 3042, 3043, 3044]), (.ifCond .eq 20, 3, []), (.iload_n 1, 1, []), (.bipush 16, 2, []), (.irem, 1, []), (.aload_n 0, 1, [])] 0 _ _ h (by decide +kernel)).trans rfl
theorem en_65 (x0 : Nat) (x1 : Int) (h : am_H) : am_call am_ms 65 [am_R x0, am_I x1] h = am_run am_ms 65 0 [am_R x0, am_I x1, am_K 1] [] h := rfl
set_option maxHeartbeats 4000000 in
theorem bk_65_22 (x0 : Nat) (x1 : Int) (x2 : Int) (y0 : Nat) (y1 : Int) (h : am_H) : am_run am_ms 65 22 [am_R x0, am_I x1, am_I x2] [am_R y0, am_I y1] h = ((am_gfR h y0 1 3).bind fun f1 => ((am_rd h f1 0 x2).bind fun v2 => (bif decide (v2 ≤ y1) then am_run am_ms 65 34 [am_R x0, am_I x1, am_I x2] [] h else am_run am_ms 65 35 [am_R x0, am_I x1, am_I x2] [am_I 1] h))) :=
  (am_xs_run am_ms 65 [(.getfield 21, 3, [1, 3, 1155, 3]), (.iload_n 2, 1, []), (.iaload, 1, []), (.if_icmp .ge 7, 3, []), (.iconst 1, 1, []), (.goto 4, 3, [])] 22 _ _ h (by decide +kernel)).trans rfl
set_option maxHeartbeats 4000000 in
theorem bk_65_34 (x0 : Nat) (x1 : Int) (x2 : Int) (h : am_H) : am_run am_ms 65 34 [am_R x0, am_I x1, am_I x2] [] h = am_run am_ms 65 35 [am_R x0, am_I x1, am_I x2] [am_I 0] h :=
  (am_xs_run am_ms 65 [(.iconst 0, 1, [])] 34 _ _ h (by decide +kernel)).trans rfl
set_option maxHeartbeats 4000000 in
theorem bk_65_35 (x0 : Nat) (x1 : Int) (x2 : Int) (y0 : Int) (h : am_H) : am_run am_ms 65 35 [am_R x0, am_I x1, am_I x2] [am_I y0] h = (bif am_rok 1 y0 then some (some (am_I y0), h) else none) :=
  (am_xs_run am_ms 65 [(.ireturn, 1, [1])] 35 _ _ h (by decide +kernel)).trans rfl
set_option maxHeartbeats 4000000 in
theorem bk_66_0 (x0 : Nat) (x1 : Int) (h : am_H) : am_run am_ms 66 0 [am_R x0, am_I x1, am_K 1, am_K 1, am_K 1] [] h = ((am_gfR h x0 1 7).bind fun f1 => ((am_rd h f1 0 x1).bind fun v2 => ((am_gfR h x0 1 9).bind fun f3 => ((am_rd h f3 0 x1).bind fun v4 => ((am_gfR h x0 1 10).bind fun f5 => ((am_rd h f5 0 v2).bind fun v6 => am_run am_ms 66 20 [am_R x0, am_I x1, am_I v2, am_I v4, am_K 1] [am_I v6] h)))))) :=
  (am_xs_run am_ms 66 [(.aload_n 0, 1, []), (.getfield 33, 3, [1, 7, 1163, 3]), (.iload_n 1, 1, []), (.iaload, 1, []), (.istore_n 2, 1, []), (.aload_n 0, 1, []), (.getfield 39, 3, [1, 9, 1168, 3]), (.iload_n 1, 1, []), (.iaload, 1, []), (.istore_n 3, 1, []), (.aload_n 0, 1, []), (.getfield 42, 3, [1, 10, 1171, 3]), (.iload_n 2, 1, []), (.iaload, 1, [])] 0 _ _ h (by decide +kernel)).trans rfl
theorem en_66 (x0 : Nat) (x1 : Int) (h : am_H) : am_call am_ms 66 [am_R x0, am_I x1] h = am_run am_ms 66 0 [am_R x0, am_I x1, am_K 1, am_K 1, am_K 1] [] h := rfl
set_option maxHeartbeats 4000000 in
theorem bk_66_20 (x0 : Nat) (x1 : Int) (x2 : Int) (x3 : Int) (y0 : Int) (h : am_H) : am_run am_ms 66 20 [am_R x0, am_I x1, am_I x2, am_I x3, am_K 1] [am_I y0] h = (bif decide (¬ y0 = (-1)) then am_run am_ms 66 45 [am_R x0, am_I x1, am_I x2, am_I x3, am_I y0] [] h else ((am_gfR h x0 1 10).bind fun f1 => ((am_wr h f1 0 x2 x1).bind fun h2 => ((am_gfR h2 x0 1 11).bind fun f3 => ((am_wr h2 f3 0 x2 x3).bind fun h4 => am_run am_ms 66 42 [am_R x0, am_I x1, am_I x2, am_I x3, am_I y0] [] h4))))) :=
  (am_xs_run am_ms 66 [(.istore 4, 2, []), (.iload 4, 2, []), (.iconst (-1), 1, []), (.if_icmp .ne 20, 3, []), (.aload_n 0, 1, []), (.getfield 42, 3, [1, 10, 1171, 3]), (.iload_n 2, 1, []), (.iload_n 1, 1, []), (.iastore, 1, []), (.aload_n 0, 1, []), (.getfield 45, 3, [1, 11, 1174, 3]), (.iload_n 2, 1, []), (.iload_n 3, 1, []), (.iastore, 1, [])] 20 _ _ h (by decide +kernel)).trans rfl
set_option maxHeartbeats 4000000 in
theorem bk_66_42 (x0 : Nat) (x1 : Int) (x2 : Int) (x3 : Int) (x4 : Int) (h : am_H) : am_run am_ms 66 42 [am_R x0, am_I x1, am_I x2, am_I x3, am_I x4] [] h = am_run am_ms 66 96 [am_R x0, am_I x1, am_I x2, am_I x3, am_I x4] [] h :=
  (am_xs_run am_ms 66 [(.goto 54, 3, [])] 42 _ _ h (by decide +kernel)).trans rfl
set_option maxHeartbeats 4000000 in
theorem bk_66_45 (x0 : Nat) (x1 : Int) (x2 : Int) (x3 : Int) (x4 : Int) (h : am_H) : am_run am_ms 66 45 [am_R x0, am_I x1, am_I x2, am_I x3, am_I x4] [] h = ((am_gfR h x0 1 9).bind fun f1 => ((am_rd h f1 0 x4).bind fun v2 => (bif decide (v2 < x3) then am_run am_ms 66 73 [am_R x0, am_I x1, am_I x2, am_I x3, am_I x4] [] h else ((am_gfR h x0 1 9).bind fun f3 => ((am_rd h f3 0 x4).bind fun v4 => (bif decide (¬ x3 = v4) then am_run am_ms 66 80 [am_R x0, am_I x1, am_I x2, am_I x3, am_I x4] [] h else am_run am_ms 66 70 [am_R x0, am_I x1, am_I x2, am_I x3, am_I x4] [am_I x4, am_I x1] h)))))) :=
  (am_xs_run am_ms 66 [(.iload_n 3, 1, []), (.aload_n 0, 1, []), (.getfield 39, 3, [1, 9, 1168, 3]), (.iload 4, 2, []), (.iaload, 1, []), (.if_icmp .gt 20, 3, []), (.iload_n 3, 1, []), (.aload_n 0, 1, []), (.getfield 39, 3, [1, 9, 1168, 3]), (.iload 4, 2, []), (.iaload, 1, []), (.if_icmp .ne 16, 3, []), (.iload_n 1, 1, []), (.iload 4, 2, [])] 45 _ _ h (by decide +kernel)).trans rfl
set_option maxHeartbeats 4000000 in
theorem bk_66_70 (x0 : Nat) (x1 : Int) (x2 : Int) (x3 : Int) (x4 : Int) (y0 : Int) (y1 : Int) (h : am_H) : am_run am_ms 66 70 [am_R x0, am_I x1, am_I x2, am_I x3, am_I x4] [am_I y0, am_I y1] h = (bif decide (y0 ≤ y1) then am_run am_ms 66 80 [am_R x0, am_I x1, am_I x2, am_I x3, am_I x4] [] h else am_run am_ms 66 73 [am_R x0, am_I x1, am_I x2, am_I x3, am_I x4] [] h) :=
  (am_xs_run am_ms 66 [(.if_icmp .ge 10, 3, [])] 70 _ _ h (by decide +kernel)).trans rfl
set_option maxHeartbeats 4000000 in
theorem bk_66_73 (x0 : Nat) (x1 : Int) (x2 : Int) (x3 : Int) (x4 : Int) (h : am_H) : am_run am_ms 66 73 [am_R x0, am_I x1, am_I x2, am_I x3, am_I x4] [] h = ((am_gfR h x0 1 10).bind fun f1 => ((am_wr h f1 0 x2 x1).bind fun h2 => am_run am_ms 66 80 [am_R x0, am_I x1, am_I x2, am_I x3, am_I x4] [] h2)) :=
  (am_xs_run am_ms 66 [(.aload_n 0, 1, []), (.getfield 42, 3, [1, 10, 1171, 3]), (.iload_n 2, 1, []), (.iload_n 1, 1, []), (.iastore, 1, [])] 73 _ _ h (by decide +kernel)).trans rfl
set_option maxHeartbeats 4000000 in
theorem bk_66_80 (x0 : Nat) (x1 : Int) (x2 : Int) (x3 : Int) (x4 : Int) (h : am_H) : am_run am_ms 66 80 [am_R x0, am_I x1, am_I x2, am_I x3, am_I x4] [] h = ((am_gfR h x0 1 11).bind fun f1 => ((am_gfR h x0 1 11).bind fun f2 => ((am_rd h f2 0 x2).bind fun v3 => ((am_wr h f1 0 x2 (am_min v3 x3)).bind fun h4 => am_run am_ms 66 96 [am_R x0, am_I x1, am_I x2, am_I x3, am_I x4] [] h4)))) :=
  (am_xs_run am_ms 66 [(.aload_n 0, 1, []), (.getfield 45, 3, [1, 11, 1174, 3]), (.iload_n 2, 1, []), (.aload_n 0, 1, []), (.getfield 45, 3, [1, 11, 1174, 3]), (.iload_n 2, 1, []), (.iaload, 1, []), (.iload_n 3, 1, []), (.invokestatic 68, 3, [13, 0, 2, 0, 1, 3026, 2152, 1014, 2153]), (.iastore, 1, [])] 80 _ _ h (by decide +kernel)).trans rfl
set_option maxHeartbeats 4000000 in
theorem bk_66_96 (x0 : Nat) (x1 : Int) (x2 : Int) (x3 : Int) (x4 : Int) (h : am_H) : am_run am_ms 66 96 [am_R x0, am_I x1, am_I x2, am_I x3, am_I x4] [] h = ((am_gfR h x0 1 12).bind fun f1 => ((am_rd h f1 0 x2).bind fun v2 => ((am_wr h f1 0 x2 (am_w (v2 + 1))).bind fun h3 => some (none, h3)))) :=
  (am_xs_run am_ms 66 [(.aload_n 0, 1, []), (.getfield 48, 3, [1, 12, 1175, 3]), (.iload_n 2, 1, []), (.dup2, 1, []), (.iaload, 1, []), (.iconst 1, 1, []), (.iadd, 1, []), (.iastore, 1, []), (.return_, 1, [])] 96 _ _ h (by decide +kernel)).trans rfl
set_option maxHeartbeats 4000000 in
theorem bk_67_0 (x0 : Nat) (h : am_H) : am_run am_ms 67 0 [am_R x0, am_K 1] [] h = ((am_gfR h x0 1 10).bind fun f1 => ((am_cV 62 [am_R f1, am_I (-1)] h).bind fun h2 => ((am_gfR h2 x0 1 11).bind fun f3 => ((am_cV 62 [am_R f3, am_I 0] h2).bind fun h4 => ((am_gfR h4 x0 1 12).bind fun f5 => ((am_cV 62 [am_R f5, am_I 0] h4).bind fun h6 => am_run am_ms 67 26 [am_R x0, am_I 0] [] h6)))))) :=
  (am_xs_run am_ms 67 [(.aload_n 0, 1, []), (.getfield 42, 3, [1, 10, 1171, 3]), (.iconst (-1), 1, []), (.invokestatic 74, 3, [1, 62, 2, 0, 0, 3027, 3028]), (.aload_n 0, 1, []), (.getfield 45, 3, [1, 11, 1174, 3]), (.iconst 0, 1, []), (.invokestatic 74, 3, [1, 62, 2, 0, 0, 3027, 3028]), (.aload_n 0, 1, []), (.getfield 48, 3, [1, 12, 1175, 3]), (.iconst 0, 1, []), (.invokestatic 74, 3, [1, 62, 2, 0, 0, 3027, 3028]), (.iconst 0, 1, []), (.istore_n 1, 1, [])] 0 _ _ h (by decide +kernel)).trans rfl
theorem en_67 (x0 : Nat) (h : am_H) : am_call am_ms 67 [am_R x0] h = am_run am_ms 67 0 [am_R x0, am_K 1] [] h := rfl
set_option maxHeartbeats 4000000 in
theorem bk_67_26 (x0 : Nat) (x1 : Int) (h : am_H) : am_run am_ms 67 26 [am_R x0, am_I x1] [] h = (bif decide (128 ≤ x1) then am_run am_ms 67 52 [am_R x0, am_I x1] [] h else ((am_isc h x0 1).bind fun _ => ((am_cI 65 [am_R x0, am_I x1] h).bind fun r1 => (bif decide (r1.1 = 0) then am_run am_ms 67 46 [am_R x0, am_I x1] [] r1.2 else ((am_isc r1.2 x0 1).bind fun _ => ((am_cV 66 [am_R x0, am_I x1] r1.2).bind fun h2 => am_run am_ms 67 46 [am_R x0, am_I x1] [] h2)))))) :=
  (am_xs_run am_ms 67 [(.iload_n 1, 1, []), (.sipush 128, 3, []), (.if_icmp .ge 22, 3, []), (.aload_n 0, 1, []), (.iload_n 1, 1, []), (.invokevirtual 129, 3, [0, 65, 2, 1, 1, 3038, 3039, 3040]), (.ifCond .eq 8, 3, []), (.aload_n 0, 1, []), (.iload_n 1, 1, []), (.invokevirtual 132, 3, [0, 66, 2, 1, 0, 3046, 3048, 12])] 26 _ _ h (by decide +kernel)).trans rfl
set_option maxHeartbeats 4000000 in
theorem bk_67_46 (x0 : Nat) (x1 : Int) (h : am_H) : am_run am_ms 67 46 [am_R x0, am_I x1] [] h = am_run am_ms 67 26 [am_R x0, am_I (am_w (x1 + 1))] [] h :=
  (am_xs_run am_ms 67 [(.iinc 1 1, 3, []), (.goto (-23), 3, [])] 46 _ _ h (by decide +kernel)).trans rfl
set_option maxHeartbeats 4000000 in
theorem bk_67_52 (x0 : Nat) (x1 : Int) (h : am_H) : am_run am_ms 67 52 [am_R x0, am_I x1] [] h = some (none, h) :=
  (am_xs_run am_ms 67 [(.return_, 1, [])] 52 _ _ h (by decide +kernel)).trans rfl
set_option maxHeartbeats 4000000 in
theorem bk_68_0 (x0 : Nat) (x1 : Nat) (h : am_H) : am_run am_ms 68 0 [am_R x0, am_R x1] [] h = ((am_len h x1).bind fun n1 => (bif decide (7 ≤ n1) then am_run am_ms 68 8 [am_R x0, am_R x1] [] h else some (none, h))) :=
  (am_xs_run am_ms 68 [(.aload_n 1, 1, []), (.arraylength, 1, []), (.bipush 7, 2, []), (.if_icmp .ge 4, 3, []), (.return_, 1, [])] 0 _ _ h (by decide +kernel)).trans rfl
theorem en_68 (x0 : Nat) (x1 : Nat) (h : am_H) : am_call am_ms 68 [am_R x0, am_R x1] h = am_run am_ms 68 0 [am_R x0, am_R x1] [] h := rfl
set_option maxHeartbeats 4000000 in
theorem bk_68_8 (x0 : Nat) (x1 : Nat) (h : am_H) : am_run am_ms 68 8 [am_R x0, am_R x1] [] h = ((am_gfR h x0 1 0).bind fun f1 => ((am_cpy h (am_R x1) 0 f1 0 7).bind fun h2 => ((am_gfR h2 x0 1 0).bind fun f3 => ((am_gfR h2 x0 1 0).bind fun f4 => ((am_rd h2 f4 0 2).bind fun v5 => am_run am_ms 68 31 [am_R x0, am_R x1] [am_I v5, am_I 2, am_R f3] h2))))) :=
  (am_xs_run am_ms 68 [(.aload_n 1, 1, []), (.iconst 0, 1, []), (.aload_n 0, 1, []), (.getfield 9, 3, [1, 0, 1146, 3]), (.iconst 0, 1, []), (.bipush 7, 2, []), (.invokestatic 58, 3, [11, 0, 5, 0, 0, 3025, 2101, 2100, 1011]), (.aload_n 0, 1, []), (.getfield 9, 3, [1, 0, 1146, 3]), (.iconst 2, 1, []), (.aload_n 0, 1, []), (.getfield 9, 3, [1, 0, 1146, 3]), (.iconst 2, 1, []), (.iaload, 1, [])] 8 _ _ h (by decide +kernel)).trans rfl
set_option maxHeartbeats 4000000 in
theorem bk_68_31 (x0 : Nat) (x1 : Nat) (y0 : Int) (y1 : Int) (y2 : Nat) (h : am_H) : am_run am_ms 68 31 [am_R x0, am_R x1] [am_I y0, am_I y1, am_R y2] h = ((am_gfR h x0 1 0).bind fun f1 => ((am_rd h f1 0 3).bind fun v2 => ((am_wr h y2 0 y1 (am_min y0 v2)).bind fun h3 => ((am_gfR h3 x0 1 1).bind fun f4 => ((am_cV 62 [am_R f4, am_I 0] h3).bind fun h5 => ((am_gfR h5 x0 1 2).bind fun f6 => ((am_cV 62 [am_R f6, am_I 0] h5).bind fun h7 => am_run am_ms 68 57 [am_R x0, am_R x1] [] h7))))))) :=
  (am_xs_run am_ms 68 [(.aload_n 0, 1, []), (.getfield 9, 3, [1, 0, 1146, 3]), (.iconst 3, 1, []), (.iaload, 1, []), (.invokestatic 68, 3, [13, 0, 2, 0, 1, 3026, 2152, 1014, 2153]), (.iastore, 1, []), (.aload_n 0, 1, []), (.getfield 15, 3, [1, 1, 1150, 3]), (.iconst 0, 1, []), (.invokestatic 74, 3, [1, 62, 2, 0, 0, 3027, 3028]), (.aload_n 0, 1, []), (.getfield 18, 3, [1, 2, 1152, 3]), (.iconst 0, 1, []), (.invokestatic 74, 3, [1, 62, 2, 0, 0, 3027, 3028])] 31 _ _ h (by decide +kernel)).trans rfl
set_option maxHeartbeats 4000000 in
theorem bk_68_57 (x0 : Nat) (x1 : Nat) (h : am_H) : am_run am_ms 68 57 [am_R x0, am_R x1] [] h = ((am_gfR h x0 1 3).bind fun f1 => ((am_cV 62 [am_R f1, am_I 0] h).bind fun h2 => ((am_gfR h2 x0 1 4).bind fun f3 => ((am_cV 62 [am_R f3, am_I 0] h2).bind fun h4 => ((am_gfR h4 x0 1 5).bind fun f5 => ((am_cV 62 [am_R f5, am_I 0] h4).bind fun h6 => ((am_gfR h6 x0 1 6).bind fun f7 => am_run am_ms 68 85 [am_R x0, am_R x1] [am_R f7] h6))))))) :=
  (am_xs_run am_ms 68 [(.aload_n 0, 1, []), (.getfield 21, 3, [1, 3, 1155, 3]), (.iconst 0, 1, []), (.invokestatic 74, 3, [1, 62, 2, 0, 0, 3027, 3028]), (.aload_n 0, 1, []), (.getfield 24, 3, [1, 4, 1157, 3]), (.iconst 0, 1, []), (.invokestatic 74, 3, [1, 62, 2, 0, 0, 3027, 3028]), (.aload_n 0, 1, []), (.getfield 27, 3, [1, 5, 1160, 3]), (.iconst 0, 1, []), (.invokestatic 74, 3, [1, 62, 2, 0, 0, 3027, 3028]), (.aload_n 0, 1, []), (.getfield 30, 3, [1, 6, 1161, 3])] 57 _ _ h (by decide +kernel)).trans rfl
set_option maxHeartbeats 4000000 in
theorem bk_68_85 (x0 : Nat) (x1 : Nat) (y0 : Nat) (h : am_H) : am_run am_ms 68 85 [am_R x0, am_R x1] [am_R y0] h = ((am_cV 62 [am_R y0, am_I (-1)] h).bind fun h1 => ((am_gfR h1 x0 1 13).bind fun f2 => ((am_isc h1 f2 3).bind fun _ => ((am_cV 63 [am_R f2] h1).bind fun h3 => ((am_isc h3 x0 1).bind fun _ => ((am_cV 67 [am_R x0] h3).bind fun h4 => some (none, h4))))))) :=
  (am_xs_run am_ms 68 [(.iconst (-1), 1, []), (.invokestatic 74, 3, [1, 62, 2, 0, 0, 3027, 3028]), (.aload_n 0, 1, []), (.getfield 54, 3, [1, 13, 1178, 3]), (.invokevirtual 80, 3, [0, 63, 1, 3, 0, 3030, 3031, 3032]), (.aload_n 0, 1, []), (.invokevirtual 83, 3, [0, 67, 1, 1, 0, 3034, 3036, 11]), (.return_, 1, [])] 85 _ _ h (by decide +kernel)).trans rfl
set_option maxHeartbeats 4000000 in
theorem bk_69_0 (x0 : Nat) (x1 : Int) (h : am_H) : am_run am_ms 69 0 [am_R x0, am_I x1] [] h = ((am_gfR h x0 1 0).bind fun f1 => ((am_rd h f1 0 0).bind fun v2 => (bif decide (v2 ≤ 0) then am_run am_ms 69 23 [am_R x0, am_I x1] [] h else (bif decide (x1 < 0) then am_run am_ms 69 23 [am_R x0, am_I x1] [] h else (bif decide (32 ≤ x1) then am_run am_ms 69 23 [am_R x0, am_I x1] [] h else am_run am_ms 69 24 [am_R x0, am_I x1] [am_I 1] h))))) :=
  (am_xs_run am_ms 69 [(.aload_n 0, 1, []), (.getfield 9, 3, [1, 0, 1146, 3]), (.iconst 0, 1, []), (.iaload, 1, []), (.ifCond .le 17, 3, []), (.iload_n 1, 1, []), (.ifCond .lt 13, 3, []), (.iload_n 1, 1, []), (.bipush 32, 2, []), (.if_icmp .ge 7, 3, []), (.iconst 1, 1, []), (.goto 4, 3, [])] 0 _ _ h (by decide +kernel)).trans rfl
theorem en_69 (x0 : Nat) (x1 : Int) (h : am_H) : am_call am_ms 69 [am_R x0, am_I x1] h = am_run am_ms 69 0 [am_R x0, am_I x1] [] h := rfl
set_option maxHeartbeats 4000000 in
theorem bk_69_23 (x0 : Nat) (x1 : Int) (h : am_H) : am_run am_ms 69 23 [am_R x0, am_I x1] [] h = am_run am_ms 69 24 [am_R x0, am_I x1] [am_I 0] h :=
  (am_xs_run am_ms 69 [(.iconst 0, 1, [])] 23 _ _ h (by decide +kernel)).trans rfl
set_option maxHeartbeats 4000000 in
theorem bk_69_24 (x0 : Nat) (x1 : Int) (y0 : Int) (h : am_H) : am_run am_ms 69 24 [am_R x0, am_I x1] [am_I y0] h = (bif am_rok 1 y0 then some (some (am_I y0), h) else none) :=
  (am_xs_run am_ms 69 [(.ireturn, 1, [1])] 24 _ _ h (by decide +kernel)).trans rfl
set_option maxHeartbeats 4000000 in
theorem bk_70_0 (x0 : Nat) (x1 : Int) (h : am_H) : am_run am_ms 70 0 [am_R x0, am_I x1] [] h = ((am_isc h x0 1).bind fun _ => ((am_cI 69 [am_R x0, am_I x1] h).bind fun r1 => (bif decide (r1.1 = 0) then am_run am_ms 70 32 [am_R x0, am_I x1] [] r1.2 else ((am_gfR r1.2 x0 1 10).bind fun f2 => ((am_rd r1.2 f2 0 x1).bind fun v3 => (bif decide (v3 = (-1)) then am_run am_ms 70 32 [am_R x0, am_I x1] [] r1.2 else ((am_gfR r1.2 x0 1 8).bind fun f4 => ((am_gfR r1.2 x0 1 10).bind fun f5 => am_run am_ms 70 26 [am_R x0, am_I x1] [am_R f5, am_R f4] r1.2)))))))) :=
  (am_xs_run am_ms 70 [(.aload_n 0, 1, []), (.iload_n 1, 1, []), (.invokevirtual 90, 3, [0, 69, 2, 1, 1, 3054, 3055, 3056]), (.ifCond .eq 27, 3, []), (.aload_n 0, 1, []), (.getfield 42, 3, [1, 10, 1171, 3]), (.iload_n 1, 1, []), (.iaload, 1, []), (.iconst (-1), 1, []), (.if_icmp .eq 17, 3, []), (.aload_n 0, 1, []), (.getfield 36, 3, [1, 8, 1166, 3]), (.aload_n 0, 1, []), (.getfield 42, 3, [1, 10, 1171, 3])] 0 _ _ h (by decide +kernel)).trans rfl
theorem en_70 (x0 : Nat) (x1 : Int) (h : am_H) : am_call am_ms 70 [am_R x0, am_I x1] h = am_run am_ms 70 0 [am_R x0, am_I x1] [] h := rfl
set_option maxHeartbeats 4000000 in
theorem bk_70_26 (x0 : Nat) (x1 : Int) (y0 : Nat) (y1 : Nat) (h : am_H) : am_run am_ms 70 26 [am_R x0, am_I x1] [am_R y0, am_R y1] h = ((am_rd h y0 0 x1).bind fun v1 => ((am_rd h y1 0 v1).bind fun v2 => am_run am_ms 70 33 [am_R x0, am_I x1] [am_I v2] h)) :=
  (am_xs_run am_ms 70 [(.iload_n 1, 1, []), (.iaload, 1, []), (.iaload, 1, []), (.goto 4, 3, [])] 26 _ _ h (by decide +kernel)).trans rfl
set_option maxHeartbeats 4000000 in
theorem bk_70_32 (x0 : Nat) (x1 : Int) (h : am_H) : am_run am_ms 70 32 [am_R x0, am_I x1] [] h = am_run am_ms 70 33 [am_R x0, am_I x1] [am_I (-1)] h :=
  (am_xs_run am_ms 70 [(.iconst (-1), 1, [])] 32 _ _ h (by decide +kernel)).trans rfl
set_option maxHeartbeats 4000000 in
theorem bk_70_33 (x0 : Nat) (x1 : Int) (y0 : Int) (h : am_H) : am_run am_ms 70 33 [am_R x0, am_I x1] [am_I y0] h = some (some (am_I y0), h) :=
  (am_xs_run am_ms 70 [(.ireturn, 1, [0])] 33 _ _ h (by decide +kernel)).trans rfl
set_option maxHeartbeats 4000000 in
theorem bk_71_0 (x0 : Nat) (x1 : Int) (h : am_H) : am_run am_ms 71 0 [am_R x0, am_I x1, am_K 1, am_K 1] [] h = ((am_gfR h x0 1 0).bind fun f1 => ((am_rd h f1 0 4).bind fun v2 => ((am_gfR h x0 1 10).bind fun f3 => ((am_rd h f3 0 x1).bind fun v4 => (bif decide (¬ v4 = (-1)) then am_run am_ms 71 21 [am_R x0, am_I x1, am_I (am_w (v2 - 1)), am_K 1] [] h else am_run am_ms 71 20 [am_R x0, am_I x1, am_I (am_w (v2 - 1)), am_K 1] [am_I (am_w (v2 - 1))] h))))) :=
  (am_xs_run am_ms 71 [(.aload_n 0, 1, []), (.getfield 9, 3, [1, 0, 1146, 3]), (.iconst 4, 1, []), (.iaload, 1, []), (.iconst 1, 1, []), (.isub, 1, []), (.istore_n 2, 1, []), (.aload_n 0, 1, []), (.getfield 42, 3, [1, 10, 1171, 3]), (.iload_n 1, 1, []), (.iaload, 1, []), (.iconst (-1), 1, []), (.if_icmp .ne 5, 3, []), (.iload_n 2, 1, [])] 0 _ _ h (by decide +kernel)).trans rfl
theorem en_71 (x0 : Nat) (x1 : Int) (h : am_H) : am_call am_ms 71 [am_R x0, am_I x1] h = am_run am_ms 71 0 [am_R x0, am_I x1, am_K 1, am_K 1] [] h := rfl
set_option maxHeartbeats 4000000 in
theorem bk_71_20 (x0 : Nat) (x1 : Int) (x2 : Int) (y0 : Int) (h : am_H) : am_run am_ms 71 20 [am_R x0, am_I x1, am_I x2, am_K 1] [am_I y0] h = some (some (am_I y0), h) :=
  (am_xs_run am_ms 71 [(.ireturn, 1, [0])] 20 _ _ h (by decide +kernel)).trans rfl
set_option maxHeartbeats 4000000 in
theorem bk_71_21 (x0 : Nat) (x1 : Int) (x2 : Int) (h : am_H) : am_run am_ms 71 21 [am_R x0, am_I x1, am_I x2, am_K 1] [] h = ((am_gfR h x0 1 1).bind fun f1 => ((am_rd h f1 0 4).bind fun v2 => ((am_gfR h x0 1 9).bind fun f3 => ((am_gfR h x0 1 10).bind fun f4 => ((am_rd h f4 0 x1).bind fun v5 => ((am_rd h f3 0 v5).bind fun v6 => am_run am_ms 71 41 [am_R x0, am_I x1, am_I x2, am_K 1] [am_I (am_w ((am_w (v2 + 1)) - v6))] h)))))) :=
  (am_xs_run am_ms 71 [(.aload_n 0, 1, []), (.getfield 15, 3, [1, 1, 1150, 3]), (.iconst 4, 1, []), (.iaload, 1, []), (.iconst 1, 1, []), (.iadd, 1, []), (.aload_n 0, 1, []), (.getfield 39, 3, [1, 9, 1168, 3]), (.aload_n 0, 1, []), (.getfield 42, 3, [1, 10, 1171, 3]), (.iload_n 1, 1, []), (.iaload, 1, []), (.iaload, 1, []), (.isub, 1, [])] 21 _ _ h (by decide +kernel)).trans rfl
set_option maxHeartbeats 4000000 in
theorem bk_71_41 (x0 : Nat) (x1 : Int) (x2 : Int) (y0 : Int) (h : am_H) : am_run am_ms 71 41 [am_R x0, am_I x1, am_I x2, am_K 1] [am_I y0] h = (bif decide (¬ x2 = 1) then am_run am_ms 71 59 [am_R x0, am_I x1, am_I x2, am_I y0] [] h else (bif decide (8 < y0) then am_run am_ms 71 57 [am_R x0, am_I x1, am_I x2, am_I y0] [] h else am_run am_ms 71 58 [am_R x0, am_I x1, am_I x2, am_I y0] [am_I 0] h)) :=
  (am_xs_run am_ms 71 [(.istore_n 3, 1, []), (.iload_n 2, 1, []), (.iconst 1, 1, []), (.if_icmp .ne 15, 3, []), (.iload_n 3, 1, []), (.bipush 8, 2, []), (.if_icmp .gt 7, 3, []), (.iconst 0, 1, []), (.goto 4, 3, [])] 41 _ _ h (by decide +kernel)).trans rfl
set_option maxHeartbeats 4000000 in
theorem bk_71_57 (x0 : Nat) (x1 : Int) (x2 : Int) (x3 : Int) (h : am_H) : am_run am_ms 71 57 [am_R x0, am_I x1, am_I x2, am_I x3] [] h = am_run am_ms 71 58 [am_R x0, am_I x1, am_I x2, am_I x3] [am_I 1] h :=
  (am_xs_run am_ms 71 [(.iconst 1, 1, [])] 57 _ _ h (by decide +kernel)).trans rfl
set_option maxHeartbeats 4000000 in
theorem bk_71_58 (x0 : Nat) (x1 : Int) (x2 : Int) (x3 : Int) (y0 : Int) (h : am_H) : am_run am_ms 71 58 [am_R x0, am_I x1, am_I x2, am_I x3] [am_I y0] h = some (some (am_I y0), h) :=
  (am_xs_run am_ms 71 [(.ireturn, 1, [0])] 58 _ _ h (by decide +kernel)).trans rfl
set_option maxHeartbeats 4000000 in
theorem bk_71_59 (x0 : Nat) (x1 : Int) (x2 : Int) (x3 : Int) (h : am_H) : am_run am_ms 71 59 [am_R x0, am_I x1, am_I x2, am_I x3] [] h = (bif decide (¬ x2 = 2) then am_run am_ms 71 81 [am_R x0, am_I x1, am_I x2, am_I x3] [] h else (bif decide (16 < x3) then am_run am_ms 71 81 [am_R x0, am_I x1, am_I x2, am_I x3] [] h else (bif decide (4 < x3) then am_run am_ms 71 79 [am_R x0, am_I x1, am_I x2, am_I x3] [] h else am_run am_ms 71 80 [am_R x0, am_I x1, am_I x2, am_I x3] [am_I 0] h))) :=
  (am_xs_run am_ms 71 [(.iload_n 2, 1, []), (.iconst 2, 1, []), (.if_icmp .ne 20, 3, []), (.iload_n 3, 1, []), (.bipush 16, 2, []), (.if_icmp .gt 14, 3, []), (.iload_n 3, 1, []), (.iconst 4, 1, []), (.if_icmp .gt 7, 3, []), (.iconst 0, 1, []), (.goto 4, 3, [])] 59 _ _ h (by decide +kernel)).trans rfl
set_option maxHeartbeats 4000000 in
theorem bk_71_79 (x0 : Nat) (x1 : Int) (x2 : Int) (x3 : Int) (h : am_H) : am_run am_ms 71 79 [am_R x0, am_I x1, am_I x2, am_I x3] [] h = am_run am_ms 71 80 [am_R x0, am_I x1, am_I x2, am_I x3] [am_I 1] h :=
  (am_xs_run am_ms 71 [(.iconst 1, 1, [])] 79 _ _ h (by decide +kernel)).trans rfl
set_option maxHeartbeats 4000000 in
theorem bk_71_80 (x0 : Nat) (x1 : Int) (x2 : Int) (x3 : Int) (y0 : Int) (h : am_H) : am_run am_ms 71 80 [am_R x0, am_I x1, am_I x2, am_I x3] [am_I y0] h = some (some (am_I y0), h) :=
  (am_xs_run am_ms 71 [(.ireturn, 1, [0])] 80 _ _ h (by decide +kernel)).trans rfl
set_option maxHeartbeats 4000000 in
theorem bk_71_81 (x0 : Nat) (x1 : Int) (x2 : Int) (x3 : Int) (h : am_H) : am_run am_ms 71 81 [am_R x0, am_I x1, am_I x2, am_I x3] [] h = some (some (am_I x2), h) :=
  (am_xs_run am_ms 71 [(.iload_n 2, 1, []), (.ireturn, 1, [0])] 81 _ _ h (by decide +kernel)).trans rfl
set_option maxHeartbeats 4000000 in
theorem bk_72_0 (x0 : Nat) (x1 : Int) (h : am_H) : am_run am_ms 72 0 [am_R x0, am_I x1] [] h = (bif decide (x1 < 0) then am_run am_ms 72 18 [am_R x0, am_I x1] [] h else ((am_gfR h x0 1 0).bind fun f1 => ((am_rd h f1 0 4).bind fun v2 => (bif decide (v2 ≤ x1) then am_run am_ms 72 18 [am_R x0, am_I x1] [] h else am_run am_ms 72 19 [am_R x0, am_I x1] [am_I 1] h)))) :=
  (am_xs_run am_ms 72 [(.iload_n 1, 1, []), (.ifCond .lt 17, 3, []), (.iload_n 1, 1, []), (.aload_n 0, 1, []), (.getfield 9, 3, [1, 0, 1146, 3]), (.iconst 4, 1, []), (.iaload, 1, []), (.if_icmp .ge 7, 3, []), (.iconst 1, 1, []), (.goto 4, 3, [])] 0 _ _ h (by decide +kernel)).trans rfl
theorem en_72 (x0 : Nat) (x1 : Int) (h : am_H) : am_call am_ms 72 [am_R x0, am_I x1] h = am_run am_ms 72 0 [am_R x0, am_I x1] [] h := rfl
set_option maxHeartbeats 4000000 in
theorem bk_72_18 (x0 : Nat) (x1 : Int) (h : am_H) : am_run am_ms 72 18 [am_R x0, am_I x1] [] h = am_run am_ms 72 19 [am_R x0, am_I x1] [am_I 0] h :=
  (am_xs_run am_ms 72 [(.iconst 0, 1, [])] 18 _ _ h (by decide +kernel)).trans rfl
set_option maxHeartbeats 4000000 in
theorem bk_72_19 (x0 : Nat) (x1 : Int) (y0 : Int) (h : am_H) : am_run am_ms 72 19 [am_R x0, am_I x1] [am_I y0] h = (bif am_rok 1 y0 then some (some (am_I y0), h) else none) :=
  (am_xs_run am_ms 72 [(.ireturn, 1, [1])] 19 _ _ h (by decide +kernel)).trans rfl
set_option maxHeartbeats 4000000 in
theorem bk_73_0 (x0 : Nat) (x1 : Int) (h : am_H) : am_run am_ms 73 0 [am_R x0, am_I x1, am_K 1] [] h = ((am_isc h x0 1).bind fun _ => ((am_cI 72 [am_R x0, am_I x1] h).bind fun r1 => (bif decide (¬ r1.1 = 0) then am_run am_ms 73 10 [am_R x0, am_I x1, am_K 1] [] r1.2 else some (some (am_I 1), r1.2)))) :=
  (am_xs_run am_ms 73 [(.aload_n 0, 1, []), (.iload_n 1, 1, []), (.invokevirtual 126, 3, [0, 72, 2, 1, 1, 3074, 3075, 3076]), (.ifCond .ne 5, 3, []), (.iconst 1, 1, []), (.ireturn, 1, [1])] 0 _ _ h (by decide +kernel)).trans rfl
theorem en_73 (x0 : Nat) (x1 : Int) (h : am_H) : am_call am_ms 73 [am_R x0, am_I x1] h = am_run am_ms 73 0 [am_R x0, am_I x1, am_K 1] [] h := rfl
set_option maxHeartbeats 4000000 in
theorem bk_73_10 (x0 : Nat) (x1 : Int) (h : am_H) : am_run am_ms 73 10 [am_R x0, am_I x1, am_K 1] [] h = ((am_gfR h x0 1 6).bind fun f1 => ((am_rd h f1 0 x1).bind fun v2 => ((am_isc h x0 1).bind fun _ => ((am_cI 64 [am_R x0, am_I v2] h).bind fun r3 => (bif decide (r3.1 = 0) then am_run am_ms 73 35 [am_R x0, am_I x1, am_I v2] [] r3.2 else ((am_gfR r3.2 x0 1 2).bind fun f4 => ((am_rd r3.2 f4 0 v2).bind fun v5 => am_run am_ms 73 32 [am_R x0, am_I x1, am_I v2] [am_I 3, am_I v5] r3.2))))))) :=
  (am_xs_run am_ms 73 [(.aload_n 0, 1, []), (.getfield 30, 3, [1, 6, 1161, 3]), (.iload_n 1, 1, []), (.iaload, 1, []), (.istore_n 2, 1, []), (.aload_n 0, 1, []), (.iload_n 2, 1, []), (.invokevirtual 86, 3, [0, 64, 2, 1, 1, 3042, 3043, 3044]), (.ifCond .eq 13, 3, []), (.aload_n 0, 1, []), (.getfield 18, 3, [1, 2, 1152, 3]), (.iload_n 2, 1, []), (.iaload, 1, []), (.iconst 3, 1, [])] 10 _ _ h (by decide +kernel)).trans rfl
set_option maxHeartbeats 4000000 in
theorem bk_73_32 (x0 : Nat) (x1 : Int) (x2 : Int) (y0 : Int) (y1 : Int) (h : am_H) : am_run am_ms 73 32 [am_R x0, am_I x1, am_I x2] [am_I y0, am_I y1] h = (bif decide (¬ y1 = y0) then am_run am_ms 73 39 [am_R x0, am_I x1, am_I x2] [] h else am_run am_ms 73 35 [am_R x0, am_I x1, am_I x2] [] h) :=
  (am_xs_run am_ms 73 [(.if_icmp .ne 7, 3, [])] 32 _ _ h (by decide +kernel)).trans rfl
set_option maxHeartbeats 4000000 in
theorem bk_73_35 (x0 : Nat) (x1 : Int) (x2 : Int) (h : am_H) : am_run am_ms 73 35 [am_R x0, am_I x1, am_I x2] [] h = am_run am_ms 73 40 [am_R x0, am_I x1, am_I x2] [am_I 1] h :=
  (am_xs_run am_ms 73 [(.iconst 1, 1, []), (.goto 4, 3, [])] 35 _ _ h (by decide +kernel)).trans rfl
set_option maxHeartbeats 4000000 in
theorem bk_73_39 (x0 : Nat) (x1 : Int) (x2 : Int) (h : am_H) : am_run am_ms 73 39 [am_R x0, am_I x1, am_I x2] [] h = am_run am_ms 73 40 [am_R x0, am_I x1, am_I x2] [am_I 0] h :=
  (am_xs_run am_ms 73 [(.iconst 0, 1, [])] 39 _ _ h (by decide +kernel)).trans rfl
set_option maxHeartbeats 4000000 in
theorem bk_73_40 (x0 : Nat) (x1 : Int) (x2 : Int) (y0 : Int) (h : am_H) : am_run am_ms 73 40 [am_R x0, am_I x1, am_I x2] [am_I y0] h = (bif am_rok 1 y0 then some (some (am_I y0), h) else none) :=
  (am_xs_run am_ms 73 [(.ireturn, 1, [1])] 40 _ _ h (by decide +kernel)).trans rfl
set_option maxHeartbeats 4000000 in
theorem bk_74_0 (x0 : Nat) (x1 : Int) (h : am_H) : am_run am_ms 74 0 [am_R x0, am_I x1, am_K 1, am_K 1] [] h = am_run am_ms 74 4 [am_R x0, am_I x1, am_I 0, am_I 0] [] h :=
  (am_xs_run am_ms 74 [(.iconst 0, 1, []), (.istore_n 2, 1, []), (.iconst 0, 1, []), (.istore_n 3, 1, [])] 0 _ _ h (by decide +kernel)).trans rfl
theorem en_74 (x0 : Nat) (x1 : Int) (h : am_H) : am_call am_ms 74 [am_R x0, am_I x1] h = am_run am_ms 74 0 [am_R x0, am_I x1, am_K 1, am_K 1] [] h := rfl
set_option maxHeartbeats 4000000 in
theorem bk_74_4 (x0 : Nat) (x1 : Int) (x2 : Int) (x3 : Int) (h : am_H) : am_run am_ms 74 4 [am_R x0, am_I x1, am_I x2, am_I x3] [] h = ((am_gfR h x0 1 0).bind fun f1 => ((am_rd h f1 0 0).bind fun v2 => (bif decide (v2 ≤ x3) then am_run am_ms 74 33 [am_R x0, am_I x1, am_I x2, am_I x3] [] h else ((am_gfR h x0 1 2).bind fun f3 => ((am_rd h f3 0 x3).bind fun v4 => (bif decide (¬ v4 = x1) then am_run am_ms 74 27 [am_R x0, am_I x1, am_I x2, am_I x3] [] h else am_run am_ms 74 27 [am_R x0, am_I x1, am_I (am_w (x2 + 1)), am_I x3] [] h)))))) :=
  (am_xs_run am_ms 74 [(.iload_n 3, 1, []), (.aload_n 0, 1, []), (.getfield 9, 3, [1, 0, 1146, 3]), (.iconst 0, 1, []), (.iaload, 1, []), (.if_icmp .ge 22, 3, []), (.aload_n 0, 1, []), (.getfield 18, 3, [1, 2, 1152, 3]), (.iload_n 3, 1, []), (.iaload, 1, []), (.iload_n 1, 1, []), (.if_icmp .ne 6, 3, []), (.iinc 2 1, 3, [])] 4 _ _ h (by decide +kernel)).trans rfl
set_option maxHeartbeats 4000000 in
theorem bk_74_27 (x0 : Nat) (x1 : Int) (x2 : Int) (x3 : Int) (h : am_H) : am_run am_ms 74 27 [am_R x0, am_I x1, am_I x2, am_I x3] [] h = am_run am_ms 74 4 [am_R x0, am_I x1, am_I x2, am_I (am_w (x3 + 1))] [] h :=
  (am_xs_run am_ms 74 [(.iinc 3 1, 3, []), (.goto (-26), 3, [])] 27 _ _ h (by decide +kernel)).trans rfl
set_option maxHeartbeats 4000000 in
theorem bk_74_33 (x0 : Nat) (x1 : Int) (x2 : Int) (x3 : Int) (h : am_H) : am_run am_ms 74 33 [am_R x0, am_I x1, am_I x2, am_I x3] [] h = some (some (am_I x2), h) :=
  (am_xs_run am_ms 74 [(.iload_n 2, 1, []), (.ireturn, 1, [0])] 33 _ _ h (by decide +kernel)).trans rfl
set_option maxHeartbeats 4000000 in
theorem bk_75_0 (x0 : Nat) (x1 : Int) (h : am_H) : am_run am_ms 75 0 [am_R x0, am_I x1] [] h = ((am_isc h x0 1).bind fun _ => ((am_cI 73 [am_R x0, am_I x1] h).bind fun r1 => (bif decide (r1.1 = 0) then am_run am_ms 75 26 [am_R x0, am_I x1] [] r1.2 else ((am_isc r1.2 x0 1).bind fun _ => ((am_cI 74 [am_R x0, am_I 0] r1.2).bind fun r2 => ((am_gfR r2.2 x0 1 0).bind fun f3 => ((am_rd r2.2 f3 0 5).bind fun v4 => (bif decide (v4 < r2.1) then am_run am_ms 75 26 [am_R x0, am_I x1] [] r2.2 else am_run am_ms 75 27 [am_R x0, am_I x1] [am_I 1] r2.2)))))))) :=
  (am_xs_run am_ms 75 [(.aload_n 0, 1, []), (.iload_n 1, 1, []), (.invokevirtual 123, 3, [0, 73, 2, 1, 1, 3070, 3072, 14]), (.ifCond .eq 21, 3, []), (.aload_n 0, 1, []), (.iconst 0, 1, []), (.invokevirtual 97, 3, [0, 74, 2, 1, 1, 3078, 3079, 3080]), (.aload_n 0, 1, []), (.getfield 9, 3, [1, 0, 1146, 3]), (.iconst 5, 1, []), (.iaload, 1, []), (.if_icmp .gt 7, 3, []), (.iconst 1, 1, []), (.goto 4, 3, [])] 0 _ _ h (by decide +kernel)).trans rfl
theorem en_75 (x0 : Nat) (x1 : Int) (h : am_H) : am_call am_ms 75 [am_R x0, am_I x1] h = am_run am_ms 75 0 [am_R x0, am_I x1] [] h := rfl
set_option maxHeartbeats 4000000 in
theorem bk_75_26 (x0 : Nat) (x1 : Int) (h : am_H) : am_run am_ms 75 26 [am_R x0, am_I x1] [] h = am_run am_ms 75 27 [am_R x0, am_I x1] [am_I 0] h :=
  (am_xs_run am_ms 75 [(.iconst 0, 1, [])] 26 _ _ h (by decide +kernel)).trans rfl
set_option maxHeartbeats 4000000 in
theorem bk_75_27 (x0 : Nat) (x1 : Int) (y0 : Int) (h : am_H) : am_run am_ms 75 27 [am_R x0, am_I x1] [am_I y0] h = (bif am_rok 1 y0 then some (some (am_I y0), h) else none) :=
  (am_xs_run am_ms 75 [(.ireturn, 1, [1])] 27 _ _ h (by decide +kernel)).trans rfl
set_option maxHeartbeats 4000000 in
theorem bk_76_0 (x0 : Nat) (x1 : Nat) (h : am_H) : am_run am_ms 76 0 [am_R x0, am_R x1] [] h = ((am_gfR h x1 3 0).bind fun f1 => ((am_gfR h x0 3 0).bind fun f2 => ((am_cpy h (am_R f1) 0 f2 0 60).bind fun h3 => ((am_gfR h3 x1 3 1).bind fun f4 => ((am_gfR h3 x0 3 1).bind fun f5 => am_run am_ms 76 25 [am_R x0, am_R x1] [am_I 0, am_R f5, am_I 0, am_R f4] h3))))) :=
  (am_xs_run am_ms 76 [(.aload_n 1, 1, []), (.getfield 11, 3, [3, 0, 1129, 3]), (.iconst 0, 1, []), (.aload_n 0, 1, []), (.getfield 11, 3, [3, 0, 1129, 3]), (.iconst 0, 1, []), (.bipush 60, 2, []), (.invokestatic 29, 3, [11, 0, 5, 0, 0, 3090, 2101, 2100, 1011]), (.aload_n 1, 1, []), (.getfield 15, 3, [3, 1, 1130, 3]), (.iconst 0, 1, []), (.aload_n 0, 1, []), (.getfield 15, 3, [3, 1, 1130, 3]), (.iconst 0, 1, [])] 0 _ _ h (by decide +kernel)).trans rfl
theorem en_76 (x0 : Nat) (x1 : Nat) (h : am_H) : am_call am_ms 76 [am_R x0, am_R x1] h = am_run am_ms 76 0 [am_R x0, am_R x1] [] h := rfl
set_option maxHeartbeats 4000000 in
theorem bk_76_25 (x0 : Nat) (x1 : Nat) (y0 : Int) (y1 : Nat) (y2 : Int) (y3 : Nat) (h : am_H) : am_run am_ms 76 25 [am_R x0, am_R x1] [am_I y0, am_R y1, am_I y2, am_R y3] h = ((am_cpy h (am_R y3) y2 y1 y0 60).bind fun h1 => ((am_gfR h1 x1 3 2).bind fun f2 => ((am_gfR h1 x0 3 2).bind fun f3 => ((am_cpy h1 (am_R f2) 0 f3 0 60).bind fun h4 => ((am_gfI h4 x1 3 3).bind fun f5 => ((am_pf h4 x0 3 3 (am_I f5)).bind fun h6 => am_run am_ms 76 53 [am_R x0, am_R x1] [] h6)))))) :=
  (am_xs_run am_ms 76 [(.bipush 60, 2, []), (.invokestatic 29, 3, [11, 0, 5, 0, 0, 3090, 2101, 2100, 1011]), (.aload_n 1, 1, []), (.getfield 18, 3, [3, 2, 1131, 3]), (.iconst 0, 1, []), (.aload_n 0, 1, []), (.getfield 18, 3, [3, 2, 1131, 3]), (.iconst 0, 1, []), (.bipush 60, 2, []), (.invokestatic 29, 3, [11, 0, 5, 0, 0, 3090, 2101, 2100, 1011]), (.aload_n 0, 1, []), (.aload_n 1, 1, []), (.getfield 21, 3, [3, 3, 1132, 0]), (.putfield 21, 3, [3, 3, 1132, 0])] 25 _ _ h (by decide +kernel)).trans rfl
set_option maxHeartbeats 4000000 in
theorem bk_76_53 (x0 : Nat) (x1 : Nat) (h : am_H) : am_run am_ms 76 53 [am_R x0, am_R x1] [] h = ((am_gfI h x1 3 4).bind fun f1 => ((am_pf h x0 3 4 (am_I f1)).bind fun h2 => some (none, h2))) :=
  (am_xs_run am_ms 76 [(.aload_n 0, 1, []), (.aload_n 1, 1, []), (.getfield 25, 3, [3, 4, 1133, 0]), (.putfield 25, 3, [3, 4, 1133, 0]), (.return_, 1, [])] 53 _ _ h (by decide +kernel)).trans rfl
set_option maxHeartbeats 4000000 in
theorem bk_77_0 (x0 : Nat) (x1 : Nat) (h : am_H) : am_run am_ms 77 0 [am_R x0, am_R x1] [] h = ((am_gfR h x1 1 0).bind fun f1 => ((am_gfR h x0 1 0).bind fun f2 => ((am_cpy h (am_R f1) 0 f2 0 7).bind fun h3 => ((am_gfR h3 x1 1 1).bind fun f4 => ((am_gfR h3 x0 1 1).bind fun f5 => am_run am_ms 77 25 [am_R x0, am_R x1] [am_I 0, am_R f5, am_I 0, am_R f4] h3))))) :=
  (am_xs_run am_ms 77 [(.aload_n 1, 1, []), (.getfield 9, 3, [1, 0, 1146, 3]), (.iconst 0, 1, []), (.aload_n 0, 1, []), (.getfield 9, 3, [1, 0, 1146, 3]), (.iconst 0, 1, []), (.bipush 7, 2, []), (.invokestatic 58, 3, [11, 0, 5, 0, 0, 3025, 2101, 2100, 1011]), (.aload_n 1, 1, []), (.getfield 15, 3, [1, 1, 1150, 3]), (.iconst 0, 1, []), (.aload_n 0, 1, []), (.getfield 15, 3, [1, 1, 1150, 3]), (.iconst 0, 1, [])] 0 _ _ h (by decide +kernel)).trans rfl
theorem en_77 (x0 : Nat) (x1 : Nat) (h : am_H) : am_call am_ms 77 [am_R x0, am_R x1] h = am_run am_ms 77 0 [am_R x0, am_R x1] [] h := rfl
set_option maxHeartbeats 4000000 in
theorem bk_77_25 (x0 : Nat) (x1 : Nat) (y0 : Int) (y1 : Nat) (y2 : Int) (y3 : Nat) (h : am_H) : am_run am_ms 77 25 [am_R x0, am_R x1] [am_I y0, am_R y1, am_I y2, am_R y3] h = ((am_cpy h (am_R y3) y2 y1 y0 8).bind fun h1 => ((am_gfR h1 x1 1 2).bind fun f2 => ((am_gfR h1 x0 1 2).bind fun f3 => ((am_cpy h1 (am_R f2) 0 f3 0 8).bind fun h4 => ((am_gfR h4 x1 1 3).bind fun f5 => am_run am_ms 77 51 [am_R x0, am_R x1] [am_R x0, am_I 0, am_R f5] h4))))) :=
  (am_xs_run am_ms 77 [(.bipush 8, 2, []), (.invokestatic 58, 3, [11, 0, 5, 0, 0, 3025, 2101, 2100, 1011]), (.aload_n 1, 1, []), (.getfield 18, 3, [1, 2, 1152, 3]), (.iconst 0, 1, []), (.aload_n 0, 1, []), (.getfield 18, 3, [1, 2, 1152, 3]), (.iconst 0, 1, []), (.bipush 8, 2, []), (.invokestatic 58, 3, [11, 0, 5, 0, 0, 3025, 2101, 2100, 1011]), (.aload_n 1, 1, []), (.getfield 21, 3, [1, 3, 1155, 3]), (.iconst 0, 1, []), (.aload_n 0, 1, [])] 25 _ _ h (by decide +kernel)).trans rfl
set_option maxHeartbeats 4000000 in
theorem bk_77_51 (x0 : Nat) (x1 : Nat) (y0 : Nat) (y1 : Int) (y2 : Nat) (h : am_H) : am_run am_ms 77 51 [am_R x0, am_R x1] [am_R y0, am_I y1, am_R y2] h = ((am_gfR h y0 1 3).bind fun f1 => ((am_cpy h (am_R y2) y1 f1 0 8).bind fun h2 => ((am_gfR h2 x1 1 4).bind fun f3 => ((am_gfR h2 x0 1 4).bind fun f4 => ((am_cpy h2 (am_R f3) 0 f4 0 8).bind fun h5 => ((am_gfR h5 x1 1 5).bind fun f6 => am_run am_ms 77 79 [am_R x0, am_R x1] [am_R f6] h5)))))) :=
  (am_xs_run am_ms 77 [(.getfield 21, 3, [1, 3, 1155, 3]), (.iconst 0, 1, []), (.bipush 8, 2, []), (.invokestatic 58, 3, [11, 0, 5, 0, 0, 3025, 2101, 2100, 1011]), (.aload_n 1, 1, []), (.getfield 24, 3, [1, 4, 1157, 3]), (.iconst 0, 1, []), (.aload_n 0, 1, []), (.getfield 24, 3, [1, 4, 1157, 3]), (.iconst 0, 1, []), (.bipush 8, 2, []), (.invokestatic 58, 3, [11, 0, 5, 0, 0, 3025, 2101, 2100, 1011]), (.aload_n 1, 1, []), (.getfield 27, 3, [1, 5, 1160, 3])] 51 _ _ h (by decide +kernel)).trans rfl
set_option maxHeartbeats 4000000 in
theorem bk_77_79 (x0 : Nat) (x1 : Nat) (y0 : Nat) (h : am_H) : am_run am_ms 77 79 [am_R x0, am_R x1] [am_R y0] h = ((am_gfR h x0 1 5).bind fun f1 => ((am_cpy h (am_R y0) 0 f1 0 8).bind fun h2 => ((am_gfR h2 x1 1 6).bind fun f3 => ((am_gfR h2 x0 1 6).bind fun f4 => ((am_cpy h2 (am_R f3) 0 f4 0 3).bind fun h5 => am_run am_ms 77 104 [am_R x0, am_R x1] [] h5))))) :=
  (am_xs_run am_ms 77 [(.iconst 0, 1, []), (.aload_n 0, 1, []), (.getfield 27, 3, [1, 5, 1160, 3]), (.iconst 0, 1, []), (.bipush 8, 2, []), (.invokestatic 58, 3, [11, 0, 5, 0, 0, 3025, 2101, 2100, 1011]), (.aload_n 1, 1, []), (.getfield 30, 3, [1, 6, 1161, 3]), (.iconst 0, 1, []), (.aload_n 0, 1, []), (.getfield 30, 3, [1, 6, 1161, 3]), (.iconst 0, 1, []), (.iconst 3, 1, []), (.invokestatic 58, 3, [11, 0, 5, 0, 0, 3025, 2101, 2100, 1011])] 79 _ _ h (by decide +kernel)).trans rfl
set_option maxHeartbeats 4000000 in
theorem bk_77_104 (x0 : Nat) (x1 : Nat) (h : am_H) : am_run am_ms 77 104 [am_R x0, am_R x1] [] h = ((am_gfR h x1 1 7).bind fun f1 => ((am_gfR h x0 1 7).bind fun f2 => ((am_cpy h (am_R f1) 0 f2 0 128).bind fun h3 => ((am_gfR h3 x1 1 8).bind fun f4 => ((am_gfR h3 x0 1 8).bind fun f5 => am_run am_ms 77 130 [am_R x0, am_R x1] [am_I 0, am_R f5, am_I 0, am_R f4] h3))))) :=
  (am_xs_run am_ms 77 [(.aload_n 1, 1, []), (.getfield 33, 3, [1, 7, 1163, 3]), (.iconst 0, 1, []), (.aload_n 0, 1, []), (.getfield 33, 3, [1, 7, 1163, 3]), (.iconst 0, 1, []), (.sipush 128, 3, []), (.invokestatic 58, 3, [11, 0, 5, 0, 0, 3025, 2101, 2100, 1011]), (.aload_n 1, 1, []), (.getfield 36, 3, [1, 8, 1166, 3]), (.iconst 0, 1, []), (.aload_n 0, 1, []), (.getfield 36, 3, [1, 8, 1166, 3]), (.iconst 0, 1, [])] 104 _ _ h (by decide +kernel)).trans rfl
set_option maxHeartbeats 4000000 in
theorem bk_77_130 (x0 : Nat) (x1 : Nat) (y0 : Int) (y1 : Nat) (y2 : Int) (y3 : Nat) (h : am_H) : am_run am_ms 77 130 [am_R x0, am_R x1] [am_I y0, am_R y1, am_I y2, am_R y3] h = ((am_cpy h (am_R y3) y2 y1 y0 128).bind fun h1 => ((am_gfR h1 x1 1 9).bind fun f2 => ((am_gfR h1 x0 1 9).bind fun f3 => ((am_cpy h1 (am_R f2) 0 f3 0 128).bind fun h4 => ((am_gfR h4 x1 1 10).bind fun f5 => am_run am_ms 77 158 [am_R x0, am_R x1] [am_R x0, am_I 0, am_R f5] h4))))) :=
  (am_xs_run am_ms 77 [(.sipush 128, 3, []), (.invokestatic 58, 3, [11, 0, 5, 0, 0, 3025, 2101, 2100, 1011]), (.aload_n 1, 1, []), (.getfield 39, 3, [1, 9, 1168, 3]), (.iconst 0, 1, []), (.aload_n 0, 1, []), (.getfield 39, 3, [1, 9, 1168, 3]), (.iconst 0, 1, []), (.sipush 128, 3, []), (.invokestatic 58, 3, [11, 0, 5, 0, 0, 3025, 2101, 2100, 1011]), (.aload_n 1, 1, []), (.getfield 42, 3, [1, 10, 1171, 3]), (.iconst 0, 1, []), (.aload_n 0, 1, [])] 130 _ _ h (by decide +kernel)).trans rfl
set_option maxHeartbeats 4000000 in
theorem bk_77_158 (x0 : Nat) (x1 : Nat) (y0 : Nat) (y1 : Int) (y2 : Nat) (h : am_H) : am_run am_ms 77 158 [am_R x0, am_R x1] [am_R y0, am_I y1, am_R y2] h = ((am_gfR h y0 1 10).bind fun f1 => ((am_cpy h (am_R y2) y1 f1 0 32).bind fun h2 => ((am_gfR h2 x1 1 11).bind fun f3 => ((am_gfR h2 x0 1 11).bind fun f4 => ((am_cpy h2 (am_R f3) 0 f4 0 32).bind fun h5 => ((am_gfR h5 x1 1 12).bind fun f6 => am_run am_ms 77 186 [am_R x0, am_R x1] [am_R f6] h5)))))) :=
  (am_xs_run am_ms 77 [(.getfield 42, 3, [1, 10, 1171, 3]), (.iconst 0, 1, []), (.bipush 32, 2, []), (.invokestatic 58, 3, [11, 0, 5, 0, 0, 3025, 2101, 2100, 1011]), (.aload_n 1, 1, []), (.getfield 45, 3, [1, 11, 1174, 3]), (.iconst 0, 1, []), (.aload_n 0, 1, []), (.getfield 45, 3, [1, 11, 1174, 3]), (.iconst 0, 1, []), (.bipush 32, 2, []), (.invokestatic 58, 3, [11, 0, 5, 0, 0, 3025, 2101, 2100, 1011]), (.aload_n 1, 1, []), (.getfield 48, 3, [1, 12, 1175, 3])] 158 _ _ h (by decide +kernel)).trans rfl
set_option maxHeartbeats 4000000 in
theorem bk_77_186 (x0 : Nat) (x1 : Nat) (y0 : Nat) (h : am_H) : am_run am_ms 77 186 [am_R x0, am_R x1] [am_R y0] h = ((am_gfR h x0 1 12).bind fun f1 => ((am_cpy h (am_R y0) 0 f1 0 32).bind fun h2 => ((am_gfR h2 x0 1 13).bind fun f3 => ((am_gfR h2 x1 1 13).bind fun f4 => ((am_isc h2 f3 3).bind fun _ => ((am_cV 76 [am_R f3, am_R f4] h2).bind fun h5 => some (none, h5))))))) :=
  (am_xs_run am_ms 77 [(.iconst 0, 1, []), (.aload_n 0, 1, []), (.getfield 48, 3, [1, 12, 1175, 3]), (.iconst 0, 1, []), (.bipush 32, 2, []), (.invokestatic 58, 3, [11, 0, 5, 0, 0, 3025, 2101, 2100, 1011]), (.aload_n 0, 1, []), (.getfield 54, 3, [1, 13, 1178, 3]), (.aload_n 1, 1, []), (.getfield 54, 3, [1, 13, 1178, 3]), (.invokevirtual 64, 3, [0, 76, 2, 3, 0, 3086, 3087, 3088]), (.return_, 1, [])] 186 _ _ h (by decide +kernel)).trans rfl
set_option maxHeartbeats 4000000 in
theorem bk_78_0 (x0 : Nat) (x1 : Int) (h : am_H) : am_run am_ms 78 0 [am_R x0, am_I x1, am_K 1] [] h = ((am_gfR h x0 1 7).bind fun f1 => ((am_rd h f1 0 x1).bind fun v2 => ((am_gfR h x0 1 10).bind fun f3 => ((am_rd h f3 0 v2).bind fun v4 => (bif decide (v4 = x1) then am_run am_ms 78 19 [am_R x0, am_I x1, am_I v2] [] h else some (some (am_I 0), h)))))) :=
  (am_xs_run am_ms 78 [(.aload_n 0, 1, []), (.getfield 33, 3, [1, 7, 1163, 3]), (.iload_n 1, 1, []), (.iaload, 1, []), (.istore_n 2, 1, []), (.aload_n 0, 1, []), (.getfield 42, 3, [1, 10, 1171, 3]), (.iload_n 2, 1, []), (.iaload, 1, []), (.iload_n 1, 1, []), (.if_icmp .eq 5, 3, []), (.iconst 0, 1, []), (.ireturn, 1, [1])] 0 _ _ h (by decide +kernel)).trans rfl
theorem en_78 (x0 : Nat) (x1 : Int) (h : am_H) : am_call am_ms 78 [am_R x0, am_I x1] h = am_run am_ms 78 0 [am_R x0, am_I x1, am_K 1] [] h := rfl
set_option maxHeartbeats 4000000 in
theorem bk_78_19 (x0 : Nat) (x1 : Int) (x2 : Int) (h : am_H) : am_run am_ms 78 19 [am_R x0, am_I x1, am_I x2] [] h = ((am_gfR h x0 1 8).bind fun f1 => ((am_rd h f1 0 x1).bind fun v2 => (bif decide (¬ v2 = (-1)) then am_run am_ms 78 44 [am_R x0, am_I x1, am_I x2] [] h else ((am_gfR h x0 1 11).bind fun f3 => ((am_rd h f3 0 x2).bind fun v4 => ((am_gfR h x0 1 9).bind fun f5 => ((am_rd h f5 0 x1).bind fun v6 => am_run am_ms 78 41 [am_R x0, am_I x1, am_I x2] [am_I v6, am_I v4] h))))))) :=
  (am_xs_run am_ms 78 [(.aload_n 0, 1, []), (.getfield 36, 3, [1, 8, 1166, 3]), (.iload_n 1, 1, []), (.iaload, 1, []), (.iconst (-1), 1, []), (.if_icmp .ne 18, 3, []), (.aload_n 0, 1, []), (.getfield 45, 3, [1, 11, 1174, 3]), (.iload_n 2, 1, []), (.iaload, 1, []), (.aload_n 0, 1, []), (.getfield 39, 3, [1, 9, 1168, 3]), (.iload_n 1, 1, []), (.iaload, 1, [])] 19 _ _ h (by decide +kernel)).trans rfl
set_option maxHeartbeats 4000000 in
theorem bk_78_41 (x0 : Nat) (x1 : Int) (x2 : Int) (y0 : Int) (y1 : Int) (h : am_H) : am_run am_ms 78 41 [am_R x0, am_I x1, am_I x2] [am_I y0, am_I y1] h = (bif decide (y0 ≤ y1) then am_run am_ms 78 48 [am_R x0, am_I x1, am_I x2] [] h else am_run am_ms 78 44 [am_R x0, am_I x1, am_I x2] [] h) :=
  (am_xs_run am_ms 78 [(.if_icmp .ge 7, 3, [])] 41 _ _ h (by decide +kernel)).trans rfl
set_option maxHeartbeats 4000000 in
theorem bk_78_44 (x0 : Nat) (x1 : Int) (x2 : Int) (h : am_H) : am_run am_ms 78 44 [am_R x0, am_I x1, am_I x2] [] h = am_run am_ms 78 49 [am_R x0, am_I x1, am_I x2] [am_I 1] h :=
  (am_xs_run am_ms 78 [(.iconst 1, 1, []), (.goto 4, 3, [])] 44 _ _ h (by decide +kernel)).trans rfl
set_option maxHeartbeats 4000000 in
theorem bk_78_48 (x0 : Nat) (x1 : Int) (x2 : Int) (h : am_H) : am_run am_ms 78 48 [am_R x0, am_I x1, am_I x2] [] h = am_run am_ms 78 49 [am_R x0, am_I x1, am_I x2] [am_I 0] h :=
  (am_xs_run am_ms 78 [(.iconst 0, 1, [])] 48 _ _ h (by decide +kernel)).trans rfl
set_option maxHeartbeats 4000000 in
theorem bk_78_49 (x0 : Nat) (x1 : Int) (x2 : Int) (y0 : Int) (h : am_H) : am_run am_ms 78 49 [am_R x0, am_I x1, am_I x2] [am_I y0] h = (bif am_rok 1 y0 then some (some (am_I y0), h) else none) :=
  (am_xs_run am_ms 78 [(.ireturn, 1, [1])] 49 _ _ h (by decide +kernel)).trans rfl
set_option maxHeartbeats 4000000 in
theorem bk_79_0 (x0 : Nat) (x1 : Int) (h : am_H) : am_run am_ms 79 0 [am_R x0, am_I x1, am_K 1, am_K 1, am_K 1] [] h = am_run am_ms 79 10 [am_R x0, am_I x1, am_I 0, am_I (am_w (x1 * 16)), am_I 0] [] h :=
  (am_xs_run am_ms 79 [(.iconst 0, 1, []), (.istore_n 2, 1, []), (.iload_n 1, 1, []), (.bipush 16, 2, []), (.imul, 1, []), (.istore_n 3, 1, []), (.iconst 0, 1, []), (.istore 4, 2, [])] 0 _ _ h (by decide +kernel)).trans rfl
theorem en_79 (x0 : Nat) (x1 : Int) (h : am_H) : am_call am_ms 79 [am_R x0, am_I x1] h = am_run am_ms 79 0 [am_R x0, am_I x1, am_K 1, am_K 1, am_K 1] [] h := rfl
set_option maxHeartbeats 4000000 in
theorem bk_79_10 (x0 : Nat) (x1 : Int) (x2 : Int) (x3 : Int) (x4 : Int) (h : am_H) : am_run am_ms 79 10 [am_R x0, am_I x1, am_I x2, am_I x3, am_I x4] [] h = ((am_gfR h x0 1 3).bind fun f1 => ((am_rd h f1 0 x1).bind fun v2 => (bif decide (v2 ≤ x4) then am_run am_ms 79 41 [am_R x0, am_I x1, am_I x2, am_I x3, am_I x4] [] h else ((am_isc h x0 1).bind fun _ => ((am_cI 78 [am_R x0, am_I (am_w (x3 + x4))] h).bind fun r3 => (bif decide (r3.1 = 0) then am_run am_ms 79 35 [am_R x0, am_I x1, am_I x2, am_I x3, am_I x4] [] r3.2 else am_run am_ms 79 35 [am_R x0, am_I x1, am_I (am_w (x2 + 1)), am_I x3, am_I x4] [] r3.2)))))) :=
  (am_xs_run am_ms 79 [(.iload 4, 2, []), (.aload_n 0, 1, []), (.getfield 21, 3, [1, 3, 1155, 3]), (.iload_n 1, 1, []), (.iaload, 1, []), (.if_icmp .ge 23, 3, []), (.aload_n 0, 1, []), (.iload_n 3, 1, []), (.iload 4, 2, []), (.iadd, 1, []), (.invokevirtual 100, 3, [0, 78, 2, 1, 1, 3107, 3108, 3109]), (.ifCond .eq 6, 3, []), (.iinc 2 1, 3, [])] 10 _ _ h (by decide +kernel)).trans rfl
set_option maxHeartbeats 4000000 in
theorem bk_79_35 (x0 : Nat) (x1 : Int) (x2 : Int) (x3 : Int) (x4 : Int) (h : am_H) : am_run am_ms 79 35 [am_R x0, am_I x1, am_I x2, am_I x3, am_I x4] [] h = am_run am_ms 79 10 [am_R x0, am_I x1, am_I x2, am_I x3, am_I (am_w (x4 + 1))] [] h :=
  (am_xs_run am_ms 79 [(.iinc 4 1, 3, []), (.goto (-28), 3, [])] 35 _ _ h (by decide +kernel)).trans rfl
set_option maxHeartbeats 4000000 in
theorem bk_79_41 (x0 : Nat) (x1 : Int) (x2 : Int) (x3 : Int) (x4 : Int) (h : am_H) : am_run am_ms 79 41 [am_R x0, am_I x1, am_I x2, am_I x3, am_I x4] [] h = some (some (am_I x2), h) :=
  (am_xs_run am_ms 79 [(.iload_n 2, 1, []), (.ireturn, 1, [0])] 41 _ _ h (by decide +kernel)).trans rfl
set_option maxHeartbeats 4000000 in
theorem bk_80_0 (x0 : Nat) (x1 : Int) (h : am_H) : am_run am_ms 80 0 [am_R x0, am_I x1] [] h = ((am_gfR h x0 1 0).bind fun f1 => ((am_rd h f1 0 1).bind fun v2 => ((am_isc h x0 1).bind fun _ => ((am_cI 79 [am_R x0, am_I x1] h).bind fun r3 => some (some (am_I (am_w (v2 - r3.1))), r3.2))))) :=
  (am_xs_run am_ms 80 [(.aload_n 0, 1, []), (.getfield 9, 3, [1, 0, 1146, 3]), (.iconst 1, 1, []), (.iaload, 1, []), (.aload_n 0, 1, []), (.iload_n 1, 1, []), (.invokevirtual 103, 3, [0, 79, 2, 1, 1, 3103, 3104, 3105]), (.isub, 1, []), (.ireturn, 1, [0])] 0 _ _ h (by decide +kernel)).trans rfl
theorem en_80 (x0 : Nat) (x1 : Int) (h : am_H) : am_call am_ms 80 [am_R x0, am_I x1] h = am_run am_ms 80 0 [am_R x0, am_I x1] [] h := rfl
set_option maxHeartbeats 4000000 in
theorem bk_81_0 (x0 : Nat) (x1 : Int) (h : am_H) : am_run am_ms 81 0 [am_R x0, am_I x1] [] h = ((am_gfR h x0 1 2).bind fun f1 => ((am_rd h f1 0 x1).bind fun v2 => (bif decide (¬ v2 = 3) then am_run am_ms 81 22 [am_R x0, am_I x1] [] h else ((am_isc h x0 1).bind fun _ => ((am_cI 80 [am_R x0, am_I x1] h).bind fun r3 => (bif decide (r3.1 ≤ 0) then am_run am_ms 81 22 [am_R x0, am_I x1] [] r3.2 else am_run am_ms 81 23 [am_R x0, am_I x1] [am_I 1] r3.2)))))) :=
  (am_xs_run am_ms 81 [(.aload_n 0, 1, []), (.getfield 18, 3, [1, 2, 1152, 3]), (.iload_n 1, 1, []), (.iaload, 1, []), (.iconst 3, 1, []), (.if_icmp .ne 15, 3, []), (.aload_n 0, 1, []), (.iload_n 1, 1, []), (.invokevirtual 114, 3, [0, 80, 2, 1, 1, 3099, 3100, 3101]), (.ifCond .le 7, 3, []), (.iconst 1, 1, []), (.goto 4, 3, [])] 0 _ _ h (by decide +kernel)).trans rfl
theorem en_81 (x0 : Nat) (x1 : Int) (h : am_H) : am_call am_ms 81 [am_R x0, am_I x1] h = am_run am_ms 81 0 [am_R x0, am_I x1] [] h := rfl
set_option maxHeartbeats 4000000 in
theorem bk_81_22 (x0 : Nat) (x1 : Int) (h : am_H) : am_run am_ms 81 22 [am_R x0, am_I x1] [] h = am_run am_ms 81 23 [am_R x0, am_I x1] [am_I 0] h :=
  (am_xs_run am_ms 81 [(.iconst 0, 1, [])] 22 _ _ h (by decide +kernel)).trans rfl
set_option maxHeartbeats 4000000 in
theorem bk_81_23 (x0 : Nat) (x1 : Int) (y0 : Int) (h : am_H) : am_run am_ms 81 23 [am_R x0, am_I x1] [am_I y0] h = (bif am_rok 1 y0 then some (some (am_I y0), h) else none) :=
  (am_xs_run am_ms 81 [(.ireturn, 1, [1])] 23 _ _ h (by decide +kernel)).trans rfl
set_option maxHeartbeats 4000000 in
theorem bk_82_0 (x0 : Nat) (x1 : Int) (h : am_H) : am_run am_ms 82 0 [am_R x0, am_I x1, am_K 1, am_K 1, am_K 1] [] h = am_run am_ms 82 10 [am_R x0, am_I x1, am_I (-1), am_I (am_w (x1 * 16)), am_I 0] [] h :=
  (am_xs_run am_ms 82 [(.iconst (-1), 1, []), (.istore_n 2, 1, []), (.iload_n 1, 1, []), (.bipush 16, 2, []), (.imul, 1, []), (.istore_n 3, 1, []), (.iconst 0, 1, []), (.istore 4, 2, [])] 0 _ _ h (by decide +kernel)).trans rfl
theorem en_82 (x0 : Nat) (x1 : Int) (h : am_H) : am_call am_ms 82 [am_R x0, am_I x1] h = am_run am_ms 82 0 [am_R x0, am_I x1, am_K 1, am_K 1, am_K 1] [] h := rfl
set_option maxHeartbeats 4000000 in
theorem bk_82_10 (x0 : Nat) (x1 : Int) (x2 : Int) (x3 : Int) (x4 : Int) (h : am_H) : am_run am_ms 82 10 [am_R x0, am_I x1, am_I x2, am_I x3, am_I x4] [] h = ((am_gfR h x0 1 3).bind fun f1 => ((am_rd h f1 0 x1).bind fun v2 => (bif decide (v2 ≤ x4) then am_run am_ms 82 41 [am_R x0, am_I x1, am_I x2, am_I x3, am_I x4] [] h else ((am_gfR h x0 1 9).bind fun f3 => ((am_rd h f3 0 (am_w (x3 + x4))).bind fun v4 => am_run am_ms 82 34 [am_R x0, am_I x1, am_I x2, am_I x3, am_I x4] [am_I (am_max x2 v4)] h))))) :=
  (am_xs_run am_ms 82 [(.iload 4, 2, []), (.aload_n 0, 1, []), (.getfield 21, 3, [1, 3, 1155, 3]), (.iload_n 1, 1, []), (.iaload, 1, []), (.if_icmp .ge 23, 3, []), (.iload_n 2, 1, []), (.aload_n 0, 1, []), (.getfield 39, 3, [1, 9, 1168, 3]), (.iload_n 3, 1, []), (.iload 4, 2, []), (.iadd, 1, []), (.iaload, 1, []), (.invokestatic 106, 3, [12, 0, 2, 0, 1, 3120, 2149, 1014, 2150])] 10 _ _ h (by decide +kernel)).trans rfl
set_option maxHeartbeats 4000000 in
theorem bk_82_34 (x0 : Nat) (x1 : Int) (x2 : Int) (x3 : Int) (x4 : Int) (y0 : Int) (h : am_H) : am_run am_ms 82 34 [am_R x0, am_I x1, am_I x2, am_I x3, am_I x4] [am_I y0] h = am_run am_ms 82 10 [am_R x0, am_I x1, am_I y0, am_I x3, am_I (am_w (x4 + 1))] [] h :=
  (am_xs_run am_ms 82 [(.istore_n 2, 1, []), (.iinc 4 1, 3, []), (.goto (-28), 3, [])] 34 _ _ h (by decide +kernel)).trans rfl
set_option maxHeartbeats 4000000 in
theorem bk_82_41 (x0 : Nat) (x1 : Int) (x2 : Int) (x3 : Int) (x4 : Int) (h : am_H) : am_run am_ms 82 41 [am_R x0, am_I x1, am_I x2, am_I x3, am_I x4] [] h = (bif decide (¬ x2 = (-1)) then am_run am_ms 82 50 [am_R x0, am_I x1, am_I x2, am_I x3, am_I x4] [] h else am_run am_ms 82 58 [am_R x0, am_I x1, am_I x2, am_I x3, am_I x4] [am_I 0] h) :=
  (am_xs_run am_ms 82 [(.iload_n 2, 1, []), (.iconst (-1), 1, []), (.if_icmp .ne 7, 3, []), (.iconst 0, 1, []), (.goto 11, 3, [])] 41 _ _ h (by decide +kernel)).trans rfl
set_option maxHeartbeats 4000000 in
theorem bk_82_50 (x0 : Nat) (x1 : Int) (x2 : Int) (x3 : Int) (x4 : Int) (h : am_H) : am_run am_ms 82 50 [am_R x0, am_I x1, am_I x2, am_I x3, am_I x4] [] h = ((am_gfR h x0 1 1).bind fun f1 => ((am_rd h f1 0 4).bind fun v2 => am_run am_ms 82 58 [am_R x0, am_I x1, am_I x2, am_I x3, am_I x4] [am_I (am_w (v2 - x2))] h)) :=
  (am_xs_run am_ms 82 [(.aload_n 0, 1, []), (.getfield 15, 3, [1, 1, 1150, 3]), (.iconst 4, 1, []), (.iaload, 1, []), (.iload_n 2, 1, []), (.isub, 1, [])] 50 _ _ h (by decide +kernel)).trans rfl
set_option maxHeartbeats 4000000 in
theorem bk_82_58 (x0 : Nat) (x1 : Int) (x2 : Int) (x3 : Int) (x4 : Int) (y0 : Int) (h : am_H) : am_run am_ms 82 58 [am_R x0, am_I x1, am_I x2, am_I x3, am_I x4] [am_I y0] h = some (some (am_I y0), h) :=
  (am_xs_run am_ms 82 [(.ireturn, 1, [0])] 58 _ _ h (by decide +kernel)).trans rfl
