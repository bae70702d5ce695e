/-! ===== THE ABSTRACT MACHINE: bytecode run over whole numbers, a heap of own cells. Values: an int, a long, a reference to an own cell, a constant (0 null, 1 nothing, 2 the script, 3 and on: static arrays, texts) ===== -/
abbrev am_V : Type := Int ⊕ Int ⊕ Nat ⊕ Nat
abbrev am_I (i : Int) : am_V := Sum.inl i
abbrev am_L (i : Int) : am_V := Sum.inr (Sum.inl i)
abbrev am_R (a : Nat) : am_V := Sum.inr (Sum.inr (Sum.inl a))
abbrev am_K (k : Nat) : am_V := Sum.inr (Sum.inr (Sum.inr k))
/-- a cell: an object (its class, its fields), an array of numbers (its kind, length, contents), an array of references, nothing -/
abbrev am_C : Type := (Nat × List am_V) ⊕ (Nat × Nat × (Nat → Int)) ⊕ (Nat × Nat × (Nat → Option Nat)) ⊕ Unit
abbrev am_ob (ci : Nat) (fs : List am_V) : am_C := Sum.inl (ci, fs)
abbrev am_ar (ty n : Nat) (f : Nat → Int) : am_C := Sum.inr (Sum.inl (ty, n, f))
abbrev am_ra (ty n : Nat) (f : Nat → Option Nat) : am_C := Sum.inr (Sum.inr (Sum.inl (ty, n, f)))
abbrev am_no : am_C := Sum.inr (Sum.inr (Sum.inr ()))
/-- the heap: its cells, how many, how many slots were made, the script -/
abbrev am_H : Type := (Nat → am_C) × Nat × Nat × Nat × (Nat → Int)
def am_set (h : am_H) (a : Nat) (c : am_C) : am_H := (va_up h.1 a c, h.2)
def am_push (h : am_H) (c : am_C) (k : Nat) : am_H := (va_up h.1 h.2.1 c, h.2.1 + 1, h.2.2.1 + k, h.2.2.2)
/-! numbers -/
def am_w (x : Int) : Int := Int.bmod x 4294967296
def am_q (x : Int) : Int := Int.bmod x 18446744073709551616
def am_and (a b : Int) : Int := (Int32.ofInt a &&& Int32.ofInt b).toInt
def am_or (a b : Int) : Int := (Int32.ofInt a ||| Int32.ofInt b).toInt
def am_shl (a b : Int) : Int := (Int32.ofInt a <<< (Int32.ofInt b &&& 31)).toInt
def am_shr (a b : Int) : Int := (Int32.ofInt a >>> (Int32.ofInt b &&& 31)).toInt
def am_ushr (a b : Int) : Int := ((Int32.ofInt a).toUInt32 >>> ((Int32.ofInt b).toUInt32 &&& Int32.toUInt32 31)).toInt32.toInt
def am_div (a b : Int) : Int := (Int32.ofInt a / Int32.ofInt b).toInt
def am_rem (a b : Int) : Int := (Int32.ofInt a - Int32.ofInt a / Int32.ofInt b * Int32.ofInt b).toInt
def am_i2b (a : Int) : Int := ((Int32.ofInt a).toInt8.toInt32).toInt
def am_i2c (a : Int) : Int := (((Int32.ofInt a).toUInt32 % 65536).toInt32).toInt
def am_land (a b : Int) : Int := (Int64.ofInt a &&& Int64.ofInt b).toInt
def am_lor (a b : Int) : Int := (Int64.ofInt a ||| Int64.ofInt b).toInt
def am_lshl (a b : Int) : Int := (Int64.ofInt a <<< ((Int32.ofInt b).toInt64 &&& 63)).toInt
def am_lushr (a b : Int) : Int := ((Int64.ofInt a).toUInt64 >>> ((Int32.ofInt b).toInt64.toUInt64 &&& Int64.toUInt64 63)).toInt64.toInt
def am_ldiv (a b : Int) : Int := (Int64.ofInt a / Int64.ofInt b).toInt
def am_lrem (a b : Int) : Int := (Int64.ofInt a - Int64.ofInt a / Int64.ofInt b * Int64.ofInt b).toInt
def am_lcmp (a b : Int) : Int := if a > b then 1 else if a = b then 0 else -1
def am_max (a b : Int) : Int := if a < b then b else a
def am_min (a b : Int) : Int := if b < a then b else a
def am_cat : am_V → Nat
  | .inr (.inl _) => 2
  | _ => 1
/-! constants: static arrays (3 and on), texts (16 and on), their bytes (32 and on) -/
def am_kar : Nat → Nat × List Int
  | 3 => (0, [4, 8, 2, 3, 1, 1, 0])
  | 4 => (0, [3, 2, 1, 1, 1, 1, 0])
  | 5 => (0, [8, 16, 8, 8, 3, 2, 3])
  | 6 => (0, [0, 0])
  | 7 => (0, [31, 999])
  | 32 => (1, [122, 99, 111, 97, 109, 114, 112])
  | 33 => (1, [107, 118])
  | 34 => (1, [112, 100, 99, 120, 111, 108, 102, 114, 121])
  | 35 => (1, [122, 99, 111, 97, 109, 114, 112])
  | 36 => (1, [107, 118])
  | 37 => (1, [112, 100, 99, 120, 111, 108, 102, 114, 121])
  | _ => (9, [])
/-- a text: its fields are its bytes (0), its coder (1) -/
def am_istx (q : Nat) : Bool := Nat.ble 16 q && Nat.ble q 21
/-! the heap's reads and writes -/
def am_gfI (h : am_H) (a ci k : Nat) : Option Int := match h.1 a with
  | .inl (c, fs) => if c = ci then (match fs[k]? with
    | some (.inl x) => some x
    | _ => none) else none
  | _ => none
def am_gfL (h : am_H) (a ci k : Nat) : Option Int := match h.1 a with
  | .inl (c, fs) => if c = ci then (match fs[k]? with
    | some (.inr (.inl x)) => some x
    | _ => none) else none
  | _ => none
def am_gfR (h : am_H) (a ci k : Nat) : Option Nat := match h.1 a with
  | .inl (c, fs) => if c = ci then (match fs[k]? with
    | some (.inr (.inr (.inl x))) => some x
    | _ => none) else none
  | _ => none
def am_pf (h : am_H) (a ci k : Nat) (v : am_V) : Option am_H := match h.1 a with
  | .inl (c, fs) => if c = ci then some (am_set h a (am_ob c (fs.set k v))) else none
  | _ => none
def am_rd (h : am_H) (a ty : Nat) (j : Int) : Option Int := match h.1 a with
  | .inr (.inl (t, n, f)) => if t = ty ∧ 0 ≤ j ∧ j < n then some (f j.toNat) else none
  | _ => none
def am_wr (h : am_H) (a ty : Nat) (j x : Int) : Option am_H := match h.1 a with
  | .inr (.inl (t, n, f)) => if t = ty ∧ 0 ≤ j ∧ j < n then some (am_set h a (am_ar t n (va_up f j.toNat x))) else none
  | _ => none
/-- a constant array: the script is one of ints -/
def am_rk (h : am_H) (q ty : Nat) (j : Int) : Option Int := if q = 2 then (if ty = 0 ∧ 0 ≤ j ∧ j < h.2.2.2.1 then some (h.2.2.2.2 j.toNat) else none) else if (am_kar q).1 = ty ∧ 0 ≤ j then (am_kar q).2[j.toNat]? else none
def am_rr (h : am_H) (a : Nat) (j : Int) : Option (Option Nat) := match h.1 a with
  | .inr (.inr (.inl (_, n, f))) => if 0 ≤ j ∧ j < n then some (f j.toNat) else none
  | _ => none
/-- the class of what an array of references holds: kind 3 texts of steps, kind 4 drives -/
def am_ofc (ty : Nat) : Nat := if ty = 3 then 5 else 1
def am_wrr (h : am_H) (a : Nat) (j : Int) (b : Nat) : Option am_H := match h.1 a with
  | .inr (.inr (.inl (t, n, f))) => (match h.1 b with
    | .inl (c, _) => if c = am_ofc t ∧ 0 ≤ j ∧ j < n then some (am_set h a (am_ra t n (va_up f j.toNat (some b)))) else none
    | _ => none)
  | _ => none
def am_len (h : am_H) (a : Nat) : Option Int := match h.1 a with
  | .inr (.inl (_, n, _)) => if n < 1000000 then some (n : Int) else none
  | .inr (.inr (.inl (_, n, _))) => if n < 1000000 then some (n : Int) else none
  | _ => none
def am_lenk (h : am_H) (q : Nat) : Option Int := if q = 2 then some (h.2.2.2.1 : Int) else if (am_kar q).1 = 9 then none else some ((am_kar q).2.length : Int)
/-- an object of a class -/
def am_isc (h : am_H) (a ci : Nat) : Option Unit := match h.1 a with
  | .inl (c, _) => if c = ci then some () else none
  | _ => none
/-- a copy of ints from one array (own, or constant) to an own one -/
def am_cp (h : am_H) (f : Nat → Int) (n : Nat) (sp : Int) (d : Nat) (dp k : Int) : Option am_H := match h.1 d with
  | .inr (.inl (t, m, g)) => if t = 0 ∧ 0 ≤ sp ∧ 0 ≤ dp ∧ 0 ≤ k ∧ sp + k ≤ n ∧ dp + k ≤ m then some (am_set h d (am_ar t m (va_cpy f g sp.toNat dp.toNat k.toNat))) else none
  | _ => none
def am_cpy (h : am_H) (s : am_V) (sp : Int) (d : Nat) (dp k : Int) : Option am_H := match s with
  | .inr (.inr (.inl a)) => (match h.1 a with
    | .inr (.inl (t, n, f)) => if t = 0 then am_cp h f n sp d dp k else none
    | _ => none)
  | .inr (.inr (.inr q)) => if (am_kar q).1 = 0 then am_cp h (fun j => (am_kar q).2.getD j 0) (am_kar q).2.length sp d dp k else none
  | _ => none
/-! the locals -/
def am_okst (ls : List am_V) (k : Nat) : Bool := Nat.blt k ls.length && (match k with
  | 0 => true
  | j + 1 => (match ls[j]? with
    | some (.inr (.inl _)) => false
    | _ => true))
def am_lay : List am_V → List am_V
  | [] => []
  | .inr (.inl x) :: vs => am_L x :: am_K 1 :: am_lay vs
  | v :: vs => v :: am_lay vs
def am_pad (n : Nat) (vs : List am_V) : List am_V := am_lay vs ++ List.replicate (n - (am_lay vs).length) (am_K 1)
def am_tsw (pc : Nat) (dflt lo hi : Int) (offs : Array Int) (x : Int) : Nat := if x < lo ∨ hi < x then ((pc : Int) + dflt).toNat else ((pc : Int) + offs.getD (x - lo).toNat 0).toNat
def am_lsw (pc : Nat) (dflt : Int) (ps : Array (Int × Int)) (x : Int) : Nat := ((pc : Int) + Op.lookupswitch.offset ps.toList dflt x).toNat
def am_ty : ArrayType → Nat
  | .int => 0
  | .byte => 1
  | .long => 2
  | _ => 9
def am_tgt (pc : Nat) (off : Int) : Nat := ((pc : Int) + off).toNat
/-! one instruction: what goes on, what is returned, what branches, what is called, are the caller's to say -/
def am_n (hn : List Int) (i : Nat) : Nat := (hn.getD i 0).toNat
def am_fit (tk : Nat) (v : am_V) : Bool := match v with
  | .inl x => match tk with
    | 0 => true
    | 1 => decide (x = 0) || decide (x = 1)
    | _ => false
  | .inr (.inl _) => Nat.beq tk 2
  | .inr (.inr (.inl _)) => Nat.beq tk 3
  | .inr (.inr (.inr k)) => Nat.beq tk 3 && !(Nat.beq k 1)
def am_rok (tk : Nat) (x : Int) : Bool := match tk with
  | 1 => decide (x = 0) || decide (x = 1)
  | 2 => decide (0 ≤ x) && decide (x < 65536)
  | 3 => decide (-128 ≤ x) && decide (x < 128)
  | _ => true
def am_dfl : Nat → List am_V
  | 0 => [am_L 0]
  | 1 => [am_K 0, am_K 0, am_K 0, am_K 0, am_K 0, am_K 0, am_K 0, am_K 0, am_K 0, am_K 0, am_K 0, am_K 0, am_K 0, am_K 0]
  | 2 => [am_K 0, am_I 0, am_I 0]
  | 3 => [am_K 0, am_K 0, am_K 0, am_I 0, am_I 0]
  | 4 => [am_K 0, am_K 0, am_K 0, am_I 0, am_K 0, am_K 0, am_K 0, am_I 0, am_I 0, am_I 0]
  | 5 => [am_K 0, am_K 0, am_K 0, am_I 0]
  | 6 => [am_K 0, am_I 0]
  | 7 => [am_K 0, am_K 0, am_K 0, am_I 0, am_I 0, am_I 0, am_I 0, am_I 0]
  | 8 => [am_K 0, am_K 0, am_K 0, am_I 0, am_K 0, am_K 0, am_K 0, am_I 0, am_K 0, am_K 0, am_K 0, am_K 0]
  | _ => [am_I 0, am_K 0, am_I 0, am_I 0, am_I 0, am_K 0, am_K 0, am_K 0, am_K 0, am_K 0, am_K 0, am_I 0, am_I 0, am_I 0, am_I 0, am_K 0, am_K 0, am_K 0, am_K 0, am_K 0, am_I 0, am_I 0, am_I 0, am_I 0, am_I 0, am_I 0, am_K 0, am_I 0, am_I 0, am_L 0, am_K 0]
/-- whether the class's zone answers (no throw): it looks at the rules of the drive as it is now -/
def am_zk (h : am_H) (x : Nat) (z w : Int) : Option Bool := (am_gfR h x 8 4).bind fun d => (am_gfR h d 1 0).bind fun a => (am_rd h a 0 0).bind fun n => some (decide (0 ≤ z ∧ z < n ∧ 0 ≤ w ∧ w ≤ 7))
section AMX
variable {ρ : Type} (K : Nat → List am_V → List am_V → am_H → Option ρ) (Rt : Option am_V → am_H → Option ρ) (Bf : Bool → Nat → Nat → List am_V → List am_V → am_H → Option ρ) (Cl : Nat → Nat → List am_V → Nat → List am_V → List am_V → am_H → Option ρ)
def am_ldI (q k : Nat) (ls st : List am_V) (h : am_H) : Option ρ := match ls[k]? with
  | some (.inl x) => K q ls (am_I x :: st) h
  | _ => none
def am_ldL (q k : Nat) (ls st : List am_V) (h : am_H) : Option ρ := match ls[k]? with
  | some (.inr (.inl x)) => K q ls (am_L x :: st) h
  | _ => none
def am_ldA (q k : Nat) (ls st : List am_V) (h : am_H) : Option ρ := match ls[k]? with
  | some (.inr (.inr (.inl x))) => K q ls (am_R x :: st) h
  | some (.inr (.inr (.inr x))) => bif Nat.beq x 1 then none else K q ls (am_K x :: st) h
  | _ => none
def am_stI (q k : Nat) (ls st : List am_V) (h : am_H) : Option ρ := match st with
  | .inl x :: st => bif am_okst ls k then K q (ls.set k (am_I x)) st h else none
  | _ => none
def am_stA (q k : Nat) (ls st : List am_V) (h : am_H) : Option ρ := match st with
  | .inr (.inr (.inl x)) :: st => bif am_okst ls k then K q (ls.set k (am_R x)) st h else none
  | .inr (.inr (.inr x)) :: st => bif am_okst ls k && !(Nat.beq x 1) && !(Nat.beq x 0) then K q (ls.set k (am_K x)) st h else none
  | _ => none
def am_b2 (f : Int → Int → Int) (q : Nat) (ls st : List am_V) (h : am_H) : Option ρ := match st with
  | .inl y :: .inl x :: st => K q ls (am_I (f x y) :: st) h
  | _ => none
def am_d2 (f : Int → Int → Int) (q : Nat) (ls st : List am_V) (h : am_H) : Option ρ := match st with
  | .inl y :: .inl x :: st => if y = 0 then none else K q ls (am_I (f x y) :: st) h
  | _ => none
def am_l2 (f : Int → Int → Int) (q : Nat) (ls st : List am_V) (h : am_H) : Option ρ := match st with
  | .inr (.inl y) :: .inr (.inl x) :: st => K q ls (am_L (f x y) :: st) h
  | _ => none
def am_e2 (f : Int → Int → Int) (q : Nat) (ls st : List am_V) (h : am_H) : Option ρ := match st with
  | .inr (.inl y) :: .inr (.inl x) :: st => if y = 0 then none else K q ls (am_L (f x y) :: st) h
  | _ => none
def am_s2 (f : Int → Int → Int) (q : Nat) (ls st : List am_V) (h : am_H) : Option ρ := match st with
  | .inl y :: .inr (.inl x) :: st => K q ls (am_L (f x y) :: st) h
  | _ => none
def am_cnd (c : ClassFile.Cond) (x y : Int) : Bool := match c with
  | .eq => decide (x = y)
  | .ne => decide (¬ x = y)
  | .lt => decide (x < y)
  | .ge => decide (y ≤ x)
  | .gt => decide (y < x)
  | .le => decide (x ≤ y)
def am_cl (rk n : Nat) (z pc : Nat) (ls st : List am_V) (h : am_H) : Option ρ := bif Nat.ble n st.length && Nat.ble ((st.drop n).map am_cat).sum 8 then Cl rk z (st.take n).reverse (pc + 3) ls (st.drop n) h else none
def am_iv (hn : List Int) (pc : Nat) (ls st : List am_V) (h : am_H) : Option ρ := match am_n hn 0 with
  | 0 => (match st[am_n hn 2 - 1]? with
    | some (.inr (.inr (.inl a))) => (am_isc h a (am_n hn 3)).bind fun _ => am_cl Cl (am_n hn 4) (am_n hn 2) (am_n hn 1) pc ls st h
    | _ => none)
  | 1 => am_cl Cl (am_n hn 4) (am_n hn 2) (am_n hn 1) pc ls st h
  | 2 => (match st[am_n hn 2 - 1]? with
    | some (.inr (.inr (.inl _))) => am_cl Cl (am_n hn 4) (am_n hn 2) (am_n hn 1) pc ls st h
    | _ => none)
  | 3 => (match st[am_n hn 2 - 1]? with
    | some (.inr (.inr (.inl _))) => am_cl Cl (am_n hn 4) (am_n hn 2) (am_n hn 1) pc ls st h
    | _ => none)
  | 4 => am_cl Cl (am_n hn 4) (am_n hn 2) (am_n hn 1) pc ls st h
  | 5 => (match st[am_n hn 2 - 1]? with
    | some (.inr (.inr (.inr a))) => bif am_istx a then am_cl Cl (am_n hn 4) (am_n hn 2) (am_n hn 1) pc ls st h else none
    | _ => none)
  | 10 => (match st with
    | .inr (.inr (.inl _)) :: st => bif Nat.ble ((st).map am_cat).sum 8 then K (pc + 3) ls st h else none
    | _ => none)
  | 11 => (match st with
    | .inl n :: .inl dp :: .inr (.inr (.inl d)) :: .inl sp :: s :: st => bif Nat.ble ((st).map am_cat).sum 8 then (am_cpy h s sp d dp n).bind fun h' => K (pc + 3) ls st h' else none
    | _ => none)
  | 12 => (match st with
    | .inl y :: .inl x :: st => bif Nat.ble ((st).map am_cat).sum 8 then K (pc + 3) ls (am_I (am_max x y) :: st) h else none
    | _ => none)
  | 13 => (match st with
    | .inl y :: .inl x :: st => bif Nat.ble ((st).map am_cat).sum 8 then K (pc + 3) ls (am_I (am_min x y) :: st) h else none
    | _ => none)
  | 20 => (match st with
    | .inr (.inr (.inl o)) :: .inl w :: .inl z :: .inr (.inr (.inl x)) :: st => bif Nat.ble ((st).map am_cat).sum 8 then (am_zk h x z w).bind fun b => bif b then Cl 2 (am_n hn 1) [am_R x, am_I z, am_I w, am_R o] (pc + 3) ls st h else K (pc + 3) ls (am_I 1 :: st) (am_push h am_no 6) else none
    | _ => none)
  | _ => none
def am_ex (i : Instr) (len : Nat) (hn : List Int) (pc : Nat) (ls st : List am_V) (h : am_H) : Option ρ := match i with
  | .iconst n => K (pc + len) ls (am_I n :: st) h
  | .bipush n => K (pc + len) ls (am_I n :: st) h
  | .sipush n => K (pc + len) ls (am_I n :: st) h
  | .lconst n => K (pc + len) ls (am_L (n : Nat) :: st) h
  | .ldc _ => (match am_n hn 0 with
    | 0 => K (pc + len) ls (am_I (hn.getD 1 0) :: st) h
    | 1 => K (pc + len) ls (am_K (am_n hn 1) :: st) h
    | _ => none)
  | .ldc_w _ => K (pc + len) ls (am_I (hn.getD 1 0) :: st) h
  | .ldc2_w _ => K (pc + len) ls (am_L (hn.getD 1 0) :: st) h
  | .iload k => am_ldI K (pc + len) k ls st h
  | .iload_n k => am_ldI K (pc + len) k ls st h
  | .lload k => am_ldL K (pc + len) k ls st h
  | .lload_n k => am_ldL K (pc + len) k ls st h
  | .aload k => am_ldA K (pc + len) k ls st h
  | .aload_n k => am_ldA K (pc + len) k ls st h
  | .istore k => am_stI K (pc + len) k ls st h
  | .istore_n k => am_stI K (pc + len) k ls st h
  | .astore k => am_stA K (pc + len) k ls st h
  | .astore_n k => am_stA K (pc + len) k ls st h
  | .iinc k n => (match ls[k]? with
    | some (.inl x) => bif am_okst ls k then K (pc + len) (ls.set k (am_I (am_w (x + n)))) st h else none
    | _ => none)
  | .iadd => am_b2 K (fun x y => am_w (x + y)) (pc + len) ls st h
  | .isub => am_b2 K (fun x y => am_w (x - y)) (pc + len) ls st h
  | .imul => am_b2 K (fun x y => am_w (x * y)) (pc + len) ls st h
  | .iand => am_b2 K am_and (pc + len) ls st h
  | .ior => am_b2 K am_or (pc + len) ls st h
  | .ishl => am_b2 K am_shl (pc + len) ls st h
  | .ishr => am_b2 K am_shr (pc + len) ls st h
  | .iushr => am_b2 K am_ushr (pc + len) ls st h
  | .idiv => am_d2 K am_div (pc + len) ls st h
  | .irem => am_d2 K am_rem (pc + len) ls st h
  | .ladd => am_l2 K (fun x y => am_q (x + y)) (pc + len) ls st h
  | .lmul => am_l2 K (fun x y => am_q (x * y)) (pc + len) ls st h
  | .land => am_l2 K am_land (pc + len) ls st h
  | .lor => am_l2 K am_lor (pc + len) ls st h
  | .ldiv => am_e2 K am_ldiv (pc + len) ls st h
  | .lrem => am_e2 K am_lrem (pc + len) ls st h
  | .lshl => am_s2 K am_lshl (pc + len) ls st h
  | .lushr => am_s2 K am_lushr (pc + len) ls st h
  | .lcmp => (match st with
    | .inr (.inl y) :: .inr (.inl x) :: st => K (pc + len) ls (am_I (am_lcmp x y) :: st) h
    | _ => none)
  | .i2l => (match st with
    | .inl x :: st => K (pc + len) ls (am_L x :: st) h
    | _ => none)
  | .l2i => (match st with
    | .inr (.inl x) :: st => K (pc + len) ls (am_I (am_w x) :: st) h
    | _ => none)
  | .i2b => (match st with
    | .inl x :: st => K (pc + len) ls (am_I (am_i2b x) :: st) h
    | _ => none)
  | .i2c => (match st with
    | .inl x :: st => K (pc + len) ls (am_I (am_i2c x) :: st) h
    | _ => none)
  | .dup => (match st with
    | v :: st => bif Nat.beq (am_cat v) 1 then K (pc + len) ls (v :: v :: st) h else none
    | _ => none)
  | .pop => (match st with
    | v :: st => bif Nat.beq (am_cat v) 1 then K (pc + len) ls st h else none
    | _ => none)
  | .dup2 => (match st with
    | v :: w :: st => bif Nat.beq (am_cat v) 1 && Nat.beq (am_cat w) 1 then K (pc + len) ls (v :: w :: v :: w :: st) h else none
    | _ => none)
  | .if_icmp c off => (match st with
    | .inl y :: .inl x :: st => Bf (am_cnd c x y) (am_tgt pc off) (pc + len) ls st h
    | _ => none)
  | .ifCond c off => (match st with
    | .inl x :: st => Bf (am_cnd c x 0) (am_tgt pc off) (pc + len) ls st h
    | _ => none)
  | .goto off => K (am_tgt pc off) ls st h
  | .ifnull off => (match st with
    | .inr (.inr (.inl _)) :: st => K (pc + len) ls st h
    | .inr (.inr (.inr k)) :: st => bif Nat.beq k 0 then K (am_tgt pc off) ls st h else none
    | _ => none)
  | .ifnonnull off => (match st with
    | .inr (.inr (.inl _)) :: st => K (am_tgt pc off) ls st h
    | .inr (.inr (.inr k)) :: st => bif Nat.beq k 0 then K (pc + len) ls st h else none
    | _ => none)
  | .tableswitch dflt lo hi offs => (match st with
    | .inl x :: st => K (am_tsw pc dflt lo hi offs x) ls st h
    | _ => none)
  | .lookupswitch dflt ps => (match st with
    | .inl x :: st => K (am_lsw pc dflt ps x) ls st h
    | _ => none)
  | .getfield _ => (match st with
    | .inr (.inr (.inl a)) :: st => (match am_n hn 3 with
      | 2 => (am_gfL h a (am_n hn 0) (am_n hn 1)).bind fun x => K (pc + len) ls (am_L x :: st) h
      | 3 => (am_gfR h a (am_n hn 0) (am_n hn 1)).bind fun x => K (pc + len) ls (am_R x :: st) h
      | _ => (am_gfI h a (am_n hn 0) (am_n hn 1)).bind fun x => K (pc + len) ls (am_I x :: st) h)
    | .inr (.inr (.inr q)) :: st => bif Nat.beq (am_n hn 0) 99 && am_istx q then (match am_n hn 1 with
      | 0 => K (pc + len) ls (am_K (q + 16) :: st) h
      | 1 => K (pc + len) ls (am_I 0 :: st) h
      | _ => none) else none
    | _ => none)
  | .putfield _ => (match st with
    | v :: .inr (.inr (.inl a)) :: st => bif am_fit (am_n hn 3) v then (am_pf h a (am_n hn 0) (am_n hn 1) v).bind fun h' => K (pc + len) ls st h' else none
    | _ => none)
  | .getstatic _ => (match am_n hn 0 with
    | 0 => K (pc + len) ls (am_K (am_n hn 1) :: st) h
    | 1 => K (pc + len) ls (am_I (hn.getD 1 0) :: st) h
    | _ => none)
  | .new _ => K (pc + len) ls (am_R h.2.1 :: st) (am_push h (am_ob (am_n hn 0) (am_dfl (am_n hn 0))) (am_n hn 1))
  | .newarray t => (match st with
    | .inl n :: st => if 0 ≤ n ∧ n ≤ 100000 then K (pc + len) ls (am_R h.2.1 :: st) (am_push h (am_ar (am_ty t) n.toNat (fun _ => 0)) n.toNat) else none
    | _ => none)
  | .anewarray _ => (match st with
    | .inl n :: st => if 0 ≤ n ∧ n ≤ 100000 then K (pc + len) ls (am_R h.2.1 :: st) (am_push h (am_ra (am_n hn 0) n.toNat (fun _ => none)) n.toNat) else none
    | _ => none)
  | .iaload => (match st with
    | .inl j :: .inr (.inr (.inl a)) :: st => (am_rd h a 0 j).bind fun x => K (pc + len) ls (am_I x :: st) h
    | .inl j :: .inr (.inr (.inr q)) :: st => (am_rk h q 0 j).bind fun x => K (pc + len) ls (am_I x :: st) h
    | _ => none)
  | .baload => (match st with
    | .inl j :: .inr (.inr (.inl a)) :: st => (am_rd h a 1 j).bind fun x => K (pc + len) ls (am_I x :: st) h
    | .inl j :: .inr (.inr (.inr q)) :: st => (am_rk h q 1 j).bind fun x => K (pc + len) ls (am_I x :: st) h
    | _ => none)
  | .laload => (match st with
    | .inl j :: .inr (.inr (.inl a)) :: st => (am_rd h a 2 j).bind fun x => K (pc + len) ls (am_L x :: st) h
    | _ => none)
  | .iastore => (match st with
    | .inl x :: .inl j :: .inr (.inr (.inl a)) :: st => (am_wr h a 0 j x).bind fun h' => K (pc + len) ls st h'
    | _ => none)
  | .bastore => (match st with
    | .inl x :: .inl j :: .inr (.inr (.inl a)) :: st => (am_wr h a 1 j (am_i2b x)).bind fun h' => K (pc + len) ls st h'
    | _ => none)
  | .lastore => (match st with
    | .inr (.inl x) :: .inl j :: .inr (.inr (.inl a)) :: st => (am_wr h a 2 j x).bind fun h' => K (pc + len) ls st h'
    | _ => none)
  | .aaload => (match st with
    | .inl j :: .inr (.inr (.inl a)) :: st => (am_rr h a j).bind fun r => match r with
      | none => K (pc + len) ls (am_K 0 :: st) h
      | some x => K (pc + len) ls (am_R x :: st) h
    | _ => none)
  | .aastore => (match st with
    | .inr (.inr (.inl b)) :: .inl j :: .inr (.inr (.inl a)) :: st => (am_wrr h a j b).bind fun h' => K (pc + len) ls st h'
    | _ => none)
  | .arraylength => (match st with
    | .inr (.inr (.inl a)) :: st => (am_len h a).bind fun x => K (pc + len) ls (am_I x :: st) h
    | .inr (.inr (.inr q)) :: st => (am_lenk h q).bind fun x => K (pc + len) ls (am_I x :: st) h
    | _ => none)
  | .invokevirtual _ => am_iv K Cl hn pc ls st h
  | .invokestatic _ => am_iv K Cl hn pc ls st h
  | .invokespecial _ => am_iv K Cl hn pc ls st h
  | .ireturn => (match st with
    | [.inl x] => bif am_rok (am_n hn 0) x then Rt (some (am_I x)) h else none
    | _ => none)
  | .return_ => (match st with
    | [] => Rt none h
    | _ => none)
  | _ => none
end AMX
