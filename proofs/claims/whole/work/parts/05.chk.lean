/-! ===== THE CHECK of the tables against code bytes and words ===== -/
def am_tb (j : Nat) : List Jvm.Cond := match j with
  | 0 => k2_sels lw_privs
  | 1 => tables_1_1
  | 2 => tables_1_2
  | 3 => tables_1_3
  | 4 => tables_1_4
  | 5 => tables_1_5
  | 6 => tables_1_6
  | 7 => tables_1_7
  | _ => tables_1_8
theorem am_tb_mem (j : Nat) (w : Jvm.Cond) (h : w ∈ am_tb j) : w ∈ lw_tbl := by
  have e : lw_tbl = k2_sels lw_privs ++ (tables_1_1 ++ (tables_1_2 ++ (tables_1_3 ++ (tables_1_4 ++ (tables_1_5 ++ (tables_1_6 ++ (tables_1_7 ++ tables_1_8))))))) := rfl
  rw [e]
  simp only [List.mem_append]
  match j, h with
  | 0, h => exact Or.inl h
  | 1, h => exact Or.inr (Or.inl h)
  | 2, h => exact Or.inr (Or.inr (Or.inl h))
  | 3, h => exact Or.inr (Or.inr (Or.inr (Or.inl h)))
  | 4, h => exact Or.inr (Or.inr (Or.inr (Or.inr (Or.inl h))))
  | 5, h => exact Or.inr (Or.inr (Or.inr (Or.inr (Or.inr (Or.inl h)))))
  | 6, h => exact Or.inr (Or.inr (Or.inr (Or.inr (Or.inr (Or.inr (Or.inl h))))))
  | 7, h => exact Or.inr (Or.inr (Or.inr (Or.inr (Or.inr (Or.inr (Or.inr (Or.inl h)))))))
  | (n + 8), h => exact Or.inr (Or.inr (Or.inr (Or.inr (Or.inr (Or.inr (Or.inr (Or.inr h)))))))
def am_W (q : Int) (w : Jvm.Cond) : Prop := (am_tb (q.toNat / 1000))[q.toNat % 1000]? = some w
theorem am_W_mem {q : Int} {w : Jvm.Cond} (h : am_W q w) : w ∈ lw_tbl := am_tb_mem _ _ (List.mem_of_getElem? h)
def am_z (hn : List Int) (i : Nat) : Int := hn.getD i 0
def am_tkf : FieldType → Nat
  | .int => 0
  | .boolean => 1
  | .long => 2
  | _ => 3
/-- the name of a static array, of a text -/
def am_sn (q : Nat) : String × String × String := match q with
  | 3 => ("ZoneLedger$Reader", "RULE_WITHOUT", "[I")
  | 4 => ("ZoneLedger$Reader", "RULE_LEAST", "[I")
  | 5 => ("ZoneLedger$Reader", "RULE_MOST", "[I")
  | 6 => ("ZoneLedger$Reader", "WRITE_LEAST", "[I")
  | 7 => ("ZoneLedger$Reader", "WRITE_MOST", "[I")
  | _ => ("jdk/internal/util/Preconditions", "SIOOBE_FORMATTER", "Ljava/util/function/BiFunction;")
def am_tn (q : Nat) : String × Nat := match q with
  | 16 => ("ZoneLedger$Reader", 73)
  | 17 => ("ZoneLedger$Reader", 85)
  | 18 => ("ZoneLedger$Reader", 111)
  | 19 => ("ZoneLedgerModel", 100)
  | 20 => ("ZoneLedgerModel", 102)
  | _ => ("ZoneLedgerModel", 139)
def am_sf (k : Nat) : String × String := match k with
  | 0 => ("value", "[B")
  | _ => ("coder", "B")
def am_cl0 (c : Nat) : String := (am_cls.getD c ("", am_T0, 0)).1
def am_clT (c : Nat) : u_T := (am_cls.getD c ("", am_T0, 0)).2.1
def am_clN (c : Nat) : Nat := (am_cls.getD c ("", am_T0, 0)).2.2
/-- what a call needs of the method called -/
def am_ckm (m z : am_M) (rk : Nat) : Bool := Nat.ble (z.2.2.2.2.1 + 1) m.2.2.2.2.1 && Nat.ble (8 + (z.2.2.1 + 11) + z.2.2.2.2.2.1) m.2.2.2.2.2.1 && (match z.2.2.2.1 with
  | none => Nat.beq rk 0
  | some _ => Nat.beq rk 1)
/-- no method -/
def am_m0' : am_M := (⟨"", "", ""⟩, ⟨#[]⟩, 0, none, 0, 0, [], [])
def am_lnk (ms : List am_M) (m : am_M) (i : Instr) (len : Nat) (hn : List Int) : Prop := match i with
  | .iconst n => len = 1 ∧ decide (-1 ≤ n) = true ∧ decide (n ≤ 5) = true
  | .bipush n => len = 2 ∧ decide (-128 ≤ n) = true ∧ decide (n ≤ 127) = true
  | .sipush n => len = 3 ∧ decide (-32768 ≤ n) = true ∧ decide (n ≤ 32767) = true
  | .iload _ => len = 2
  | .lload _ => len = 2
  | .aload _ => len = 2
  | .istore _ => len = 2
  | .astore _ => len = 2
  | .iinc _ n => len = 3 ∧ decide (-128 ≤ n) = true ∧ decide (n ≤ 127) = true
  | .newarray t => len = 2 ∧ am_W (am_z hn 0) (.arrayClass (newarray.typeOf t)) ∧ Nat.blt (am_ty t) 9 = true
  | .ldc idx => len = 2 ∧ (match am_n hn 0 with
    | 0 => am_W (am_z hn 2) (.constant m.1.cls idx (Int32.ofInt (am_z hn 1))) ∧ decide ((Int32.ofInt (am_z hn 1)).toInt = am_z hn 1) = true
    | 1 => am_tn (am_n hn 1) = (m.1.cls, idx) ∧ am_istx (am_n hn 1) = true
    | _ => False)
  | .ldc_w idx => len = 3 ∧ am_W (am_z hn 2) (.constant m.1.cls idx (Int32.ofInt (am_z hn 1))) ∧ decide ((Int32.ofInt (am_z hn 1)).toInt = am_z hn 1) = true
  | .ldc2_w idx => len = 3 ∧ am_W (am_z hn 2) (.constantLong m.1.cls idx (Int64.ofInt (am_z hn 1))) ∧ decide ((Int64.ofInt (am_z hn 1)).toInt = am_z hn 1) = true
  | .getfield idx => len = 3 ∧ (match am_n hn 0 with
    | 99 => Nat.ble (am_n hn 1) 1 = true ∧ am_W (am_z hn 2) (.fieldLink m.1.cls idx "java/lang/String" (am_sf (am_n hn 1)).1 (am_sf (am_n hn 1)).2)
    | c => Nat.blt (am_n hn 1) (am_clN c) = true ∧ am_W (am_z hn 2) (.fieldLink m.1.cls idx (am_cl0 c) (am_clT c (am_n hn 1)).2.1 (am_clT c (am_n hn 1)).2.2.1) ∧ (am_clT c (am_n hn 1)).1 = am_cl0 c ∧ am_tkf (am_ft c (am_n hn 1)) = am_n hn 3)
  | .putfield idx => len = 3 ∧ Nat.blt (am_n hn 1) (am_clN (am_n hn 0)) = true ∧ am_W (am_z hn 2) (.fieldLink m.1.cls idx (am_cl0 (am_n hn 0)) (am_clT (am_n hn 0) (am_n hn 1)).2.1 (am_clT (am_n hn 0) (am_n hn 1)).2.2.1) ∧ (am_clT (am_n hn 0) (am_n hn 1)).1 = am_cl0 (am_n hn 0) ∧ am_tkf (am_ft (am_n hn 0) (am_n hn 1)) = am_n hn 3 ∧
    ((am_clT (am_n hn 0) (am_n hn 1)).2.2.2 = false ∨ (am_cl0 (am_n hn 0) = m.1.cls ∧ m.1.name = "<init>"))
  | .getstatic idx => len = 3 ∧ (match am_n hn 0 with
    | 0 => am_W (am_z hn 2) (.fieldLink m.1.cls idx (am_sn (am_n hn 1)).1 (am_sn (am_n hn 1)).2.1 (am_sn (am_n hn 1)).2.2) ∧ (Nat.beq (am_n hn 1) 40 || (Nat.ble 3 (am_n hn 1) && Nat.ble (am_n hn 1) 7)) = true
    | 1 => am_W (am_z hn 2) (.fieldLink m.1.cls idx "java/lang/String" "COMPACT_STRINGS" "Z") ∧ am_z hn 1 = 1
    | _ => False)
  | .new idx => len = 3 ∧ Nat.blt (am_n hn 0) 10 = true ∧ am_n hn 1 = am_clN (am_n hn 0) ∧ am_W (am_z hn 2) (.classLink m.1.cls idx (am_cl0 (am_n hn 0))) ∧ am_W (am_z hn 3) (.instantiable (am_cl0 (am_n hn 0)) (am_clN (am_n hn 0))) ∧ am_W (am_z hn 4) (.initialized (am_cl0 (am_n hn 0)))
  | .anewarray idx => len = 3 ∧ (match am_n hn 0 with
    | 3 => am_W (am_z hn 1) (.classLink m.1.cls idx "ZoneLedger$Script")
    | 4 => am_W (am_z hn 1) (.classLink m.1.cls idx "ZoneLedger$Drive")
    | _ => False)
  | .tableswitch _ lo hi offs => decide (lo ≤ hi) = true ∧ offs.size = (hi - lo + 1).toNat
  | .lookupswitch _ ps => (ps.toList.zip (ps.toList.drop 1)).all (fun (a, next) => decide (a.1 < next.1)) = true
  | .if_icmp _ _ => len = 3
  | .ifCond _ _ => len = 3
  | .goto _ => len = 3
  | .ifnull _ => len = 3
  | .ifnonnull _ => len = 3
  | .invokevirtual idx => len = 3 ∧ am_ckm m (ms.getD (am_n hn 1) am_m0') (am_n hn 4) = true ∧ (parseMethodDescriptor (ms.getD (am_n hn 1) am_m0').1.desc).map (fun d => d.parameters.length) = some (am_n hn 2 - 1) ∧ Nat.blt 0 (am_n hn 2) = true ∧
    am_W (am_z hn 5) (.methodLink m.1.cls idx (ms.getD (am_n hn 1) am_m0').1) ∧ am_W (am_z hn 6) (.instanceMethod (ms.getD (am_n hn 1) am_m0').1) ∧ am_W (am_z hn 7) (.selects (ms.getD (am_n hn 1) am_m0').1.cls (ms.getD (am_n hn 1) am_m0').1 (ms.getD (am_n hn 1) am_m0').1) ∧ (match am_n hn 0 with
      | 0 => (ms.getD (am_n hn 1) am_m0').1.cls = am_cl0 (am_n hn 3)
      | 5 => (ms.getD (am_n hn 1) am_m0').1.cls = "java/lang/String"
      | _ => False)
  | .invokespecial idx => len = 3 ∧ (match am_n hn 0 with
    | 10 => am_W (am_z hn 5) (.methodLink m.1.cls idx Lib.objectInit) ∧ am_W (am_z hn 6) (.instanceMethod Lib.objectInit) ∧ am_W (am_z hn 7) (.code Lib.objectInit ⟨#[0xb1]⟩ 1 none) ∧ Nat.ble 1 m.2.2.2.2.1 = true ∧ Nat.ble 40 m.2.2.2.2.2.1 = true
    | k => am_ckm m (ms.getD (am_n hn 1) am_m0') (am_n hn 4) = true ∧ (parseMethodDescriptor (ms.getD (am_n hn 1) am_m0').1.desc).map (fun d => d.parameters.length) = some (am_n hn 2 - 1) ∧ Nat.blt 0 (am_n hn 2) = true ∧ am_n hn 4 = 0 ∧
      am_W (am_z hn 6) (.instanceMethod (ms.getD (am_n hn 1) am_m0').1) ∧ (ms.getD (am_n hn 1) am_m0').1.name = "<init>" ∧ (match k with
        | 2 => am_W (am_z hn 5) (.methodLink m.1.cls idx (ms.getD (am_n hn 1) am_m0').1)
        | 3 => am_W (am_z hn 5) (.methodLinkNest m.1.cls idx (ms.getD (am_n hn 1) am_m0').1 "ZoneLedger")
        | _ => False))
  | .invokestatic idx => len = 3 ∧ (match am_n hn 0 with
    | 11 => am_W (am_z hn 5) (.methodLink m.1.cls idx arraycopyName) ∧ am_W (am_z hn 6) (.native arraycopyName) ∧ am_W (am_z hn 7) (.static arraycopyName) ∧ am_W (am_z hn 8) (.initialized "java/lang/System") ∧ Nat.ble 1 m.2.2.2.2.1 = true ∧ Nat.ble 40 m.2.2.2.2.2.1 = true
    | 12 => am_W (am_z hn 5) (.methodLink m.1.cls idx Lib.Math.max.name) ∧ am_W (am_z hn 6) (.static Lib.Math.max.name) ∧ am_W (am_z hn 7) (.initialized "java/lang/Math") ∧ am_W (am_z hn 8) (.code Lib.Math.max.name Lib.Math.max.code 2 (some .int)) ∧ Nat.ble 1 m.2.2.2.2.1 = true ∧ Nat.ble 40 m.2.2.2.2.2.1 = true
    | 13 => am_W (am_z hn 5) (.methodLink m.1.cls idx Lib.Math.min.name) ∧ am_W (am_z hn 6) (.static Lib.Math.min.name) ∧ am_W (am_z hn 7) (.initialized "java/lang/Math") ∧ am_W (am_z hn 8) (.code Lib.Math.min.name Lib.Math.min.code 2 (some .int)) ∧ Nat.ble 1 m.2.2.2.2.1 = true ∧ Nat.ble 40 m.2.2.2.2.2.1 = true
    | 20 => am_n hn 1 = 305 ∧ am_W (am_z hn 5) (.methodLink m.1.cls idx ⟨"ZoneLedgerLaw", "zone", "(LZoneLedger;II[J)I"⟩)
    | k => am_ckm m (ms.getD (am_n hn 1) am_m0') (am_n hn 4) = true ∧ (parseMethodDescriptor (ms.getD (am_n hn 1) am_m0').1.desc).map (fun d => d.parameters.length) = some (am_n hn 2) ∧ am_W (am_z hn 6) (.static (ms.getD (am_n hn 1) am_m0').1) ∧ (match k with
        | 1 => am_W (am_z hn 5) (.methodLink m.1.cls idx (ms.getD (am_n hn 1) am_m0').1)
        | 4 => am_W (am_z hn 5) (.methodLinkNest m.1.cls idx (ms.getD (am_n hn 1) am_m0').1 "ZoneLedger")
        | _ => False))
  | .ireturn => len = 1 ∧ Nat.blt (am_n hn 0) 4 = true ∧ m.2.2.2.1 = some (match am_n hn 0 with
    | 0 => .int
    | 1 => .boolean
    | 2 => .char
    | _ => .byte)
  | .return_ => len = 1 ∧ m.2.2.2.1 = none
  | _ => len = 1
def am_all {α : Type} (P : α → Prop) : List α → Prop
  | [] => True
  | r :: rs => P r ∧ am_all P rs
theorem am_all_mem {α : Type} {P : α → Prop} : ∀ {l : List α}, am_all P l → ∀ r ∈ l, P r
  | [], _, r, hr => by cases hr
  | x :: xs, h, r, hr => by
    rcases List.mem_cons.mp hr with rfl | hr
    · exact h.1
    · exact am_all_mem h.2 r hr
theorem am_all_app {α : Type} {P : α → Prop} : ∀ {l k : List α}, am_all P l → am_all P k → am_all P (l ++ k)
  | [], _, _, h => h
  | _ :: _, _, h1, h2 => ⟨h1.1, am_all_app h1.2 h2⟩
def am_lkr (m : am_M) (r : Nat × Instr × Nat × List Int) : Prop := am_lnk am_ms m r.2.1 r.2.2.1 r.2.2.2
/-- a branch leads to a place -/
def am_to (pc : Nat) (i : Instr) : Bool := match i with
  | .goto off => decide (0 ≤ (pc : Int) + off)
  | .if_icmp _ off => decide (0 ≤ (pc : Int) + off)
  | .ifCond _ off => decide (0 ≤ (pc : Int) + off)
  | .ifnull off => decide (0 ≤ (pc : Int) + off)
  | .ifnonnull off => decide (0 ≤ (pc : Int) + off)
  | .tableswitch d _ _ offs => decide (0 ≤ (pc : Int) + d) && offs.toList.all (fun o => decide (0 ≤ (pc : Int) + o))
  | .lookupswitch d ps => decide (0 ≤ (pc : Int) + d) && ps.toList.all (fun o => decide (0 ≤ (pc : Int) + o.2))
  | _ => true
def am_decR (cc : ByteArray) (rs : List (Nat × Instr × Nat × List Int)) : Bool := rs.all fun r => decide (decode cc r.1 = .ok (r.2.1, r.2.2.1)) && am_to r.1 r.2.1
def am_dec (m : am_M) : Bool := am_decR m.2.1 m.2.2.2.2.2.2.2
theorem am_decR_app {cc : ByteArray} {a b : List (Nat × Instr × Nat × List Int)} (ha : am_decR cc a = true) (hb : am_decR cc b = true) : am_decR cc (a ++ b) = true := by
  unfold am_decR at *
  rw [List.all_append, ha, hb]
  rfl
/-- a method's own words -/
def am_own (m : am_M) : Prop := plainName m.1.cls = true ∧ am_W (am_z m.2.2.2.2.2.2.1 0) (.code m.1 m.2.1 m.2.2.1 m.2.2.2.1) ∧ am_W (am_z m.2.2.2.2.2.2.1 1) (.initialized m.1.cls) ∧ m.1.cls ≠ "java/lang/invoke/MethodHandle" ∧ m.1.cls ≠ "java/lang/invoke/VarHandle"
