/-! ===== RUNS: with fuel, and without (what some fuel gives) ===== -/
/-- a method: its name, code, locals, what it returns, the frames and words it needs, places of its words in the tables, its rows (place, instruction, length, hints) -/
abbrev am_M : Type := MethodName × ByteArray × Nat × Option FieldType × Nat × Nat × List Int × List (Nat × Instr × Nat × List Int)
abbrev am_Res : Type := Option am_V × am_H
/-- what a call has returned: nothing, or an int -/
def am_oV (r : Option am_Res) : Option am_H := r.bind fun r => match r.1 with
  | none => some r.2
  | _ => none
def am_oI (r : Option am_Res) : Option (Int × am_H) := r.bind fun r => match r.1 with
  | some (.inl x) => some (x, r.2)
  | _ => none
def am_a3 (as : List am_V) : Option Nat := match as with
  | [_, _, _, .inr (.inr (.inl o))] => some o
  | _ => none
/-- a call, by what is returned and what goes on behind it -/
def am_cc {ρ : Type} (C : Nat → List am_V → am_H → Option am_Res) (K : Nat → List am_V → List am_V → am_H → Option ρ) (rk z : Nat) (as : List am_V) (pc : Nat) (ls st : List am_V) (h : am_H) : Option ρ := match rk with
  | 0 => (am_oV (C z as h)).bind fun h1 => K pc ls st h1
  | 2 => (am_oI (C z (as.take 3) h)).bind fun r => (am_a3 as).bind fun o => (am_wr r.2 o 2 0 r.1).bind fun h1 => K pc ls (am_I 0 :: st) h1
  | _ => (am_oI (C z as h)).bind fun r => K pc ls (am_I r.1 :: st) r.2
def am_bf {ρ : Type} (K : Nat → List am_V → List am_V → am_H → Option ρ) (b : Bool) (p q : Nat) (ls st : List am_V) (h : am_H) : Option ρ := bif b then K p ls st h else K q ls st h
def am_rt (v : Option am_V) (h : am_H) : Option am_Res := some (v, h)
section AMR
variable (ms : List am_M)
def am_code (y pc : Nat) : Option (Instr × Nat × List Int) := (ms[y]?).bind fun m => (m.2.2.2.2.2.2.2.find? fun r => Nat.beq r.1 pc).map fun r => r.2
def am_maxL (y : Nat) : Nat := (ms[y]?).elim 0 fun m => m.2.2.1
/-- the arguments fit the locals -/
def am_en {ρ : Type} (z : Nat) (as : List am_V) (x : Option ρ) : Option ρ := bif Nat.ble (am_lay as).length (am_maxL ms z) then x else none
def am_F : Nat → Nat → Nat → List am_V → List am_V → am_H → Option am_Res
  | 0, _, _, _, _, _ => none
  | n + 1, y, pc, ls, st, h => (am_code ms y pc).bind fun r => am_ex (am_F n y) am_rt (am_bf (am_F n y)) (am_cc (fun z as h => am_en ms z as (am_F n z 0 (am_pad (am_maxL ms z) as) [] h)) (am_F n y)) r.1 r.2.1 r.2.2 pc ls st h
end AMR
/-! what an instruction asks, as data -/
abbrev am_A : Type := (Nat × List am_V × List am_V × am_H) ⊕ (Option am_V × am_H) ⊕ (Bool × Nat × Nat × List am_V × List am_V × am_H) ⊕ (Nat × Nat × List am_V × Nat × List am_V × List am_V × am_H)
def am_st (i : Instr) (len : Nat) (hn : List Int) (pc : Nat) (ls st : List am_V) (h : am_H) : Option am_A :=
  am_ex (fun pc ls st h => some (.inl (pc, ls, st, h))) (fun v h => some (.inr (.inl (v, h)))) (fun b p q ls st h => some (.inr (.inr (.inl (b, p, q, ls, st, h))))) (fun rk z as pc ls st h => some (.inr (.inr (.inr (rk, z, as, pc, ls, st, h))))) i len hn pc ls st h
def am_do {ρ : Type} (K : Nat → List am_V → List am_V → am_H → Option ρ) (Rt : Option am_V → am_H → Option ρ) (Bf : Bool → Nat → Nat → List am_V → List am_V → am_H → Option ρ) (Cl : Nat → Nat → List am_V → Nat → List am_V → List am_V → am_H → Option ρ) (a : am_A) : Option ρ := match a with
  | .inl (pc, ls, st, h) => K pc ls st h
  | .inr (.inl (v, h)) => Rt v h
  | .inr (.inr (.inl (b, p, q, ls, st, h))) => Bf b p q ls st h
  | .inr (.inr (.inr (rk, z, as, pc, ls, st, h))) => Cl rk z as pc ls st h
set_option maxHeartbeats 4000000 in
theorem am_ex_st {ρ : Type} (K : Nat → List am_V → List am_V → am_H → Option ρ) (Rt : Option am_V → am_H → Option ρ) (Bf : Bool → Nat → Nat → List am_V → List am_V → am_H → Option ρ) (Cl : Nat → Nat → List am_V → Nat → List am_V → List am_V → am_H → Option ρ) (i : Instr) (len : Nat) (hn : List Int) (pc : Nat) (ls st : List am_V) (h : am_H) :
    am_ex K Rt Bf Cl i len hn pc ls st h = (am_st i len hn pc ls st h).bind (am_do K Rt Bf Cl) := by
  unfold am_st
  cases i <;> simp only [am_ex, am_iv, am_cl, am_ldI, am_ldL, am_ldA, am_stI, am_stA, am_b2, am_d2, am_l2, am_e2, am_s2, Option.bind_some, Option.bind_none, am_do] <;> try rfl
  all_goals (repeat' (first | rfl | split))
  all_goals (try (simp only [cond_eq_ite]))
  all_goals (repeat' (first | rfl | split))
  all_goals (rw [Option.bind_assoc]; first | rfl | (congr 1; funext r; repeat' (first | rfl | split)))

section AMS
variable (ms : List am_M)
theorem am_F_succ (n y pc : Nat) (ls st : List am_V) (h : am_H) : am_F ms (n + 1) y pc ls st h = (am_code ms y pc).bind fun r => (am_st r.1 r.2.1 r.2.2 pc ls st h).bind (am_do (am_F ms n y) am_rt (am_bf (am_F ms n y)) (am_cc (fun z as h => am_en ms z as (am_F ms n z 0 (am_pad (am_maxL ms z) as) [] h)) (am_F ms n y))) := by
  show (am_code ms y pc).bind _ = _
  congr 1
  funext r
  exact am_ex_st _ _ _ _ _ _ _ _ _ _ _
theorem am_en_some {ρ : Type} {z : Nat} {as : List am_V} {x : Option ρ} {r : ρ} : am_en ms z as x = some r ↔ (am_lay as).length ≤ am_maxL ms z ∧ x = some r := by
  unfold am_en
  cases hb : Nat.ble (am_lay as).length (am_maxL ms z) with
  | true =>
    have h1 := Nat.le_of_ble_eq_true hb
    exact ⟨fun q => ⟨h1, q⟩, fun q => q.2⟩
  | false =>
    refine ⟨(fun q => by cases q), fun q => ?_⟩
    have h1 := Nat.ble_eq_true_of_le q.1
    rw [hb] at h1
    cases h1
/-- more is known: what goes on, and what is called -/
theorem am_do_mono {C C' : Nat → List am_V → am_H → Option am_Res} {K K' : Nat → List am_V → List am_V → am_H → Option am_Res} (hC : ∀ z as h r, C z as h = some r → C' z as h = some r) (hK : ∀ pc ls st h r, K pc ls st h = some r → K' pc ls st h = some r) (a : am_A) (r : am_Res)
    (h : am_do K am_rt (am_bf K) (am_cc C K) a = some r) : am_do K' am_rt (am_bf K') (am_cc C' K') a = some r := by
  rcases a with ⟨pc, ls, st, g⟩ | ⟨v, g⟩ | ⟨b, p, q, ls, st, g⟩ | ⟨rk, z, as, pc, ls, st, g⟩
  · exact hK _ _ _ _ _ h
  · exact h
  · cases b
    · exact hK _ _ _ _ _ h
    · exact hK _ _ _ _ _ h
  · match rk, h with
    | 0, h =>
      obtain ⟨h1, e1, e2⟩ := Option.bind_eq_some_iff.mp (show (am_oV (C z as g)).bind _ = some r from h)
      obtain ⟨x, f1, f2⟩ := Option.bind_eq_some_iff.mp e1
      show (am_oV (C' z as g)).bind _ = some r
      rw [show am_oV (C' z as g) = some h1 from by unfold am_oV; rw [hC _ _ _ _ f1]; exact f2]
      exact hK _ _ _ _ _ e2
    | 2, h =>
      obtain ⟨h1, e1, e2⟩ := Option.bind_eq_some_iff.mp (show (am_oI (C z (as.take 3) g)).bind _ = some r from h)
      obtain ⟨x, f1, f2⟩ := Option.bind_eq_some_iff.mp e1
      show (am_oI (C' z (as.take 3) g)).bind _ = some r
      rw [show am_oI (C' z (as.take 3) g) = some h1 from by unfold am_oI; rw [hC _ _ _ _ f1]; exact f2]
      obtain ⟨o, q1, q2⟩ := Option.bind_eq_some_iff.mp e2
      obtain ⟨h2, g1, g2⟩ := Option.bind_eq_some_iff.mp q2
      exact Option.bind_eq_some_iff.mpr ⟨h1, rfl, Option.bind_eq_some_iff.mpr ⟨o, q1, Option.bind_eq_some_iff.mpr ⟨h2, g1, hK _ _ _ _ _ g2⟩⟩⟩
    | 1, h =>
      obtain ⟨h1, e1, e2⟩ := Option.bind_eq_some_iff.mp (show (am_oI (C z as g)).bind _ = some r from h)
      obtain ⟨x, f1, f2⟩ := Option.bind_eq_some_iff.mp e1
      show (am_oI (C' z as g)).bind _ = some r
      rw [show am_oI (C' z as g) = some h1 from by unfold am_oI; rw [hC _ _ _ _ f1]; exact f2]
      exact hK _ _ _ _ _ e2
    | k + 3, h =>
      obtain ⟨h1, e1, e2⟩ := Option.bind_eq_some_iff.mp (show (am_oI (C z as g)).bind _ = some r from h)
      obtain ⟨x, f1, f2⟩ := Option.bind_eq_some_iff.mp e1
      show (am_oI (C' z as g)).bind _ = some r
      rw [show am_oI (C' z as g) = some h1 from by unfold am_oI; rw [hC _ _ _ _ f1]; exact f2]
      exact hK _ _ _ _ _ e2
theorem am_F_mono1 : ∀ (n y pc : Nat) (ls st : List am_V) (h : am_H) (r : am_Res), am_F ms n y pc ls st h = some r → am_F ms (n + 1) y pc ls st h = some r
  | 0, y, pc, ls, st, h, r, hr => by cases hr
  | n + 1, y, pc, ls, st, h, r, hr => by
    rw [am_F_succ] at hr ⊢
    obtain ⟨row, e1, e2⟩ := Option.bind_eq_some_iff.mp hr
    obtain ⟨a, f1, f2⟩ := Option.bind_eq_some_iff.mp e2
    refine Option.bind_eq_some_iff.mpr ⟨row, e1, Option.bind_eq_some_iff.mpr ⟨a, f1, ?_⟩⟩
    exact am_do_mono (fun z as h r q => (am_en_some ms).mpr ⟨((am_en_some ms).mp q).1, am_F_mono1 n z 0 _ [] h r ((am_en_some ms).mp q).2⟩) (fun pc ls st h r => am_F_mono1 n y pc ls st h r) a r f2
theorem am_F_mono {n m : Nat} (hnm : n ≤ m) {y pc : Nat} {ls st : List am_V} {h : am_H} {r : am_Res} (hr : am_F ms n y pc ls st h = some r) : am_F ms m y pc ls st h = some r := by
  induction hnm with
  | refl => exact hr
  | step _ ih => exact am_F_mono1 ms _ y pc ls st h r ih
noncomputable def am_run (y pc : Nat) (ls st : List am_V) (h : am_H) : Option am_Res := @dite _ (∃ r, ∃ n, am_F ms n y pc ls st h = some r) (Classical.propDecidable _) (fun hh => some (Classical.choose hh)) (fun _ => none)
theorem am_run_some {y pc : Nat} {ls st : List am_V} {h : am_H} {r : am_Res} : am_run ms y pc ls st h = some r ↔ ∃ n, am_F ms n y pc ls st h = some r := by
  unfold am_run
  by_cases hh : ∃ r, ∃ n, am_F ms n y pc ls st h = some r
  · rw [dif_pos hh]
    obtain ⟨n, hn⟩ := Classical.choose_spec hh
    constructor
    · intro e
      cases e
      exact ⟨n, hn⟩
    · rintro ⟨m, hm⟩
      have h1 := am_F_mono ms (Nat.le_max_left n m) hn
      have h2 := am_F_mono ms (Nat.le_max_right n m) hm
      rw [h1] at h2
      exact h2
  · rw [dif_neg hh]
    constructor
    · intro e; cases e
    · rintro ⟨m, hm⟩; exact absurd ⟨r, m, hm⟩ hh
noncomputable def am_call (z : Nat) (as : List am_V) (h : am_H) : Option am_Res := am_en ms z as (am_run ms z 0 (am_pad (am_maxL ms z) as) [] h)
/-- a run is its first instruction's -/
theorem am_run_st (y pc : Nat) (ls st : List am_V) (h : am_H) : am_run ms y pc ls st h = (am_code ms y pc).bind fun r => (am_st r.1 r.2.1 r.2.2 pc ls st h).bind (am_do (am_run ms y) am_rt (am_bf (am_run ms y)) (am_cc (am_call ms) (am_run ms y))) := by
  apply Option.ext
  intro r
  constructor
  · intro hr
    obtain ⟨n, hn⟩ := (am_run_some ms).mp hr
    cases n with
    | zero => cases hn
    | succ n =>
      rw [am_F_succ] at hn
      obtain ⟨row, e1, e2⟩ := Option.bind_eq_some_iff.mp hn
      obtain ⟨a, f1, f2⟩ := Option.bind_eq_some_iff.mp e2
      exact Option.bind_eq_some_iff.mpr ⟨row, e1, Option.bind_eq_some_iff.mpr ⟨a, f1, am_do_mono (fun z as h r q => (am_en_some ms).mpr ⟨((am_en_some ms).mp q).1, (am_run_some ms).mpr ⟨n, ((am_en_some ms).mp q).2⟩⟩) (fun pc ls st h r q => (am_run_some ms).mpr ⟨n, q⟩) a r f2⟩⟩
  · intro hr
    obtain ⟨row, e1, e2⟩ := Option.bind_eq_some_iff.mp hr
    obtain ⟨a, f1, f2⟩ := Option.bind_eq_some_iff.mp e2
    have key : ∃ n, am_do (am_F ms n y) am_rt (am_bf (am_F ms n y)) (am_cc (fun z as h => am_en ms z as (am_F ms n z 0 (am_pad (am_maxL ms z) as) [] h)) (am_F ms n y)) a = some r := by
      rcases a with ⟨pc, ls, st, g⟩ | ⟨v, g⟩ | ⟨b, p, q, ls, st, g⟩ | ⟨rk, z, as, pc, ls, st, g⟩
      · exact (am_run_some ms).mp f2
      · exact ⟨0, f2⟩
      · cases b
        · exact (am_run_some ms).mp f2
        · exact (am_run_some ms).mp f2
      · match rk, f2 with
        | 0, f2 =>
          obtain ⟨h1, u1, u2⟩ := Option.bind_eq_some_iff.mp (show (am_oV (am_call ms z as g)).bind _ = some r from f2)
          obtain ⟨x, v1, v2⟩ := Option.bind_eq_some_iff.mp u1
          obtain ⟨vl, v1⟩ := (am_en_some ms).mp v1
          obtain ⟨n1, g1⟩ := (am_run_some ms).mp v1
          obtain ⟨n2, g2⟩ := (am_run_some ms).mp u2
          refine ⟨max n1 n2, ?_⟩
          show (am_oV (am_en ms z as (am_F ms (max n1 n2) z 0 (am_pad (am_maxL ms z) as) [] g))).bind _ = some r
          rw [show am_oV (am_en ms z as (am_F ms (max n1 n2) z 0 (am_pad (am_maxL ms z) as) [] g)) = some h1 from by unfold am_oV; rw [(am_en_some ms).mpr ⟨vl, am_F_mono ms (Nat.le_max_left n1 n2) g1⟩]; exact v2]
          exact am_F_mono ms (Nat.le_max_right n1 n2) g2
        | 1, f2 =>
          obtain ⟨h1, u1, u2⟩ := Option.bind_eq_some_iff.mp (show (am_oI (am_call ms z as g)).bind _ = some r from f2)
          obtain ⟨x, v1, v2⟩ := Option.bind_eq_some_iff.mp u1
          obtain ⟨vl, v1⟩ := (am_en_some ms).mp v1
          obtain ⟨n1, g1⟩ := (am_run_some ms).mp v1
          obtain ⟨n2, g2⟩ := (am_run_some ms).mp u2
          refine ⟨max n1 n2, ?_⟩
          show (am_oI (am_en ms z as (am_F ms (max n1 n2) z 0 (am_pad (am_maxL ms z) as) [] g))).bind _ = some r
          rw [show am_oI (am_en ms z as (am_F ms (max n1 n2) z 0 (am_pad (am_maxL ms z) as) [] g)) = some h1 from by unfold am_oI; rw [(am_en_some ms).mpr ⟨vl, am_F_mono ms (Nat.le_max_left n1 n2) g1⟩]; exact v2]
          exact am_F_mono ms (Nat.le_max_right n1 n2) g2
        | 2, f2 =>
          obtain ⟨h1, u1, u2⟩ := Option.bind_eq_some_iff.mp (show (am_oI (am_call ms z (as.take 3) g)).bind _ = some r from f2)
          obtain ⟨x, v1, v2⟩ := Option.bind_eq_some_iff.mp u1
          obtain ⟨vl, v1⟩ := (am_en_some ms).mp v1
          obtain ⟨n1, g1⟩ := (am_run_some ms).mp v1
          obtain ⟨o, q1, q2⟩ := Option.bind_eq_some_iff.mp u2
          obtain ⟨h2, w1, w2⟩ := Option.bind_eq_some_iff.mp q2
          obtain ⟨n2, g2⟩ := (am_run_some ms).mp w2
          refine ⟨max n1 n2, ?_⟩
          show (am_oI (am_en ms z (as.take 3) (am_F ms (max n1 n2) z 0 (am_pad (am_maxL ms z) (as.take 3)) [] g))).bind _ = some r
          rw [show am_oI (am_en ms z (as.take 3) (am_F ms (max n1 n2) z 0 (am_pad (am_maxL ms z) (as.take 3)) [] g)) = some h1 from by unfold am_oI; rw [(am_en_some ms).mpr ⟨vl, am_F_mono ms (Nat.le_max_left n1 n2) g1⟩]; exact v2]
          exact Option.bind_eq_some_iff.mpr ⟨h1, rfl, Option.bind_eq_some_iff.mpr ⟨o, q1, Option.bind_eq_some_iff.mpr ⟨h2, w1, am_F_mono ms (Nat.le_max_right n1 n2) g2⟩⟩⟩
        | k + 3, f2 =>
          obtain ⟨h1, u1, u2⟩ := Option.bind_eq_some_iff.mp (show (am_oI (am_call ms z as g)).bind _ = some r from f2)
          obtain ⟨x, v1, v2⟩ := Option.bind_eq_some_iff.mp u1
          obtain ⟨vl, v1⟩ := (am_en_some ms).mp v1
          obtain ⟨n1, g1⟩ := (am_run_some ms).mp v1
          obtain ⟨n2, g2⟩ := (am_run_some ms).mp u2
          refine ⟨max n1 n2, ?_⟩
          show (am_oI (am_en ms z as (am_F ms (max n1 n2) z 0 (am_pad (am_maxL ms z) as) [] g))).bind _ = some r
          rw [show am_oI (am_en ms z as (am_F ms (max n1 n2) z 0 (am_pad (am_maxL ms z) as) [] g)) = some h1 from by unfold am_oI; rw [(am_en_some ms).mpr ⟨vl, am_F_mono ms (Nat.le_max_left n1 n2) g1⟩]; exact v2]
          exact am_F_mono ms (Nat.le_max_right n1 n2) g2
    obtain ⟨n, hn⟩ := key
    refine (am_run_some ms).mpr ⟨n + 1, ?_⟩
    rw [am_F_succ]
    exact Option.bind_eq_some_iff.mpr ⟨row, e1, Option.bind_eq_some_iff.mpr ⟨a, f1, hn⟩⟩
theorem am_run_eq (y pc : Nat) (ls st : List am_V) (h : am_H) : am_run ms y pc ls st h = (am_code ms y pc).bind fun r => am_ex (am_run ms y) am_rt (am_bf (am_run ms y)) (am_cc (am_call ms) (am_run ms y)) r.1 r.2.1 r.2.2 pc ls st h := by
  rw [am_run_st]
  congr 1
  funext r
  exact (am_ex_st _ _ _ _ _ _ _ _ _ _ _).symm
/-! rows one behind another -/
noncomputable def am_xs (y : Nat) : List (Instr × Nat × List Int) → Nat → List am_V → List am_V → am_H → Option am_Res
  | [], pc, ls, st, h => am_run ms y pc ls st h
  | r :: rs, pc, ls, st, h => am_ex (fun q ls st h => bif Nat.beq q (pc + r.2.1) then am_xs y rs q ls st h else am_run ms y q ls st h) am_rt
      (fun b p q ls st h => bif b then am_run ms y p ls st h else (bif Nat.beq q (pc + r.2.1) then am_xs y rs q ls st h else am_run ms y q ls st h))
      (am_cc (am_call ms) (fun q ls st h => bif Nat.beq q (pc + r.2.1) then am_xs y rs q ls st h else am_run ms y q ls st h)) r.1 r.2.1 r.2.2 pc ls st h
def am_rows (y : Nat) : List (Instr × Nat × List Int) → Nat → Bool
  | [], _ => true
  | r :: rs, pc => decide (am_code ms y pc = some r) && am_rows y rs (pc + r.2.1)
theorem am_xs_run (y : Nat) : ∀ (rs : List (Instr × Nat × List Int)) (pc : Nat) (ls st : List am_V) (h : am_H), am_rows ms y rs pc = true → am_run ms y pc ls st h = am_xs ms y rs pc ls st h
  | [], pc, ls, st, h, _ => rfl
  | r :: rs, pc, ls, st, h, hr => by
    simp only [am_rows, Bool.and_eq_true, decide_eq_true_eq] at hr
    rw [am_run_eq, hr.1]
    have e : (fun q ls st h => bif Nat.beq q (pc + r.2.1) then am_xs ms y rs q ls st h else am_run ms y q ls st h) = am_run ms y := by
      funext q ls st h
      cases hq : Nat.beq q (pc + r.2.1) with
      | false => rfl
      | true =>
        have hq' := Nat.eq_of_beq_eq_true hq
        subst hq'
        exact (am_xs_run y rs _ ls st h hr.2).symm
    show am_ex _ _ _ _ _ _ _ _ _ _ _ = am_ex _ _ _ _ _ _ _ _ _ _ _
    have e2 : (fun b p q ls st h => bif b then am_run ms y p ls st h else (bif Nat.beq q (pc + r.2.1) then am_xs ms y rs q ls st h else am_run ms y q ls st h)) = am_bf (am_run ms y) := by
      funext b p q ls st h
      have := congrFun (congrFun (congrFun (congrFun e q) ls) st) h
      exact congrArg (fun z => bif b then am_run ms y p ls st h else z) this
    rw [e2, e]
end AMS
