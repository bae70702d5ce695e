section AMMAIN
variable (l : Launch) (D : va_G) (ca : Nat → ClassId) (base : Nat) (KV : Nat → Value) (sc : Nat × (Nat → Int))
/-- what is to be shown for a fuel -/
def am_Sn (n : Nat) : Prop := ∀ (y : Nat) (m : am_M), am_ms[y]? = some m → ∀ (p : Program) (e : Env) (R : Room) (s : State) (mi : MethodId) (args : Array Value) (below : List Frame) (meth : Method) (c : Code) (Q : State → Prop) (n0 s0 : Nat), am_Cx p R s mi args meth c D ca base KV sc m →
  ∀ (v : Option am_V) (h1 : am_H), h1.2.1 - n0 ≤ R.cells → h1.2.2.1 - s0 ≤ R.slots → am_Ret p l e R s mi args below meth c Q D ca base KV n0 s0 sc m v h1 →
  ∀ (pc : Nat) (ls st : List am_V) (h : am_H), am_F am_ms n y pc ls st h = some (v, h1) → n0 ≤ h.2.1 → s0 ≤ h.2.2.1 → am_Wt p l e R s mi args below meth c Q D ca base KV n0 s0 sc pc ls st h
theorem am_met {n : Nat} (hS : am_Sn l D ca base KV sc n) {z : Nat} {mz : am_M} (hz : am_ms[z]? = some mz) (ho : am_own mz) {as : List am_V} {h h1 : am_H} {v : Option am_V} (hF : am_en am_ms z as (am_F am_ms n z 0 (am_pad (am_maxL am_ms z) as) [] h) = some (v, h1)) : am_Mt l D ca base KV sc mz as h v h1 := by
  obtain ⟨hlen, hF⟩ := (am_en_some am_ms).mp hF
  rw [am_maxL_of hz] at hlen hF
  refine Met.ofW (cc := mz.2.1) (maxL := mz.2.2.1) (ret := mz.2.2.2.1) ho.1 rfl ?_
  intro p e s m args below meth c s₁ B hml hv
  obtain ⟨rfl, hR, hK, hG, hwf⟩ := hv
  have hts := atoms_spec (ws := am_wsm mz) B.pre
  have C : am_Cx p (am_rm mz h h1) s m (as.map (am_cv base KV)).toArray meth c D ca base KV sc mz :=
    ⟨B.exec, B.bytes, hml, findClass_of_methodNamed B.named, fun w hw => hts w (List.mem_cons_of_mem _ hw), hK, hG, B.returns, B.notSynchronized, fun q => by rw [(name_of_methodNamed B.named B.method).1]; exact q, Nat.le_refl _, Nat.le_refl _⟩
  have hret : am_Ret p l e (am_rm mz h h1) s m (as.map (am_cv base KV)).toArray below meth c (MQ below (am_Qc D ca base KV sc v h1) (as.map (am_cv base KV)).toArray s (h1.2.1 - h.2.1) (h1.2.2.1 - h.2.2.1) (fun q => base ≤ q)) D ca base KV h.2.1 h.2.2.1 sc mz v h1 := by
    intro H locs lc pc hR1 hS1
    refine ⟨fun hv hd hr => ?_, fun x ty hv hd hr hn hx => ?_⟩
    · subst hv
      exact W.vret B.exec B.bytes (B.returns.trans hr) (fun t ht _ => ⟨rfl, by rw [ht]; exact hR1, hS1.F ht, fun x q => by cases q⟩) (fun q hq => hS1.2.2 q hq) hd B.notSynchronized
    · subst hv
      exact W.zret B.exec B.bytes (B.returns.trans hr) hn (fun t ht _ => ⟨rfl, by rw [ht]; exact hR1, hS1.F ht, fun y q => by cases q; exact hx⟩) (fun q hq => hS1.2.2 q hq) hd B.notSynchronized
  have key := hS z mz hz p e (am_rm mz h h1) s m (as.map (am_cv base KV)).toArray below meth c _ h.2.1 h.2.2.1 C v h1 (Nat.le_refl _) (Nat.le_refl _) hret 0 (am_pad mz.2.2.1 as) [] h hF (Nat.le_refl _) (Nat.le_refl _)
  rw [lg_entry_eq]
  have kk := key (am_pad_wf hwf _) (fun v hv => by cases hv) s.heap [] _ hR va_S.rf (by rw [hml]; exact am_entry C.kv as hlen)
  rw [Nat.sub_self, Nat.sub_self] at kk
  exact kk
/-- the row of a place -/
theorem am_row (hOK : am_OK) {y pc : Nat} {m : am_M} (hy : am_ms[y]? = some m) {r : Instr × Nat × List Int} (h : am_code am_ms y pc = some r) : am_lnk am_ms m r.1 r.2.1 r.2.2 ∧ decode m.2.1 pc = .ok (r.1, r.2.1) ∧ am_to pc r.1 = true := by
  obtain ⟨hk, hd, -, -⟩ := hOK y m hy
  unfold am_code at h
  rw [hy] at h
  obtain ⟨⟨pc', r'⟩, f1, f2⟩ := Option.map_eq_some_iff.mp (show (List.find? _ _).map _ = some r from h)
  have hm := List.mem_of_find?_eq_some f1
  have hb := List.find?_some (p := fun r : Nat × Instr × Nat × List Int => Nat.beq r.1 pc) f1
  have hp' : pc' = pc := Nat.eq_of_beq_eq_true hb
  subst hp'
  have e : r' = r := f2
  subst e
  have h2 := List.all_eq_true.mp hd _ hm
  simp only [Bool.and_eq_true, decide_eq_true_eq] at h2
  exact ⟨am_all_mem hk _ hm, h2.1, h2.2⟩
end AMMAIN
section AMMAIN2
variable {l : Launch} {D : va_G} {ca : Nat → ClassId} {base : Nat} {KV : Nat → Value} {sc : Nat × (Nat → Int)}
variable {p : Program} {e : Env} {R : Room} {s : State} {mi : MethodId} {args : Array Value} {below : List Frame} {meth : Method} {c : Code} {Q : State → Prop} {n0 s0 : Nat} {m : am_M} {pc : Nat} {ls st : List am_V} {h h1 : am_H} {v : Option am_V} {n y : Nat}
/-- a call of a row: the callee's number and contract, and where it goes on -/
theorem am_callee (hOK : am_OK) (hS : am_Sn l D ca base KV sc n) (hy : am_ms[y]? = some m) {rk z k : Nat} {as rest : List am_V} (hk : am_ckm m (am_ms.getD z am_m0') rk = true) (e2 : am_cc (fun z as h => am_en am_ms z as (am_F am_ms n z 0 (am_pad (am_maxL am_ms z) as) [] h)) (am_F am_ms n y) rk z as k ls rest h = some (v, h1)) :
    ∃ mz v2 h2, am_ms.getD z am_m0' = mz ∧ am_own mz ∧ am_Mt l D ca base KV sc mz as h v2 h2 ∧ am_ge h h2 ∧ am_ge h2 h1 ∧ am_F am_ms n y k ls (v2.toList ++ rest) h2 = some (v, h1) ∧ (rk = 0 → mz.2.2.2.1 = none) := by
  have hrk : rk = 0 ∨ rk = 1 := (am_ckm_rk hk).elim (fun q => Or.inl q.1) (fun q => Or.inr q.1)
  obtain ⟨v2, h2, f1, f2, f3⟩ := am_cc_inv hrk e2
  obtain ⟨g1, g2⟩ := (am_en_some am_ms).mp f1
  obtain ⟨mz, hmz⟩ := am_F_idx g2
  have hd := am_getD_of (d := am_m0') hmz
  have hfr : mz.2.2.2.2.1 < 11 := by
    have a1 := am_ckm_fr hk
    rw [hd] at a1
    have a2 := (hOK y m hy).2.2.1
    omega
  have ho := (hOK z mz hmz).2.2.2 hfr
  refine ⟨mz, v2, h2, hd, ho, am_met l D ca base KV sc hS hmz ho f1, am_F_ge n z 0 _ [] h _ g2, am_F_ge n y _ _ _ h2 _ f2, f2, fun q => ?_⟩
  rcases am_ckm_rk hk with z | z
  · rw [hd] at z; exact z.2
  · rw [q] at z; cases z.1
end AMMAIN2
