/-! ===== THE LAW'S CALL OF ZONE, which may throw ===== -/
section AMTHR
variable {p : Program} {l : Launch} {e : Env} {R : Room} {s : State} {m : MethodId} {args : Array Value} {below : List Frame} {meth : Method} {c : Code} {H : Heap} {locs : List Loc} {cells slots : Nat} {Q : State → Prop}
variable {mc ms : Nat} {free : Addr → Prop} {A0 A1 : Nat → Prop} {H0 : Heap} {a : Array Value} {ls : Array Slot} {st0 rest : List Value}
variable {Qc : Array Value → State → Outcome → State → Prop} {XC : String → State → State → Prop}
theorem am_throw0 {cc : ByteArray} {pc : Nat} (hexec : p.tables.exec = Jvm.exec) (hb : c.code = cc) (hl : l.stackTraces = false) {own cls : String} {names : List String} {ik ic mc ms : Nat} {A : Nat → Prop}
    (hown : s.vm.findClass own = some m.cls) (hcls : Bundle.fit cls = true) (hnames : ∀ n ∈ names, Bundle.fit n = true)
    (hk : (Cond.classLink own ik cls).before args s = true) (hini : (Cond.initialized cls).before args s = true) (hat : ∀ w ∈ vx_at0 own ic cls names, w.before args s = true)
    (hgood : ∀ w ∈ Cond.classLink own ik cls :: Cond.initialized cls :: vx_at0 own ic cls names, vx_ot w = true)
    (hU : vx_Zq Bundle.tN "UNASSIGNED_STACK" Bundle.steD A s s.heap) (hN : vx_Zq Bundle.tN "SUPPRESSED_SENTINEL" Bundle.listD A s s.heap) (hS : va_S A s.heap H locs) (hsize : ls.size = c.maxLocals)
    (d0 : decode cc pc = .ok (.new ik, 3)) (d3 : decode cc (pc + 3) = .ok (.dup, 1)) (d4 : decode cc (pc + 4) = .ok (.invokespecial ic, 3)) (d7 : decode cc (pc + 7) = .ok (.athrow, 1))
    (hout : ∀ x ∈ c.exceptionTable.toList, covers x (pc + 7) = false)
    (hRframes : names.length + 3 < R.frames) (hRlocals : (rest.map fun v => v.category).sum + (13 * (names.length + 1) + 42) ≤ R.locals) (hRcells : cells + 1 ≤ R.cells) (hRslots : slots + 6 ≤ R.slots) (hlocks : meth.locks = false)
    (hx : ∀ t : State, s.vm.Alike t.vm → t.heap.size = H.size + 1 → (∀ q : Nat, q < H.size → t.heap[q]? = H[q]?) → XC cls s t)
    (hf : ∀ z ∈ locs, free z.base) (hc : cells + 1 ≤ mc) (hs : slots + 6 ≤ ms) :
    W p l e R s m args below meth c H locs cells slots (vx_MQ below Qc XC args s mc ms free) (F0 m pc ls rest) := by
  intro T hT X
  have htr : e.platform.stackTraces = false := (show e.platform.stackTraces = l.stackTraces by rw [X.admits.platform]).trans hl
  have Y := vx_rebase X (R' := { frames := R.frames, locals := R.locals, cells := 1, slots := 6 }) (Nat.le_refl _) (Nat.le_refl _) hRcells hRslots
  obtain ⟨s', hA⟩ : ∃ z, z = (T.setVm s.vm).setFrames (.invoking m args :: below) := ⟨_, rfl⟩
  rw [← hA] at Y
  have hvm : s'.vm = s.vm := by rw [hA]; rfl
  have hhp : s'.heap = H := by rw [hA]; exact hT
  have hW0 : s.WarmedH s'.vm := by rw [hvm]; exact State.WarmedH.refl s
  have hat' : ∀ w ∈ vx_at0 own ic cls names, w.before args s' = true := fun w hw => vx_ot_at hW0 hvm.symm (hgood w (List.mem_cons_of_mem _ (List.mem_cons_of_mem _ hw))) (hat w hw)
  have hk' : (Cond.classLink own ik cls).before args s' = true := vx_ot_at hW0 hvm.symm (hgood _ List.mem_cons_self) hk
  have hini' : (Cond.initialized cls).before args s' = true := vx_ot_at hW0 hvm.symm (hgood _ (List.mem_cons_of_mem _ List.mem_cons_self)) hini
  have hU' : vx_Zq Bundle.tN "UNASSIGNED_STACK" Bundle.steD A s' s'.heap := by rw [hhp]; exact vx_Zq.moved hW0.alike (hU.kept hS.2.1)
  have hN' : vx_Zq Bundle.tN "SUPPRESSED_SENTINEL" Bundle.listD A s' s'.heap := by rw [hhp]; exact vx_Zq.moved hW0.alike (hN.kept hS.2.1)
  have h : ∀ w ∈ Bundle.ownAtoms0 own ic cls names, w.before args s' = true := vx_own hat' (vx_isRefq hU'.1) (vx_isRefq hN'.1) hU'.2.word hN'.2.word
  have hown' : s'.vm.findClass own = some m.cls := by rw [hvm]; exact hown
  have hins : (Cond.instantiable cls 6).before args s' = true := h _ (by simp [Bundle.ownAtoms0])
  obtain ⟨vm₁, cX, kX, hfX, hkX, -, -, X₁, st1⟩ := Y.newCold hexec (own := own) (C := cls) (index := ik) (n := 6) hown' hk' hins hini'
    (g := F0 m pc ls rest) rfl (by rw [hb]; exact d0) (Nat.le_refl _) (Nat.le_refl _)
  generalize hT1 : (T.setVm vm₁).pushCell { cls := cX, slots := kX.instanceTypes.map defaultValue, vm := .none } = T1 at X₁ st1
  have hcat : (Value.ref T.heap.size).category = 1 := rfl
  have hcellA : T1.heap[T.heap.size]? = some (freshCell cX kX) := by rw [← hT1]; exact State.heap_pushCell_size _ _
  have d3' : decode c.code (pc + 3) = .ok (.dup, 1) := by rw [hb]; exact d3
  obtain ⟨U, hsteps, hrun, hend, hW, hsame, ce, hce, hO⟩ := X₁.ctorThrow0 hexec htr (own := own) (cls := cls) (names := names) (ic := ic) hown' hcls hnames h (fun x hx => nomatch hx) hfX hkX hcellA (by rw [hhp, hT]; exact Nat.le_refl _)
    (g := { method := m, pc := pc + 4, locals := ls, stack := .ref T.heap.size :: .ref T.heap.size :: rest, locked := none }) rfl hsize rfl rfl (rest := rest) rfl
    (by rw [hb]; exact d4) (by rw [hb]; exact d7) hout hRframes (by simp only [List.map_cons, List.sum_cons, hcat]; omega) hlocks
  obtain ⟨f1, f2⟩ := vx_frame hsame
  rw [hhp] at f1 f2
  have hsz1 : U.heap.size = H.size + 1 := by
    have g1 : ({ U with vm := s'.vm } : State).heap.size ≤ s'.heap.size + (0 + 1) := hsame.2.2.1
    rw [hhp] at g1
    have g2 : T.heap.size < U.heap.size := (Array.getElem?_eq_some_iff.mp hce).1
    rw [hT] at g2
    have g3 : U.heap.size ≤ H.size + (0 + 1) := g1
    omega
  have hWs : s.WarmedH U.vm := State.WarmedH.trans hW0 hW
  have hcl : s.vm.findClass cls = some ce.cls := by
    have h9 := hO.cls
    rw [hvm] at h9
    exact h9
  have hall : s.sameButNew ({ U with vm := s.vm } : State) locs mc ms := by
    subst hA
    obtain ⟨e1, e2⟩ := hsame
    rw [State.setFrames_setFrames] at e1
    have h2 : (T.setVm s.vm).sameButNew ({ U with vm := s.vm } : State) [] (0 + 1) (0 + 6) := ⟨e1, e2⟩
    have h3 := X.same.trans h2
    rw [List.append_nil] at h3
    exact h3.mono hc hs
  refine ⟨U, ?_, .threw T.heap.size, hrun, hend, Or.inr ⟨T.heap.size, rfl, cls, ce, locs, hx U hWs.alike hsz1 (fun q hq => f2 q hq (fun z hz => nomatch hz)), hce, hO.vm, hcl, hWs, hall, hf⟩⟩
  refine st1 _ ?_
  show Steps p.tables e below (T1.setTop { method := m, pc := pc + 3, locals := ls, stack := .ref T.heap.size :: rest, locked := none }) _
  jvm_step X₁.here [X₁.here.top, hexec, d3', Value.category]
  exact hsteps
end AMTHR
set_option maxRecDepth 20000 in
theorem zl_all : ∀ w ∈ Bundle.ownAtoms0 "ZoneLedger" 146 "java/util/NoSuchElementException" ["java/lang/RuntimeException", "java/lang/Exception"], vx_no w = true → w ∈ am_lwg ∨ (w ∈ lw_tbl ∧ am_isN w = true) := List.forall_mem_cons.mpr ⟨(fun _ => by first | exact Or.inl (List.mem_filter.mpr ⟨am_W_mem (q := 1019) rfl, rfl⟩) | exact Or.inr ⟨am_W_mem (q := 1019) rfl, rfl⟩), List.forall_mem_cons.mpr ⟨(fun _ => by first | exact Or.inl (List.mem_filter.mpr ⟨am_W_mem (q := 5135) rfl, rfl⟩) | exact Or.inr ⟨am_W_mem (q := 5135) rfl, rfl⟩), List.forall_mem_cons.mpr ⟨(fun _ => by first | exact Or.inl (List.mem_filter.mpr ⟨am_W_mem (q := 5144) rfl, rfl⟩) | exact Or.inr ⟨am_W_mem (q := 5144) rfl, rfl⟩), List.forall_mem_cons.mpr ⟨(fun _ => by first | exact Or.inl (List.mem_filter.mpr ⟨am_W_mem (q := 5146) rfl, rfl⟩) | exact Or.inr ⟨am_W_mem (q := 5146) rfl, rfl⟩), List.forall_mem_cons.mpr ⟨(fun _ => by first | exact Or.inl (List.mem_filter.mpr ⟨am_W_mem (q := 5149) rfl, rfl⟩) | exact Or.inr ⟨am_W_mem (q := 5149) rfl, rfl⟩), List.forall_mem_cons.mpr ⟨(fun _ => by first | exact Or.inl (List.mem_filter.mpr ⟨am_W_mem (q := 5151) rfl, rfl⟩) | exact Or.inr ⟨am_W_mem (q := 5151) rfl, rfl⟩), List.forall_mem_cons.mpr ⟨(fun _ => by first | exact Or.inl (List.mem_filter.mpr ⟨am_W_mem (q := 5136) rfl, rfl⟩) | exact Or.inr ⟨am_W_mem (q := 5136) rfl, rfl⟩), List.forall_mem_cons.mpr ⟨(fun _ => by first | exact Or.inl (List.mem_filter.mpr ⟨am_W_mem (q := 5137) rfl, rfl⟩) | exact Or.inr ⟨am_W_mem (q := 5137) rfl, rfl⟩), List.forall_mem_cons.mpr ⟨(fun _ => by first | exact Or.inl (List.mem_filter.mpr ⟨am_W_mem (q := 1030) rfl, rfl⟩) | exact Or.inr ⟨am_W_mem (q := 1030) rfl, rfl⟩), List.forall_mem_cons.mpr ⟨(fun _ => by first | exact Or.inl (List.mem_filter.mpr ⟨am_W_mem (q := 1031) rfl, rfl⟩) | exact Or.inr ⟨am_W_mem (q := 1031) rfl, rfl⟩), List.forall_mem_cons.mpr ⟨(fun _ => by first | exact Or.inl (List.mem_filter.mpr ⟨am_W_mem (q := 5138) rfl, rfl⟩) | exact Or.inr ⟨am_W_mem (q := 5138) rfl, rfl⟩), List.forall_mem_cons.mpr ⟨(fun _ => by first | exact Or.inl (List.mem_filter.mpr ⟨am_W_mem (q := 5143) rfl, rfl⟩) | exact Or.inr ⟨am_W_mem (q := 5143) rfl, rfl⟩), List.forall_mem_cons.mpr ⟨(fun _ => by first | exact Or.inl (List.mem_filter.mpr ⟨am_W_mem (q := 5147) rfl, rfl⟩) | exact Or.inr ⟨am_W_mem (q := 5147) rfl, rfl⟩), List.forall_mem_cons.mpr ⟨(fun _ => by first | exact Or.inl (List.mem_filter.mpr ⟨am_W_mem (q := 5163) rfl, rfl⟩) | exact Or.inr ⟨am_W_mem (q := 5163) rfl, rfl⟩), List.forall_mem_cons.mpr ⟨(fun _ => by first | exact Or.inl (List.mem_filter.mpr ⟨am_W_mem (q := 5125) rfl, rfl⟩) | exact Or.inr ⟨am_W_mem (q := 5125) rfl, rfl⟩), List.forall_mem_cons.mpr ⟨(fun _ => by first | exact Or.inl (List.mem_filter.mpr ⟨am_W_mem (q := 5164) rfl, rfl⟩) | exact Or.inr ⟨am_W_mem (q := 5164) rfl, rfl⟩), List.forall_mem_cons.mpr ⟨(fun _ => by first | exact Or.inl (List.mem_filter.mpr ⟨am_W_mem (q := 5127) rfl, rfl⟩) | exact Or.inr ⟨am_W_mem (q := 5127) rfl, rfl⟩), List.forall_mem_cons.mpr ⟨(fun _ => by first | exact Or.inl (List.mem_filter.mpr ⟨am_W_mem (q := 5165) rfl, rfl⟩) | exact Or.inr ⟨am_W_mem (q := 5165) rfl, rfl⟩), List.forall_mem_cons.mpr ⟨(fun _ => by first | exact Or.inl (List.mem_filter.mpr ⟨am_W_mem (q := 5129) rfl, rfl⟩) | exact Or.inr ⟨am_W_mem (q := 5129) rfl, rfl⟩), List.forall_mem_cons.mpr ⟨(fun _ => by first | exact Or.inl (List.mem_filter.mpr ⟨am_W_mem (q := 5139) rfl, rfl⟩) | exact Or.inr ⟨am_W_mem (q := 5139) rfl, rfl⟩), List.forall_mem_cons.mpr ⟨(fun h => absurd h (by decide +kernel)), List.forall_mem_cons.mpr ⟨(fun _ => by first | exact Or.inl (List.mem_filter.mpr ⟨am_W_mem (q := 5141) rfl, rfl⟩) | exact Or.inr ⟨am_W_mem (q := 5141) rfl, rfl⟩), List.forall_mem_cons.mpr ⟨(fun h => absurd h (by decide +kernel)), List.forall_mem_cons.mpr ⟨(fun _ => by first | exact Or.inl (List.mem_filter.mpr ⟨am_W_mem (q := 5131) rfl, rfl⟩) | exact Or.inr ⟨am_W_mem (q := 5131) rfl, rfl⟩), List.forall_mem_cons.mpr ⟨(fun _ => by first | exact Or.inl (List.mem_filter.mpr ⟨am_W_mem (q := 5153) rfl, rfl⟩) | exact Or.inr ⟨am_W_mem (q := 5153) rfl, rfl⟩), List.forall_mem_cons.mpr ⟨(fun _ => by first | exact Or.inl (List.mem_filter.mpr ⟨am_W_mem (q := 5154) rfl, rfl⟩) | exact Or.inr ⟨am_W_mem (q := 5154) rfl, rfl⟩), List.forall_mem_cons.mpr ⟨(fun _ => by first | exact Or.inl (List.mem_filter.mpr ⟨am_W_mem (q := 5155) rfl, rfl⟩) | exact Or.inr ⟨am_W_mem (q := 5155) rfl, rfl⟩), List.forall_mem_cons.mpr ⟨(fun _ => by first | exact Or.inl (List.mem_filter.mpr ⟨am_W_mem (q := 5156) rfl, rfl⟩) | exact Or.inr ⟨am_W_mem (q := 5156) rfl, rfl⟩), List.forall_mem_cons.mpr ⟨(fun _ => by first | exact Or.inl (List.mem_filter.mpr ⟨am_W_mem (q := 5116) rfl, rfl⟩) | exact Or.inr ⟨am_W_mem (q := 5116) rfl, rfl⟩), List.forall_mem_cons.mpr ⟨(fun _ => by first | exact Or.inl (List.mem_filter.mpr ⟨am_W_mem (q := 5156) rfl, rfl⟩) | exact Or.inr ⟨am_W_mem (q := 5156) rfl, rfl⟩), List.forall_mem_cons.mpr ⟨(fun _ => by first | exact Or.inl (List.mem_filter.mpr ⟨am_W_mem (q := 5157) rfl, rfl⟩) | exact Or.inr ⟨am_W_mem (q := 5157) rfl, rfl⟩), List.forall_mem_cons.mpr ⟨(fun _ => by first | exact Or.inl (List.mem_filter.mpr ⟨am_W_mem (q := 5158) rfl, rfl⟩) | exact Or.inr ⟨am_W_mem (q := 5158) rfl, rfl⟩), List.forall_mem_cons.mpr ⟨(fun _ => by first | exact Or.inl (List.mem_filter.mpr ⟨am_W_mem (q := 5159) rfl, rfl⟩) | exact Or.inr ⟨am_W_mem (q := 5159) rfl, rfl⟩), List.forall_mem_cons.mpr ⟨(fun _ => by first | exact Or.inl (List.mem_filter.mpr ⟨am_W_mem (q := 5118) rfl, rfl⟩) | exact Or.inr ⟨am_W_mem (q := 5118) rfl, rfl⟩), List.forall_mem_cons.mpr ⟨(fun _ => by first | exact Or.inl (List.mem_filter.mpr ⟨am_W_mem (q := 5159) rfl, rfl⟩) | exact Or.inr ⟨am_W_mem (q := 5159) rfl, rfl⟩), List.forall_mem_cons.mpr ⟨(fun _ => by first | exact Or.inl (List.mem_filter.mpr ⟨am_W_mem (q := 5160) rfl, rfl⟩) | exact Or.inr ⟨am_W_mem (q := 5160) rfl, rfl⟩), List.forall_mem_cons.mpr ⟨(fun _ => by first | exact Or.inl (List.mem_filter.mpr ⟨am_W_mem (q := 5161) rfl, rfl⟩) | exact Or.inr ⟨am_W_mem (q := 5161) rfl, rfl⟩), List.forall_mem_cons.mpr ⟨(fun _ => by first | exact Or.inl (List.mem_filter.mpr ⟨am_W_mem (q := 5136) rfl, rfl⟩) | exact Or.inr ⟨am_W_mem (q := 5136) rfl, rfl⟩), List.forall_mem_cons.mpr ⟨(fun _ => by first | exact Or.inl (List.mem_filter.mpr ⟨am_W_mem (q := 5120) rfl, rfl⟩) | exact Or.inr ⟨am_W_mem (q := 5120) rfl, rfl⟩), List.forall_mem_cons.mpr ⟨(fun _ => by first | exact Or.inl (List.mem_filter.mpr ⟨am_W_mem (q := 5152) rfl, rfl⟩) | exact Or.inr ⟨am_W_mem (q := 5152) rfl, rfl⟩), List.forall_mem_cons.mpr ⟨(fun _ => by first | exact Or.inl (List.mem_filter.mpr ⟨am_W_mem (q := 5114) rfl, rfl⟩) | exact Or.inr ⟨am_W_mem (q := 5114) rfl, rfl⟩), List.forall_mem_cons.mpr ⟨(fun _ => Or.inr ⟨am_W_mem (q := 5115) rfl, rfl⟩), List.forall_mem_cons.mpr ⟨(fun _ => by first | exact Or.inl (List.mem_filter.mpr ⟨am_W_mem (q := 5122) rfl, rfl⟩) | exact Or.inr ⟨am_W_mem (q := 5122) rfl, rfl⟩), List.forall_mem_cons.mpr ⟨(fun _ => by first | exact Or.inl (List.mem_filter.mpr ⟨am_W_mem (q := 5123) rfl, rfl⟩) | exact Or.inr ⟨am_W_mem (q := 5123) rfl, rfl⟩), List.forall_mem_cons.mpr ⟨(fun _ => by first | exact Or.inl (List.mem_filter.mpr ⟨am_W_mem (q := 5124) rfl, rfl⟩) | exact Or.inr ⟨am_W_mem (q := 5124) rfl, rfl⟩), List.forall_mem_cons.mpr ⟨(fun _ => by first | exact Or.inl (List.mem_filter.mpr ⟨am_W_mem (q := 5126) rfl, rfl⟩) | exact Or.inr ⟨am_W_mem (q := 5126) rfl, rfl⟩), List.forall_mem_cons.mpr ⟨(fun _ => by first | exact Or.inl (List.mem_filter.mpr ⟨am_W_mem (q := 5128) rfl, rfl⟩) | exact Or.inr ⟨am_W_mem (q := 5128) rfl, rfl⟩), List.forall_mem_cons.mpr ⟨(fun _ => by first | exact Or.inl (List.mem_filter.mpr ⟨am_W_mem (q := 5130) rfl, rfl⟩) | exact Or.inr ⟨am_W_mem (q := 5130) rfl, rfl⟩), List.forall_mem_cons.mpr ⟨(fun h => absurd h (by decide +kernel)), List.forall_mem_cons.mpr ⟨(fun h => absurd h (by decide +kernel)), List.forall_mem_cons.mpr ⟨(fun _ => by first | exact Or.inl (List.mem_filter.mpr ⟨am_W_mem (q := 5134) rfl, rfl⟩) | exact Or.inr ⟨am_W_mem (q := 5134) rfl, rfl⟩), List.forall_mem_cons.mpr ⟨(fun _ => by first | exact Or.inl (List.mem_filter.mpr ⟨am_W_mem (q := 5133) rfl, rfl⟩) | exact Or.inr ⟨am_W_mem (q := 5133) rfl, rfl⟩), List.forall_mem_cons.mpr ⟨(fun _ => by first | exact Or.inl (List.mem_filter.mpr ⟨am_W_mem (q := 5132) rfl, rfl⟩) | exact Or.inr ⟨am_W_mem (q := 5132) rfl, rfl⟩), (fun _ h => nomatch h)⟩⟩⟩⟩⟩⟩⟩⟩⟩⟩⟩⟩⟩⟩⟩⟩⟩⟩⟩⟩⟩⟩⟩⟩⟩⟩⟩⟩⟩⟩⟩⟩⟩⟩⟩⟩⟩⟩⟩⟩⟩⟩⟩⟩⟩⟩⟩⟩⟩⟩⟩⟩⟩
theorem zl_at : ∀ w ∈ vx_at0 "ZoneLedger" 146 "java/util/NoSuchElementException" ["java/lang/RuntimeException", "java/lang/Exception"], w ∈ am_lwg ∨ (w ∈ lw_tbl ∧ am_isN w = true) := fun w hm => zl_all w (List.mem_filter.mp hm).1 (List.mem_filter.mp hm).2
theorem zl_onT {w : Jvm.Cond} (h : am_isN w = true) : w.onTables = true := by
  cases w <;> first | rfl | cases h
theorem zl_ot {w : Jvm.Cond} (h : w ∈ am_lwg ∨ (w ∈ lw_tbl ∧ am_isN w = true)) : vx_ot w = true := by
  rcases h with h | h
  · unfold vx_ot
    rw [(List.mem_filter.mp h).2, Bool.or_true]
  · unfold vx_ot
    rw [zl_onT h.2, Bool.true_or]
theorem zl_wd {p : Program} {R : Room} {s : State} {mi : MethodId} {args : Array Value} {meth : Method} {c : Code} {D : va_G} {ca : Nat → ClassId} {base : Nat} {KV : Nat → Value} {sc : Nat × (Nat → Int)} {m : am_M} (C : am_Cx p R s mi args meth c D ca base KV sc m) {w : Jvm.Cond} (h : w ∈ lw_tbl) (hn : am_isN w = true) : w.before args s = true := va_Nw.use (zl_onT hn) (C.2.2.2.2.2.2.1.2.2.1 _ h hn)
theorem zl_cast {p : Program} {R : Room} {s : State} {mi : MethodId} {args : Array Value} {meth : Method} {c : Code} {D : va_G} {ca : Nat → ClassId} {base : Nat} {KV : Nat → Value} {sc : Nat × (Nat → Int)} {m : am_M} (C : am_Cx p R s mi args meth c D ca base KV sc m) : (Cond.castable "java/util/NoSuchElementException" "java/util/NoSuchElementException").before args s = true := zl_wd C (am_W_mem (q := 5115) rfl) rfl
theorem zl_met {l : Launch} {y : MethodName} {ws ws' : List Cond} {rm : Room} {Pc : Array Value → State → Prop} {Qc : Array Value → State → Outcome → State → Prop} {mc ms : Nat} {free : Addr → Prop} {cc : ByteArray} {maxL : Nat} {ret : Option FieldType} {hh : List (Nat × Nat × Nat × Nat)}
    (hy : plainName y.cls = true) (hw : ws = Cond.codeWith y cc maxL ret hh :: ws')
    (body : ∀ p e s m args below meth c s₁, BodyLoose p l y (headSpec ws rm) cc maxL ret e s m args below meth c s₁ → c.maxLocals = maxL → Pc args s →
      W p l e (headSpec ws rm).room s m args below meth c s.heap [] 0 0 (MQ below Qc args s mc ms free) (entryFrame m args maxL)) : Met l y ws rm Pc Qc mc ms free := by
  refine MetFree.of_bodyS (code := cc) (maxLocals := maxL) (ret := ret) hy ?_ ?_
  · intro args s m h hn
    obtain ⟨m9, meth, c, hn9, h1, h2, h3, h4, -, h5, h6, -⟩ := Cond.codeWith_spec (atoms_spec (ws := ws) h _ (by rw [hw]; exact List.mem_cons_self))
    cases hn.symm.trans hn9
    exact ⟨meth, c, h1, h2, h3, h4, h5, h6⟩
  · intro p e s m args below meth c s₁ B hml hP _
    have hh0 : s₁.heap = s.heap := by rw [B.state]; rfl
    obtain ⟨t, a1, o, b1, b2, b3⟩ := body p e s m args below meth c s₁ B hml hP s₁ hh0 (Stand.of_body B)
    exact ⟨t, o, a1, b1, b2, ⟨b3.1, b3.2⟩⟩
def zl_n : MethodName := ⟨"ZoneLedgerLaw", "zone", "(LZoneLedger;II[J)I"⟩
/-- the law's zone, the class's zone that throws, as methods of the table's form -/
def zl_m : am_M := (zl_n, method_3_code, 5, some .int, 9, 200, [5107, 1000], [])
def zl_t : am_M := (am_m305.1, am_m305.2.1, am_m305.2.2.1, am_m305.2.2.2.1, 7, 150, am_m305.2.2.2.2.2.2.1, [])
def zl_ws : List Jvm.Cond := Cond.codeWith zl_n method_3_code 5 (some .int) [(0, 10, 13, 13)] :: am_lwg
theorem zl_own : am_own zl_t := ow_305
theorem zd_0 : decode method_3_code 0 = .ok (.aload_n 3, 1) := by decide +kernel
theorem zd_1 : decode method_3_code 1 = .ok (.iconst 0, 1) := by decide +kernel
theorem zd_2 : decode method_3_code 2 = .ok (.aload_n 0, 1) := by decide +kernel
theorem zd_3 : decode method_3_code 3 = .ok (.iload_n 1, 1) := by decide +kernel
theorem zd_4 : decode method_3_code 4 = .ok (.iload_n 2, 1) := by decide +kernel
theorem zd_5 : decode method_3_code 5 = .ok (.invokevirtual 7, 3) := by decide +kernel
theorem zd_8 : decode method_3_code 8 = .ok (.i2l, 1) := by decide +kernel
theorem zd_9 : decode method_3_code 9 = .ok (.lastore, 1) := by decide +kernel
theorem zd_10 : decode method_3_code 10 = .ok (.goto 7, 3) := by decide +kernel
theorem zd_13 : decode method_3_code 13 = .ok (.astore 4, 2) := by decide +kernel
theorem zd_15 : decode method_3_code 15 = .ok (.iconst 1, 1) := by decide +kernel
theorem zd_16 : decode method_3_code 16 = .ok (.ireturn, 1) := by decide +kernel
theorem zd_17 : decode method_3_code 17 = .ok (.iconst 0, 1) := by decide +kernel
theorem zd_18 : decode method_3_code 18 = .ok (.ireturn, 1) := by decide +kernel
theorem ze_0 : decode prog_1_method_12_code 0 = .ok (.aload_n 0, 1) := by decide +kernel
theorem ze_1 : decode prog_1_method_12_code 1 = .ok (.getfield 34, 3) := by decide +kernel
theorem ze_4 : decode prog_1_method_12_code 4 = .ok (.iload_n 1, 1) := by decide +kernel
theorem ze_5 : decode prog_1_method_12_code 5 = .ok (.invokevirtual 140, 3) := by decide +kernel
theorem ze_8 : decode prog_1_method_12_code 8 = .ok (.ifCond .eq 13, 3) := by decide +kernel
theorem ze_11 : decode prog_1_method_12_code 11 = .ok (.iload_n 2, 1) := by decide +kernel
theorem ze_12 : decode prog_1_method_12_code 12 = .ok (.ifCond .lt 9, 3) := by decide +kernel
theorem ze_15 : decode prog_1_method_12_code 15 = .ok (.iload_n 2, 1) := by decide +kernel
theorem ze_16 : decode prog_1_method_12_code 16 = .ok (.bipush 7, 2) := by decide +kernel
theorem ze_18 : decode prog_1_method_12_code 18 = .ok (.if_icmp .le 11, 3) := by decide +kernel
theorem ze_21 : decode prog_1_method_12_code 21 = .ok (.new 144, 3) := by decide +kernel
theorem ze_24 : decode prog_1_method_12_code 24 = .ok (.dup, 1) := by decide +kernel
theorem ze_25 : decode prog_1_method_12_code 25 = .ok (.invokespecial 146, 3) := by decide +kernel
theorem ze_28 : decode prog_1_method_12_code 28 = .ok (.athrow, 1) := by decide +kernel
theorem zf_0 : decode prog_3_method_4_code 0 = .ok (.iload_n 1, 1) := by decide +kernel
theorem zf_1 : decode prog_3_method_4_code 1 = .ok (.ifCond .lt 17, 3) := by decide +kernel
theorem zf_4 : decode prog_3_method_4_code 4 = .ok (.iload_n 1, 1) := by decide +kernel
theorem zf_5 : decode prog_3_method_4_code 5 = .ok (.aload_n 0, 1) := by decide +kernel
theorem zf_6 : decode prog_3_method_4_code 6 = .ok (.getfield 9, 3) := by decide +kernel
theorem zf_9 : decode prog_3_method_4_code 9 = .ok (.iconst 0, 1) := by decide +kernel
theorem zf_10 : decode prog_3_method_4_code 10 = .ok (.iaload, 1) := by decide +kernel
theorem zf_11 : decode prog_3_method_4_code 11 = .ok (.if_icmp .ge 7, 3) := by decide +kernel
theorem zf_14 : decode prog_3_method_4_code 14 = .ok (.iconst 1, 1) := by decide +kernel
theorem zf_15 : decode prog_3_method_4_code 15 = .ok (.goto 4, 3) := by decide +kernel
theorem zf_18 : decode prog_3_method_4_code 18 = .ok (.iconst 0, 1) := by decide +kernel
theorem zf_19 : decode prog_3_method_4_code 19 = .ok (.ireturn, 1) := by decide +kernel
section ZLM
variable {l : Launch} {D : va_G} {ca : Nat → ClassId} {base : Nat} {KV : Nat → Value} {sc : Nat × (Nat → Int)}
/-- a contract out of a walk -/
theorem zl_mk {mz : am_M} (ho : am_own mz) {as : List am_V} {h h1 : am_H} {v : Option am_V} (hlen : (am_lay as).length ≤ mz.2.2.1)
    (key : ∀ (p : Program) (e : Env) (s : State) (mi : MethodId) (args : Array Value) (below : List Frame) (meth : Method) (c : Code) (Q : State → Prop), am_Cx p (am_rm mz h h1) s mi args meth c D ca base KV sc mz → am_Ret p l e (am_rm mz h h1) s mi args below meth c Q D ca base KV h.2.1 h.2.2.1 sc mz v h1 → am_Wt p l e (am_rm mz h h1) s mi args below meth c Q D ca base KV h.2.1 h.2.2.1 sc 0 (am_pad mz.2.2.1 as) [] h) : am_Mt l D ca base KV sc mz as h v h1 := by
  refine Met.ofW (cc := mz.2.1) (maxL := mz.2.2.1) (ret := mz.2.2.2.1) ho.1 rfl ?_
  intro p e s m args below meth c s₁ B hml hv
  obtain ⟨rfl, hR, hK, hG, hwf⟩ := hv
  have hts := atoms_spec (ws := am_wsm mz) B.pre
  have C : am_Cx p (am_rm mz h h1) s m (as.map (am_cv base KV)).toArray meth c D ca base KV sc mz :=
    ⟨B.exec, B.bytes, hml, findClass_of_methodNamed B.named, fun w hw => hts w (List.mem_cons_of_mem _ hw), hK, hG, B.returns, B.notSynchronized, fun q => by rw [(name_of_methodNamed B.named B.method).1]; exact q, Nat.le_refl _, Nat.le_refl _⟩
  have hret : am_Ret p l e (am_rm mz h h1) s m (as.map (am_cv base KV)).toArray below meth c (MQ below (am_Qc D ca base KV sc v h1) (as.map (am_cv base KV)).toArray s (h1.2.1 - h.2.1) (h1.2.2.1 - h.2.2.1) (fun q => base ≤ q)) D ca base KV h.2.1 h.2.2.1 sc mz v h1 := by
    intro H locs lc pc hR1 hS1
    refine ⟨fun hv hd hr => ?_, fun x ty hv hd hr hn hx => ?_⟩
    · subst hv
      exact W.vret B.exec B.bytes (B.returns.trans hr) (fun t ht _ => ⟨rfl, by rw [ht]; exact hR1, hS1.F ht, fun x q => by cases q⟩) (fun q hq => hS1.2.2 q hq) hd B.notSynchronized
    · subst hv
      exact W.zret B.exec B.bytes (B.returns.trans hr) hn (fun t ht _ => ⟨rfl, by rw [ht]; exact hR1, hS1.F ht, fun y q => by cases q; exact hx⟩) (fun q hq => hS1.2.2 q hq) hd B.notSynchronized
  have kk := key p e s m _ below meth c _ C hret
  rw [lg_entry_eq]
  have k2 := kk (am_pad_wf hwf _) (fun v hv => by cases hv) s.heap [] _ hR va_S.rf (by rw [hml]; exact am_entry C.kv as hlen)
  rw [Nat.sub_self, Nat.sub_self] at k2
  exact k2
/-- the same for the law's zone, which has a table -/
theorem zl_mkz {as : List am_V} {h h1 : am_H} {v : Option am_V} (hlen : (am_lay as).length ≤ 5)
    (key : ∀ (p : Program) (e : Env) (s : State) (mi : MethodId) (args : Array Value) (below : List Frame) (meth : Method) (c : Code) (Q : State → Prop), am_Cx p (am_rm zl_m h h1) s mi args meth c D ca base KV sc zl_m → c.exceptionTable.toList = tableOf [(0, 10, 13, 13)] → am_Ret p l e (am_rm zl_m h h1) s mi args below meth c Q D ca base KV h.2.1 h.2.2.1 sc zl_m v h1 → am_Wt p l e (am_rm zl_m h h1) s mi args below meth c Q D ca base KV h.2.1 h.2.2.1 sc 0 (am_pad 5 as) [] h) : Met l zl_n zl_ws (am_rm zl_m h h1) (am_Pc D ca base KV sc as h) (am_Qc D ca base KV sc v h1) (h1.2.1 - h.2.1) (h1.2.2.1 - h.2.2.1) (fun q => base ≤ q) := by
  refine zl_met (cc := method_3_code) (maxL := 5) (ret := some .int) (hh := [(0, 10, 13, 13)]) (ws' := am_lwg) (by decide +kernel) rfl ?_
  intro p e s m args below meth c s₁ B hml hv
  obtain ⟨rfl, hR, hK, hG, hwf⟩ := hv
  have hts := atoms_spec (ws := zl_ws) B.pre
  have C : am_Cx p (am_rm zl_m h h1) s m (as.map (am_cv base KV)).toArray meth c D ca base KV sc zl_m :=
    ⟨B.exec, B.bytes, hml, findClass_of_methodNamed B.named, fun w hw => hts w (List.mem_cons_of_mem _ hw), hK, hG, B.returns, B.notSynchronized, fun q => by rw [(name_of_methodNamed B.named B.method).1]; exact q, Nat.le_refl _, Nat.le_refl _⟩
  have htb : c.exceptionTable.toList = tableOf [(0, 10, 13, 13)] := vx_table (x := zl_n) B (hts _ List.mem_cons_self)
  have hret : am_Ret p l e (am_rm zl_m h h1) s m (as.map (am_cv base KV)).toArray below meth c (MQ below (am_Qc D ca base KV sc v h1) (as.map (am_cv base KV)).toArray s (h1.2.1 - h.2.1) (h1.2.2.1 - h.2.2.1) (fun q => base ≤ q)) D ca base KV h.2.1 h.2.2.1 sc zl_m v h1 := by
    intro H locs lc pc hR1 hS1
    refine ⟨fun hv hd hr => ?_, fun x ty hv hd hr hn hx => ?_⟩
    · subst hv
      exact W.vret B.exec B.bytes (B.returns.trans hr) (fun t ht _ => ⟨rfl, by rw [ht]; exact hR1, hS1.F ht, fun x q => by cases q⟩) (fun q hq => hS1.2.2 q hq) hd B.notSynchronized
    · subst hv
      exact W.zret B.exec B.bytes (B.returns.trans hr) hn (fun t ht _ => ⟨rfl, by rw [ht]; exact hR1, hS1.F ht, fun y q => by cases q; exact hx⟩) (fun q hq => hS1.2.2 q hq) hd B.notSynchronized
  have kk := key p e s m _ below meth c _ C htb hret
  rw [lg_entry_eq]
  have k2 := kk (am_pad_wf hwf _) (fun v hv => by cases hv) s.heap [] _ hR va_S.rf (by rw [hml]; exact am_entry C.kv as hlen)
  rw [Nat.sub_self, Nat.sub_self] at k2
  exact k2
/-- hasZone -/
theorem zl_has {h : am_H} {d a n : Nat} {f : Nat → Int} {fs : List am_V} (hd : h.1 d = am_ob 1 fs) (hf : fs[0]? = some (am_R a)) (ha : h.1 a = am_ar 0 n f) (hn : 0 < n) (z : Int) : am_Mt l D ca base KV sc am_m64 [am_R d, am_I z] h (some (am_I (if 0 ≤ z ∧ z < f 0 then 1 else 0))) h := by
  refine zl_mk ow_64 (Nat.le_refl 2) ?_
  intro p e s mi args below meth c Q C hret
  have no : am_Wt p l e (am_rm am_m64 h h) s mi args below meth c Q D ca base KV h.2.1 h.2.2.1 sc 18 [am_R d, am_I z] [] h ∨ (0 ≤ z ∧ z < f 0) := by
    by_cases e : 0 ≤ z ∧ z < f 0
    · exact Or.inr e
    · left
      rw [if_neg e] at hret
      refine am_s_iconst C zf_18 ⟨by omega, by omega⟩ ?_
      intro wl ws H locs lc hR hS hL
      exact (hret H locs lc 19 hR hS).2 0 .boolean rfl zf_19 rfl rfl ⟨by omega, by omega⟩
  refine am_s_iload_n C (k := 1) (x := z) zf_0 rfl ?_
  refine am_s_if C (cn := .lt) (off := 17) zf_1 (by decide) (fun hc => ?_) (fun hc => ?_)
  · have hz : z < 0 := of_decide_eq_true hc
    rcases no with k | k
    · exact k
    · omega
  · have hz : ¬ z < 0 := of_decide_eq_false hc
    refine am_s_iload_n C (k := 1) (x := z) zf_4 rfl ?_
    refine am_s_aload_n C (k := 0) (x := d) zf_5 rfl ?_
    refine am_s_getf C (ci := 1) (k := 0) (q := 1146) zf_6 (by decide) rfl rfl hd hf ?_
    refine am_s_iconst C zf_9 ⟨by omega, by omega⟩ ?_
    refine am_s_iald C zf_10 ha (by omega) (by omega) ?_
    refine am_s_icmp C (cn := .ge) (off := 7) zf_11 (by decide) (fun hc => ?_) (fun hc => ?_)
    · have hz2 : f (0 : Int).toNat ≤ z := of_decide_eq_true hc
      have hz3 : f 0 ≤ z := hz2
      rcases no with k | k
      · exact k
      · omega
    · have hz2 : ¬ f (0 : Int).toNat ≤ z := of_decide_eq_false hc
      have hz3 : ¬ f 0 ≤ z := hz2
      rw [if_pos ⟨by omega, by omega⟩] at hret
      refine am_s_iconst C zf_14 ⟨by omega, by omega⟩ ?_
      refine am_s_goto C (off := 4) zf_15 (by decide) ?_
      intro wl ws H locs lc hR hS hL
      exact (hret H locs lc 19 hR hS).2 1 .boolean rfl zf_19 rfl rfl ⟨by omega, by omega⟩
/-- what the class's zone leaves where it throws -/
def zl_X (D : va_G) (ca : Nat → ClassId) (base : Nat) (KV : Nat → Value) (sc : Nat × (Nat → Int)) (h : am_H) : String → State → State → Prop := fun E st t => E = "java/util/NoSuchElementException" ∧ am_Rep D ca base KV sc (am_push h am_no 6) t.heap ∧ va_F (fun q => base ≤ q) st t
theorem zl_zk {h : am_H} {x : Nat} {z w : Int} {b : Bool} (hz : am_zk h x z w = some b) : ∃ (d a n : Nat) (f : Nat → Int) (fs gs : List am_V), h.1 x = am_ob 8 fs ∧ fs[4]? = some (am_R d) ∧ h.1 d = am_ob 1 gs ∧ gs[0]? = some (am_R a) ∧ h.1 a = am_ar 0 n f ∧ 0 < n ∧ b = decide (0 ≤ z ∧ z < f 0 ∧ 0 ≤ w ∧ w ≤ 7) := by
  unfold am_zk at hz
  obtain ⟨d, e1, e2⟩ := Option.bind_eq_some_iff.mp hz
  obtain ⟨a, e3, e4⟩ := Option.bind_eq_some_iff.mp e2
  obtain ⟨nn, e5, e6⟩ := Option.bind_eq_some_iff.mp e4
  obtain ⟨fs, f1, f2⟩ := am_gfR_inv e1
  obtain ⟨gs, g1, g2⟩ := am_gfR_inv e3
  obtain ⟨n, f, k1, k2, k3, k4⟩ := am_rd_inv e5
  subst k4
  exact ⟨d, a, n, f, fs, gs, f1, f2, g1, g2, k1, by omega, (Option.some.inj e6).symm⟩
/-- the class's zone, where it throws -/
theorem zl_thr (hl : l.stackTraces = false) {h : am_H} {x : Nat} {z w : Int} (hz : am_zk h x z w = some false) : vx_Met l zl_t.1 (am_wsm zl_t) (am_rm zl_t h (am_push h am_no 6)) (am_Pc D ca base KV sc [am_R x, am_I z, am_I w] h) (fun _ _ _ _ => False) (zl_X D ca base KV sc h) ((am_push h am_no 6).2.1 - h.2.1) ((am_push h am_no 6).2.2.1 - h.2.2.1) (fun q => base ≤ q) := by
  obtain ⟨d, a, n, f, fs, gs, f1, f2, g1, g2, k1, hn, hb⟩ := zl_zk hz
  have hb' := of_decide_eq_false hb.symm
  have eN : (am_push h am_no 6).2.1 - h.2.1 = 1 := by show h.2.1 + 1 - h.2.1 = 1; omega
  have eS : (am_push h am_no 6).2.2.1 - h.2.2.1 = 6 := by show h.2.2.1 + 6 - h.2.2.1 = 6; omega
  refine vx_ofW (cc := zl_t.2.1) (maxL := zl_t.2.2.1) (ret := zl_t.2.2.2.1) zl_own.1 rfl ?_
  intro p e s m args below meth c s₁ B hml htb hv
  obtain ⟨rfl, hR, hK, hG, hwf⟩ := hv
  have hts := atoms_spec (ws := am_wsm zl_t) B.pre
  have C : am_Cx p (am_rm zl_t h (am_push h am_no 6)) s m ([am_R x, am_I z, am_I w].map (am_cv base KV)).toArray meth c D ca base KV sc zl_t :=
    ⟨B.exec, B.bytes, hml, findClass_of_methodNamed B.named, fun w hw => hts w (List.mem_cons_of_mem _ hw), hK, hG, B.returns, B.notSynchronized, fun q => by rw [(name_of_methodNamed B.named B.method).1]; exact q, Nat.le_refl _, Nat.le_refl _⟩
  have thr : am_Wt p l e (am_rm zl_t h (am_push h am_no 6)) s m ([am_R x, am_I z, am_I w].map (am_cv base KV)).toArray below meth c (vx_MQ below (fun _ _ _ _ => False) (zl_X D ca base KV sc h) ([am_R x, am_I z, am_I w].map (am_cv base KV)).toArray s ((am_push h am_no 6).2.1 - h.2.1) ((am_push h am_no 6).2.2.1 - h.2.2.1) (fun q => base ≤ q)) D ca base KV h.2.1 h.2.2.1 sc 21 [am_R x, am_I z, am_I w] [] h := by
    intro wl ws H locs lc hR1 hS1 hL1
    have c0 : h.2.1 - h.2.1 = 0 := Nat.sub_self _
    have s0 : h.2.2.1 - h.2.2.1 = 0 := Nat.sub_self _
    rw [c0, s0]
    refine am_throw0 (own := "ZoneLedger") (cls := "java/util/NoSuchElementException") (names := ["java/lang/RuntimeException", "java/lang/Exception"]) (ik := 144) (ic := 146) (A := fun q => base ≤ q) C.1 C.2.1 hl C.2.2.2.1 (by decide +kernel) (by decide +kernel) (C.word (q := 5113) rfl rfl) (C.word (q := 1022) rfl rfl) (fun w hw => (zl_at w hw).elim (C.2.2.2.2.1 w) (fun q => zl_wd C q.1 q.2)) ?_ C.2.2.2.2.2.2.1.2.2.2.2.2.2.2.2.2.2.2.1 C.2.2.2.2.2.2.1.2.2.2.2.2.2.2.2.2.2.2.2 hS1 hL1.1 ze_21 ze_24 ze_25 ze_28 (fun x hx => (htb x hx).elim) (by show 2 + 3 < 7; omega) (by show 0 + (13 * (2 + 1) + 42) ≤ 150; omega) ?_ ?_ C.2.2.2.2.2.2.2.2.1 ?_ (fun q hq => hS1.2.2 q hq) ?_ ?_
    · intro w hw
      rcases List.mem_cons.mp hw with rfl | hw
      · rfl
      · rcases List.mem_cons.mp hw with rfl | hw
        · rfl
        · exact zl_ot (zl_at w hw)
    · show 0 + 1 ≤ (am_push h am_no 6).2.1 - h.2.1
      omega
    · show 0 + 6 ≤ (am_push h am_no 6).2.2.1 - h.2.2.1
      omega
    · intro t hA hsz hq
      refine ⟨rfl, hR1.push trivial trivial hsz hq, ?_⟩
      exact ⟨Nat.le_trans hS1.1 (by omega), fun q h1 h2 => by rw [hq q (Nat.lt_of_lt_of_le h1 hS1.1)]; exact hS1.2.1 q h1 h2⟩
    · omega
    · omega
  have key : am_Wt p l e (am_rm zl_t h (am_push h am_no 6)) s m ([am_R x, am_I z, am_I w].map (am_cv base KV)).toArray below meth c (vx_MQ below (fun _ _ _ _ => False) (zl_X D ca base KV sc h) ([am_R x, am_I z, am_I w].map (am_cv base KV)).toArray s ((am_push h am_no 6).2.1 - h.2.1) ((am_push h am_no 6).2.2.1 - h.2.2.1) (fun q => base ≤ q)) D ca base KV h.2.1 h.2.2.1 sc 0 (am_pad 3 [am_R x, am_I z, am_I w]) [] h := by
    refine am_s_aload_n C (k := 0) (x := x) ze_0 rfl ?_
    refine am_s_getf C (ci := 8) (k := 4) (q := 2041) ze_1 (by decide) rfl rfl f1 f2 ?_
    refine am_s_iload_n C (k := 1) (x := z) ze_4 rfl ?_
    refine am_s_callV C (z := am_m64) (rk := 1) (idx := 140) (n := 1) (q1 := 3210) (q2 := 3043) (q3 := 3044) (ci := 1) (b := d) (As := [am_I z]) (rest := []) ze_5 ow_64 (by decide +kernel) (by decide +kernel) rfl rfl rfl rfl g1 rfl (zl_has g1 g2 k1 hn z) (by decide) ⟨Nat.le_refl _, Nat.le_refl _⟩ (Nat.le_refl _) (Nat.le_refl _) (by omega) (by omega) ?_
    refine am_s_if C (cn := .eq) (off := 13) ze_8 (by decide) (fun _ => thr) (fun hc => ?_)
    have hc2 : ¬ (if 0 ≤ z ∧ z < f 0 then (1 : Int) else 0) = 0 := of_decide_eq_false hc
    have hz2 : 0 ≤ z ∧ z < f 0 := by
      by_cases q : 0 ≤ z ∧ z < f 0
      · exact q
      · rw [if_neg q] at hc2; exact absurd rfl hc2
    refine am_s_iload_n C (k := 2) (x := w) ze_11 rfl ?_
    refine am_s_if C (cn := .lt) (off := 9) ze_12 (by decide) (fun _ => thr) (fun hc3 => ?_)
    have hw0 : ¬ w < 0 := of_decide_eq_false hc3
    refine am_s_iload_n C (k := 2) (x := w) ze_15 rfl ?_
    refine am_s_bipush C ze_16 (by omega) (by omega) ?_
    refine am_s_icmp C (cn := .le) (off := 11) ze_18 (by decide) (fun hc4 => ?_) (fun _ => thr)
    have hw7 : w ≤ 7 := of_decide_eq_true hc4
    exact absurd ⟨hz2.1, hz2.2, by omega, hw7⟩ hb'
  rw [lg_entry_eq]
  have k2 := key (am_pad_wf hwf _) (fun v hv => by cases hv) s.heap [] _ hR va_S.rf (by rw [hml]; exact am_entry C.kv _ (Nat.le_refl 3))
  rw [Nat.sub_self, Nat.sub_self] at k2
  exact k2
end ZLM
