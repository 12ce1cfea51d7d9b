/-! Throwing: what a method that throws leaves behind; 'new X(); athrow' of the class; the words for it. -/
abbrev xS : String := "java/lang/IllegalStateException"
abbrev xI : String := "java/lang/IllegalArgumentException"
abbrev upN : List String := ["java/lang/RuntimeException", "java/lang/Exception"]
def xn (k : Nat) : String := if k = 0 then xS else xI
/-- the words that speak of the heap, or don't ride over warmer tables by themselves -/
def badL : List Cond := [.laysStatic Bundle.tN "UNASSIGNED_STACK" Bundle.steD, .laysStatic Bundle.tN "SUPPRESSED_SENTINEL" Bundle.listD, .isRef (.static Bundle.tN "UNASSIGNED_STACK" Bundle.steD), .isRef (.static Bundle.tN "SUPPRESSED_SENTINEL" Bundle.listD), .castable xS xS, .castable xI xI, .declares (Bundle.init0 "java/lang/RuntimeException"), .declares (Bundle.init0 "java/lang/Exception"), .declares (Bundle.init0 Bundle.tN), .not (.castable xS xI)]
def stW (U : State) : Prop := ∀ c ∈ badL, c.before #[] U = true
theorem lays_old {s U : State} {C n d : String} {A A' : Array Value} (hvm : s.vm.Alike U.vm) (hh : ∀ a, a < s.heap.size → U.heap[a]? = s.heap[a]?) (h : (Cond.laysStatic C n d).before A s = true) : (Cond.laysStatic C n d).before A' U = true := by
  have h1 := Cond.laysStatic_setVm hvm h
  obtain ⟨c, k, i, f, a, cell, hc, hi, hst, ha, hcell, hs, hcls, hlt, hty⟩ := Cond.laysStatic_spec h1
  have hcell' : s.heap[a]? = some cell := hcell
  exact Cond.laysStatic_of (s := U) hc hi hst ha (by rw [hh a (Array.getElem?_eq_some_iff.mp hcell').1]; exact hcell') hs hcls hlt hty
theorem isref_old {s U : State} {C n d : String} {A A' : Array Value} (hvm : s.vm.Alike U.vm) (hh : ∀ a, a < s.heap.size → U.heap[a]? = s.heap[a]?) (hl : (Cond.laysStatic C n d).before A s = true) (h : (Cond.isRef (.static C n d)).before A s = true) : (Cond.isRef (.static C n d)).before A' U = true := by
  cases hv : (Term.static C n d).eval A s none [] s with
  | none => simp [Cond.before, Cond.holds, Cond.value, hv] at h
  | some w =>
    obtain ⟨c, k, i, f, a, cell, hc, hi, hst, ha, hcell, hs, hcls, hlt, hty⟩ := Cond.laysStatic_spec hl
    obtain ⟨hst', a', cell', ha', hcell', hiss, hslot⟩ := Term.static_spec hi hv
    cases ha.symm.trans ha'
    cases hcell.symm.trans hcell'
    obtain ⟨k', hi', he⟩ := State.fieldFound?_setVm hvm hi
    have hi2 : U.fieldFound? C n d = some (c, k', i, f) := hi'
    have hU : (Term.static C n d).eval A' U none [] U = some w := Term.static_eval hi2 hst' (by rw [he]; exact ha') (by rw [hh a (Array.getElem?_eq_some_iff.mp hcell').1]; exact hcell') hs hslot
    simp only [Cond.before, Cond.holds, Cond.value, hv] at h
    simp only [Cond.before, Cond.holds, Cond.value, hU]
    exact h
theorem stW_old {s U : State} (hW : s.WarmedH U.vm) (hh : ∀ a, a < s.heap.size → U.heap[a]? = s.heap[a]?) (h : stW s) : stW U := by
  intro c hc
  have a1 := h _ (List.mem_of_getElem? (i := 0) rfl)
  have a2 := h _ (List.mem_of_getElem? (i := 1) rfl)
  have a3 := h _ (List.mem_of_getElem? (i := 2) rfl)
  have a4 := h _ (List.mem_of_getElem? (i := 3) rfl)
  have a5 := h _ (List.mem_of_getElem? (i := 4) rfl)
  have a6 := h _ (List.mem_of_getElem? (i := 5) rfl)
  have a7 := h _ (List.mem_of_getElem? (i := 6) rfl)
  have a8 := h _ (List.mem_of_getElem? (i := 7) rfl)
  have a9 := h _ (List.mem_of_getElem? (i := 8) rfl)
  have a10 := h _ (List.mem_of_getElem? (i := 9) rfl)
  simp only [badL, List.mem_cons, List.not_mem_nil, or_false] at hc
  rcases hc with rfl | rfl | rfl | rfl | rfl | rfl | rfl | rfl | rfl | rfl
  · exact lays_old hW.alike hh a1
  · exact lays_old hW.alike hh a2
  · exact isref_old hW.alike hh a1 a3
  · exact isref_old hW.alike hh a2 a4
  · exact va_Nw.warmC hW a5
  · exact va_Nw.warmC hW a6
  · exact va_Nw.warmD hW a7
  · exact va_Nw.warmD hW a8
  · exact va_Nw.warmD hW a9
  · exact Cond.castAtom_setVm hW.alike _ rfl a10
theorem bad_args {c : Cond} (hc : c ∈ badL) {A : Array Value} {U : State} (h : c.before #[] U = true) : c.before A U = true := by
  simp only [badL, List.mem_cons, List.not_mem_nil, or_false] at hc
  rcases hc with rfl | rfl | rfl | rfl | rfl | rfl | rfl | rfl | rfl | rfl
  · exact h
  · exact h
  · exact h
  · exact h
  · exact va_Nw.use rfl h
  · exact va_Nw.use rfl h
  · exact va_Nw.use rfl h
  · exact va_Nw.use rfl h
  · exact va_Nw.use rfl h
  · exact h
/-- what a throw leaves: an object of the class, new -/
def xQ (cls : String) (s : State) (x : Addr) (t : State) : Prop := ∃ ce : Cell, t.heap[x]? = some ce ∧ ce.vm = .none ∧ s.vm.findClass cls = some ce.cls ∧ s.vm.assignable ce.cls ce.cls = true ∧ s.heap.size ≤ x
def XQ (below : List Frame) (cls : String) (s : State) (mc ms : Nat) : State → Prop := fun t =>
  ∃ x, t.status = .running ∧ Ended t below (.threw x) ∧ xQ cls s x t ∧ s.WarmedH t.vm ∧ s.sameButNew ({ t with vm := s.vm } : State) [] mc ms
def MetX (l : Launch) (y : MethodName) (ws : List Cond) (rm : Room) (Pc : Array Value → State → Prop) (cls : String) (mc ms : Nat) : Prop :=
  MetFree l y (headSpec ws rm) Pc (fun _ _ _ _ _ => True) (fun _ st o t => ∃ x, o = .threw x ∧ xQ cls st x t ∧ st.WarmedH t.vm ∧ st.sameButNew ({ t with vm := st.vm } : State) [] mc ms)
theorem MetX.ofW {l : Launch} {y : MethodName} {ws ws' : List Cond} {rm : Room} {Pc : Array Value → State → Prop} {cls : String} {mc ms : Nat} {cc : ByteArray} {maxL : Nat} {ret : Option FieldType}
    (hy : plainName y.cls = true) (hw : ws = Cond.code y cc maxL ret :: ws')
    (body : ∀ p e s m args below meth c s₁, BodyLoose p l y (headSpec ws rm) cc maxL ret e s m args below meth c s₁ → c.maxLocals = maxL → Pc args s →
      W p l e (headSpec ws rm).room s m args below meth c s.heap [] 0 0 (XQ below cls s mc ms) (entryFrame m args maxL)) : MetX l y ws rm Pc cls mc ms := by
  refine MetFree.of_bodyS (code := cc) (maxLocals := maxL) (ret := ret) hy ?_ ?_
  · intro args s m h hn
    obtain ⟨meth, c, h1, h2, h3, h4, h5, h6, -, -⟩ := Cond.code_spec hn (atoms_spec (ws := ws) h _ (by rw [hw]; exact List.mem_cons_self))
    exact ⟨meth, c, h1, h2, h3, h4, h5, h6⟩
  · intro p e s m args below meth c s₁ B hml hP _
    have hh0 : s₁.heap = s.heap := by rw [B.state]; rfl
    obtain ⟨t, a1, x, b1, b2, b3⟩ := body p e s m args below meth c s₁ B hml hP s₁ hh0 (Stand.of_body B)
    exact ⟨t, .threw x, a1, b1, b2, x, rfl, b3⟩
theorem tr_off {l : Launch} {e : Env} (ha : l.admits e) (h : l.stackTraces = false) : e.platform.stackTraces = false := by
  rw [ha.platform]; exact h
section Throws
variable {p : Program} {l : Launch} {e : Env} {R : Room} {s : State} {m : MethodId} {args : Array Value} {below : List Frame} {meth : Method} {c : Code} {H : Heap} {locs : List Loc} {cells slots : Nat} {Q : State → Prop}
/-- new X(); athrow: the method throws, nothing that was there has changed -/
theorem W_throw0 {cc : ByteArray} {pc : Nat} {ls : Array Slot} {st : List Value} {own cls : String} {names : List String} {ia ic : Nat}
    (hx : p.tables.exec = Jvm.exec) (hb : c.code = cc) (htr : l.stackTraces = false) (hsz : ls.size = c.maxLocals) (hlocks : meth.locks = false) (hex : c.exceptionTable.isEmpty = true)
    (hown : s.vm.findClass own = some m.cls) (hcls : Bundle.fit cls = true) (hnames : ∀ n ∈ names, Bundle.fit n = true) (h : ∀ a ∈ Bundle.ownAtoms0 own ic cls names, a.before args s = true)
    (hclink : (Cond.classLink own ia cls).before args s = true) (hini : (Cond.initialized cls).before args s = true)
    (hd0 : decode cc pc = .ok (.new ia, 3)) (hd3 : decode cc (pc + 3) = .ok (.dup, 1)) (hd4 : decode cc (pc + 4) = .ok (.invokespecial ic, 3)) (hd7 : decode cc (pc + 7) = .ok (.athrow, 1))
    (hc : cells + 1 ≤ R.cells) (hs : slots + 6 ≤ R.slots) (hf : names.length + 3 < R.frames) (hlo : 1 + (st.map fun v => v.category).sum + (13 * (names.length + 1) + 41) ≤ R.locals)
    (hS : va_S (fun q => s.heap.size ≤ q) s.heap H locs) {mc ms : Nat} (hmc : cells + 1 ≤ mc) (hms : slots + 6 ≤ ms) :
    W p l e R s m args below meth c H locs cells slots (XQ below cls s mc ms) (F0 m pc ls st) := by
  refine va_forget hS.2.2 ?_
  intro T hT X
  have hins : (Cond.instantiable cls 6).before args s = true := h _ (by simp [Bundle.ownAtoms0])
  obtain ⟨vm₁, cX, kX, hfX, hkX, -, -, X₁, st1⟩ := X.newCold hx hown hclink hins hini (g := F0 m pc ls st) rfl (by rw [hb]; exact hd0) hc hs
  generalize hT1 : (T.setVm vm₁).pushCell { cls := cX, slots := kX.instanceTypes.map defaultValue, vm := .none } = T1 at X₁ st1
  have hcellA : T1.heap[T.heap.size]? = some (freshCell cX kX) := by rw [← hT1]; exact State.heap_pushCell_size _ _
  have hle : s.heap.size ≤ T.heap.size := by rw [hT]; exact hS.1
  obtain ⟨U, hsteps, hrun, hend, hW, hsame, ce, hce, K⟩ := X₁.ctorThrow0 hx (tr_off X.admits htr) hown hcls hnames h (fun y hy => by cases hy) hfX hkX hcellA hle
    (g := F0 m (pc + 4) ls (.ref T.heap.size :: .ref T.heap.size :: st)) rfl hsz rfl rfl (rest := st) rfl (by rw [hb]; exact hd4) (by rw [hb]; exact hd7) (covers_of_empty hex _) hf
    (by show 2 * 0 + _ + _ ≤ _; simp only [List.map_cons, List.sum_cons]; show 2 * 0 + (1 + _) + _ ≤ _; omega)
  refine ⟨U, ?_, T.heap.size, hrun, hend, ⟨ce, hce, K.vm, K.cls, K.self, hle⟩, hW, hsame.mono hmc hms⟩
  refine st1 _ ?_
  show Steps p.tables e below (T1.setTop (F0 m (pc + 3) ls (.ref T.heap.size :: st))) U
  jvm_step X₁.here [X₁.here.top, hx, hb, hd3, Value.category]
  exact hsteps
end Throws
theorem om_0 : ∀ a ∈ Bundle.ownAtoms0 R_O 79 xS upN, a ∈ tb ∨ a ∈ badL := by decide +kernel
theorem ow_0 {args : Array Value} {s : State} (htb : ∀ w ∈ tb, w.before args s = true) (hZ : stW s) : ∀ a ∈ Bundle.ownAtoms0 R_O 79 xS upN, a.before args s = true := fun a ha => (om_0 a ha).elim (htb a) (fun h => bad_args h (hZ a h))
theorem om_1 : ∀ a ∈ Bundle.ownAtoms0 R_O 90 xI upN, a ∈ tb ∨ a ∈ badL := by decide +kernel
theorem ow_1 {args : Array Value} {s : State} (htb : ∀ w ∈ tb, w.before args s = true) (hZ : stW s) : ∀ a ∈ Bundle.ownAtoms0 R_O 90 xI upN, a.before args s = true := fun a ha => (om_1 a ha).elim (htb a) (fun h => bad_args h (hZ a h))
