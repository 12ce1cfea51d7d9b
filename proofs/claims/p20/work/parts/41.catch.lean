/-! A call that throws, caught in the caller's own frame. -/
theorem same_nil {s t : State} {k n : Nat} (h : s.sameButNew t [] k n) : ∀ q, q < s.heap.size → t.heap[q]? = s.heap[q]? := by
  intro q hq
  obtain ⟨-, -, -, -, -, h6⟩ := h
  obtain ⟨cell, hc⟩ : ∃ cell, s.heap[q]? = some cell := ⟨s.heap[q], by simp [hq]⟩
  obtain ⟨c', h1, h2, h3, h4⟩ := h6 q cell hc
  have e : c'.slots = cell.slots := by
    apply Array.ext'
    apply List.ext_getElem?
    intro i
    have := h4 i (by simp)
    simpa [Array.getElem?_toList] using this
  rw [h1, hc, h2, e]
section Caught
variable {p : Program} {l : Launch} {e : Env} {R : Room} {s : State} {m : MethodId} {args : Array Value} {below : List Frame} {meth : Method} {c : Code} {H : Heap} {locs : List Loc} {cells slots : Nat} {Q : State → Prop}
theorem W_callX {cc bytes : ByteArray} {pc nL n index maxL : Nat} {ls : Array Slot} {own C cls : String} {y : MethodName} {ret : Option FieldType} {ws : List Cond} {rm : Room} {Pc : Array Value → State → Prop} {Ts : List Cond} {b : Addr} {As rest : List Value}
    (S : CallFix p m c cc nL s args Ts own) (hM : MetX l y ws rm Pc cls 1 6) (cw : CallW R s args own C index y bytes maxL ret ws rm 1 6 n) (hp : PreV s H C b Pc As)
    (hn : As.length = n) (hsize : ls.size = nL) (hdg : decode cc pc = .ok (.invokevirtual index, 3)) (hW8 : (rest.map fun v => v.category).sum ≤ 8) (hf : cells + 1 ≤ R.cells ∧ slots + 6 ≤ R.slots)
    (pre : List ExceptionTableEntry) (x : ExceptionTableEntry) (post : List ExceptionTableEntry) (hsplit : c.exceptionTable.toList = pre ++ x :: post) (hcov : covers x pc = true) (h0 : x.catchType ≠ 0) (hlink : (Cond.classLink own x.catchType cls).before args s = true)
    (hpass : ∀ z ∈ pre, z.catchType ≠ 0 ∧ ∃ name, (Cond.classLink own z.catchType name).before args s = true ∧ (Cond.not (.castable cls name)).before args s = true)
    (kk : ∀ (a : Nat) (H1 : Heap), H.size ≤ H1.size → (∀ q : Nat, q < H.size → H1[q]? = H[q]?) → W p l e R s m args below meth c H1 locs (cells + 1) (slots + 6) Q (F0 m x.handlerPc ls [.ref a])) :
    W p l e R s m args below meth c H locs cells slots Q (F0 m pc ls (As.reverse ++ .ref b :: rest)) := by
  obtain ⟨hx, hb, hml, hown, hts⟩ := S
  obtain ⟨⟨hrc, hrs, hfr1, hlo1, hws, hcin, hcode, hini, hy, hpl, hlk⟩, hinst, hsel⟩ := cw
  obtain ⟨hblind, ⟨cellB, hcB, hobjB, hclsB⟩, hpay⟩ := hp
  intro T hT X
  obtain ⟨mk, methM, hnamed, hmethM, hstM, habM⟩ := Cond.instanceMethod_spec hinst
  obtain ⟨methM', cM, hmethM', hcM, -, hlM, -, -, -, hsigM⟩ := Cond.code_spec hnamed hcode
  cases hmethM.symm.trans hmethM'
  obtain ⟨c2, r2, m2, q1, q2, q3, q4, kP, hkP, hkPi⟩ := Cond.selects_spec hsel
  cases hclsB.symm.trans q1
  cases (State.methodFound?_of_named hnamed hy).symm.trans q2
  cases hnamed.symm.trans q3
  have hselP : selectMethod e.platform s.vm cellB.cls mk = .method mk := by rw [Launch.admits_selectMethod X.admits]; exact q4
  obtain ⟨vm₁, X₁, hstep₁⟩ := X.invokevirtual hx hown hlk hnamed hmethM hstM hkP hkPi hy (a := b) (cell := cellB) (by rw [hT]; exact hcB)
    (fun z h => by rw [h] at hobjB; cases hobjB) hselP hmethM habM hkP hkPi (g := F0 m pc ls (As.reverse ++ .ref b :: rest)) rfl (argsL := As) (rest := rest) (by rw [hn]; exact hpl _ hsigM) rfl (by rw [hb]; exact hdg)
  generalize hU : T.setVm vm₁ = U at X₁ hstep₁
  have hUh : U.heap = H := by rw [← hU]; exact hT
  have hn' : U.methodNamed? y = some mk := X₁.named hnamed
  have h : At U (F0 m pc ls rest).method c below := X₁.here
  have hdg' : decode c.code (F0 m pc ls rest).pc = .ok (.invokevirtual index, 3) := by rw [hb]; exact hdg
  obtain ⟨methY, cY, hmY, hcY, -, hlY, -, -, -, -⟩ := Cond.code_spec hn' (hws _ hcin #[] U X₁.warmed)
  obtain ⟨kY, hkY, -⟩ := className_of_methodNamed hn'
  have hinitY : kY.init = .initialized := Cond.initialized_spec (findClass_of_methodNamed hn') hkY (word_at (a' := #[]) X₁.warmed (Or.inl rfl) hini)
  have e9 : ((F0 m pc ls rest).stack.map fun v => v.category).sum ≤ 8 := hW8
  have happ : (headSpec ws rm).appliesLoose y e.platform (U.calling (F0 m pc ls rest) mk (Value.ref b :: As).toArray) = true :=
    Spec.appliesLoose_calling (g := F0 m pc ls rest) h hdg' hn' hkY hinitY
      (X₁.room_calling (g := F0 m pc ls rest) (R' := rm) (by rw [hml]; exact hsize) hmY hcY hfr1 (by rw [hlY]; show 2 * 0 + _ + _ + _ ≤ _; omega) (by rw [hrc]; exact hf.1) (by rw [hrs]; exact hf.2)) (atoms_intro fun w hw => hws w hw _ _ X₁.warmed)
  obtain ⟨mid, hmid⟩ := h.above
  have hfr : (U.setTop (F0 m pc ls rest)).frames = (.java (F0 m pc ls rest) :: mid) ++ below := by rw [State.frames_setTop' _ h.top, hmid]; rfl
  have hPc := hpay U hUh X₁.warmed
  obtain ⟨o, s₂, hsteps, -, hend, xa, rfl, hxq, hW₂, hsame⟩ := Steps.callFree hM p X₁.admits X₁.cas X₁.clock (acts := []) hfr happ (hblind _ _ _ _ hPc) trivial
  rw [State.frames_setTop' _ h.top, X₁.tail] at hend
  obtain ⟨T', X', hWT, hsT, ht⟩ := X₁.outOfThrown (g := F0 m pc ls rest) rfl hend hW₂ hsame
  obtain ⟨ce, hce, hvmE, hfc, hasg, hnew⟩ := hxq
  have hTh : T'.heap = s₂.heap := by rw [ht]; exact (Stand.throwing_heap T' (F0 m pc ls rest) xa).symm
  have hkeep : ∀ q, q < H.size → T'.heap[q]? = H[q]? := fun q hq => by
    have := same_nil hsT q (by rw [hUh]; exact hq)
    rw [hUh] at this
    exact this
  have hcls' : s.vm.findClass cls = some ce.cls := by
    have : U.vm.findClass cls = some ce.cls := hfc
    rw [X₁.warmed.alike.findClass] at this
    exact this
  have hasg' : s.vm.assignable ce.cls ce.cls = true := by
    have : U.vm.assignable ce.cls ce.cls = true := hasg
    rw [X₁.warmed.alike.assignable] at this
    exact this
  obtain ⟨hcatch, hk0⟩ := X'.catches_of_link hown (x := x) h0 hlink hcls' hasg'
  have hplat : e.platform.magicAccessors = ({} : Platform).magicAccessors := by rw [X.admits.platform]
  obtain ⟨vm', XV, st⟩ := X'.caughtThrough xa (g := F0 m pc ls rest) rfl (cell := ce) (by rw [hTh]; exact hce) (by rw [hvmE]; rfl) hk0 pre x post hsplit
    (fun z hz => by
      obtain ⟨z0, name, zl, zn⟩ := hpass z hz
      exact RowPassed.of_words hplat hown z0 zl hcls' zn) hcov hcatch
  rw [List.append_nil] at XV
  obtain ⟨t, a1, b1⟩ := kk xa T'.heap (by
    have := hsT.2.1
    rw [hUh] at this
    exact this) hkeep (T'.setVm vm') rfl XV
  refine ⟨t, hstep₁ _ fun acts => ?_, b1⟩
  rw [doInvoke_state]
  refine hsteps.trans ?_
  rw [ht, X'.pushThrowing_eq]
  exact st _ a1
end Caught
theorem tab1 {l : List ExceptionTableEntry} {a b h t : Nat} (e : l.map (fun h => (h.startPc, h.endPc, h.handlerPc, h.catchType)) = [(a, b, h, t)]) : ∃ x, l = [] ++ x :: [] ∧ x.startPc = a ∧ x.endPc = b ∧ x.handlerPc = h ∧ x.catchType = t := by
  match l, e with
  | [x], e =>
    simp only [List.map_cons, List.map_nil, List.cons.injEq, Prod.mk.injEq, and_true] at e
    exact ⟨x, rfl, e.1, e.2.1, e.2.2.1, e.2.2.2⟩
theorem tab2 {l : List ExceptionTableEntry} {a b h t a' b' h' t' : Nat} (e : l.map (fun h => (h.startPc, h.endPc, h.handlerPc, h.catchType)) = [(a, b, h, t), (a', b', h', t')]) : ∃ x y, l = x :: y :: [] ∧ (x.startPc = a ∧ x.endPc = b ∧ x.handlerPc = h ∧ x.catchType = t) ∧ y.startPc = a' ∧ y.endPc = b' ∧ y.handlerPc = h' ∧ y.catchType = t' := by
  match l, e with
  | [x, y], e =>
    simp only [List.map_cons, List.map_nil, List.cons.injEq, Prod.mk.injEq, and_true] at e
    exact ⟨x, y, rfl, ⟨e.1.1, e.1.2.1, e.1.2.2.1, e.1.2.2.2⟩, e.2.1, e.2.2.1, e.2.2.2.1, e.2.2.2.2⟩
/-! What the law's own methods stand on. -/
abbrev R_L : String := "ReelOfficeLaw"
def wdW (y : MethodName) (b : ByteArray) (n : Nat) (r : Option FieldType) (hh : List (Nat × Nat × Nat × Nat)) : List Cond := .codeWith y b n r hh :: tb
theorem goodX {y2 : MethodName} {b2 : ByteArray} {n2 : Nat} {r2 : Option FieldType} {hh : List (Nat × Nat × Nat × Nat)} {w0 : Cond} (h : Cond.codeWith y2 b2 n2 r2 hh ∈ tb) : GoodIn (w0 :: tb) (wdW y2 b2 n2 r2 hh) := by
  intro w hw
  rcases List.mem_cons.mp hw with rfl | hw
  · exact ⟨List.mem_cons_of_mem _ h, tb_good h⟩
  · exact ⟨List.mem_cons_of_mem _ hw, tb_good hw⟩
/-- calls out of a list of words that has tb behind its head -/
theorem goodVW {w0 : Cond} {y2 : MethodName} {b2 : ByteArray} {n2 : Nat} {r2 : Option FieldType} {own C : String} {idx : Nat} (h1 : Cond.methodLink own idx y2 ∈ tb) (h2 : Cond.instanceMethod y2 ∈ tb) (h3 : Cond.selects C y2 y2 ∈ tb) (h4 : Cond.initialized C ∈ tb) (h : Cond.code y2 b2 n2 r2 ∈ tb) : GoodIn (w0 :: tb) (wsV own idx C y2 (wd y2 b2 n2 r2)) := by
  intro w hw
  rcases List.mem_append.mp hw with hw | hw
  · have hw : w ∈ tb := by
      simp only [List.mem_cons, List.not_mem_nil, or_false] at hw
      rcases hw with rfl | rfl | rfl | rfl <;> assumption
    exact ⟨List.mem_cons_of_mem _ hw, tb_good hw⟩
  · rcases List.mem_cons.mp hw with rfl | hw
    · exact ⟨List.mem_cons_of_mem _ h, tb_good h⟩
    · exact ⟨List.mem_cons_of_mem _ hw, tb_good hw⟩
theorem D_fst {A : Nat → Prop} {w w' : va_W} (h : va_D A w) (e : w.map Prod.fst = w'.map Prod.fst) : va_D A w' := by
  have key : ∀ (k : Nat) (q : Nat × va_E), w'[k]? = some q → ∃ q0, w[k]? = some q0 ∧ q0.1 = q.1 := by
    intro k q hq
    have h1 : (w'.map Prod.fst)[k]? = some q.1 := by rw [List.getElem?_map, hq]; rfl
    rw [← e, List.getElem?_map] at h1
    obtain ⟨q0, h2, h3⟩ := Option.map_eq_some_iff.mp h1
    exact ⟨q0, h2, h3⟩
  refine ⟨fun i j x y hi hj hxy => ?_, fun k q hq => ?_⟩
  · obtain ⟨x0, a1, b1⟩ := key i x hi
    obtain ⟨y0, a2, b2⟩ := key j y hj
    exact h.1 i j x0 y0 a1 a2 (by rw [b1, b2, hxy])
  · obtain ⟨q0, a1, b1⟩ := key k q hq
    rw [← b1]
    exact h.2 k q0 a1
theorem D_left {A : Nat → Prop} {a b : va_W} (h : va_D A (a ++ b)) : va_D A a := by
  refine ⟨fun i j x y hi hj hxy => h.1 i j x y ?_ ?_ hxy, fun k q hq => h.2 k q ?_⟩
  · rw [List.getElem?_append_left (List.getElem?_eq_some_iff.mp hi).1]; exact hi
  · rw [List.getElem?_append_left (List.getElem?_eq_some_iff.mp hj).1]; exact hj
  · rw [List.getElem?_append_left (List.getElem?_eq_some_iff.mp hq).1]; exact hq
theorem D_right {A : Nat → Prop} {a b : va_W} (h : va_D A (a ++ b)) : va_D A b := by
  have sh : ∀ (k : Nat) (q : Nat × va_E), b[k]? = some q → (a ++ b)[a.length + k]? = some q := by
    intro k q hq
    rw [List.getElem?_append_right (by omega), Nat.add_sub_cancel_left]
    exact hq
  refine ⟨fun i j x y hi hj hxy => ?_, fun k q hq => h.2 _ q (sh k q hq)⟩
  have := h.1 _ _ x y (sh i x hi) (sh j y hj) hxy
  omega
theorem ap {A : Nat → Prop} {a b : va_W} (h : va_D A (a ++ b)) : ∀ (i j : Nat) (x y : Nat × va_E), a[i]? = some x → b[j]? = some y → x.1 ≠ y.1 := by
  intro i j x y hi hj hxy
  have hlt := (List.getElem?_eq_some_iff.mp hi).1
  have h1 : (a ++ b)[i]? = some x := by rw [List.getElem?_append_left hlt]; exact hi
  have h2 : (a ++ b)[a.length + j]? = some y := by rw [List.getElem?_append_right (by omega), Nat.add_sub_cancel_left]; exact hj
  have := h.1 _ _ x y h1 h2 hxy
  omega
theorem P_left {D : va_G} {cl : List vw_C} {a b : va_W} {H : Heap} (h : va_P D cl (a ++ b) H) : va_P D cl a H := fun k q hq => h k q (by rw [List.getElem?_append_left (List.getElem?_eq_some_iff.mp hq).1]; exact hq)
theorem P_right {D : va_G} {cl : List vw_C} {a b : va_W} {H : Heap} (h : va_P D cl (a ++ b) H) : va_P D cl b H := fun k q hq => h (a.length + k) q (by rw [List.getElem?_append_right (by omega), Nat.add_sub_cancel_left]; exact hq)
/-- a call on w leaves v alone -/
theorem fr {D : va_G} {cl : List vw_C} {w v : va_W} {H H1 : Heap} (hap : ∀ (i j : Nat) (x y : Nat × va_E), w[i]? = some x → v[j]? = some y → x.1 ≠ y.1) (hk : ∀ q : Nat, q < H.size → ¬ va_A w H.size q → H1[q]? = H[q]?) (hv : va_P D cl v H) : va_P D cl v H1 := by
  refine hv.kept (fun k q hq => hk q.1 (va_at.lt (hv k q hq)) ?_)
  rintro (⟨k', e, hk'⟩ | h)
  · exact hap k' k (q.1, e) q hk' hq rfl
  · exact absurd (va_at.lt (hv k q hq)) (Nat.not_lt.mpr h)
theorem ap_sym {a b : va_W} (h : ∀ (i j : Nat) (x y : Nat × va_E), a[i]? = some x → b[j]? = some y → x.1 ≠ y.1) : ∀ (i j : Nat) (x y : Nat × va_E), b[i]? = some x → a[j]? = some y → x.1 ≠ y.1 := fun i j x y hi hj e => h j i y x hj hi e.symm
theorem wX_fst {ad : Nat → Nat → Nat} {cs : Nat → ClassId} {σ σ' : SX} : (wX ad cs σ).map Prod.fst = (wX ad cs σ').map Prod.fst := rfl
theorem wM_fst {ad : Nat → Nat → Nat} {cs : Nat → ClassId} {σ σ' : SX} : (wM ad cs σ).map Prod.fst = (wM ad cs σ').map Prod.fst := rfl
abbrev oC (qo : Nat) (cL : ClassId) (f : Nat → Int64) : Nat × va_E := (qo, .inl (cL, 1, .inr (.inl f)))
/-- the office beside the law's own array -/
def wO (ad : Nat → Nat → Nat) (cs : Nat → ClassId) (σ : SX) (qo : Nat) (cL : ClassId) (f : Nat → Int64) : va_W := wX ad cs σ ++ [oC qo cL f]
theorem wO_fst {ad : Nat → Nat → Nat} {cs : Nat → ClassId} {σ σ' : SX} {qo : Nat} {cL : ClassId} {f f' : Nat → Int64} : (wO ad cs σ qo cL f).map Prod.fst = (wO ad cs σ' qo cL f').map Prod.fst := rfl
theorem g_out {ad : Nat → Nat → Nat} {cs : Nat → ClassId} {σ : SX} {qo : Nat} {cL : ClassId} {f : Nat → Int64} : (wO ad cs σ qo cL f)[34]? = some (qo, .inl (cL, 1, .inr (.inl f))) := rfl
theorem s_out {ad : Nat → Nat → Nat} {cs : Nat → ClassId} {σ : SX} {qo : Nat} {cL : ClassId} {f g : Nat → Int64} : (wO ad cs σ qo cL f).set 34 (qo, .inl (cL, 1, .inr (.inl g))) = wO ad cs σ qo cL g := rfl
abbrev preL (dC : Nat → ClassId) (dI : Nat → Nat → Nat) (ad : Nat → Nat → Nat) (cs : Nat → ClassId) (cL : ClassId) (qo sz : Nat) (σ : SX) (f : Nat → Int64) (U : State) : Prop := U.heap.size = sz ∧ va_P (dC, dI) classes (wO ad cs σ qo cL f) U.heap ∧ va_K (dC, dI) classes (tyW cs) U ∧ va_K (dC, dI) classes [(cL, .long)] U ∧ va_D (fun _ => True) (wO ad cs σ qo cL f) ∧ nwW U ∧ stW U
theorem blindL {dC : Nat → ClassId} {dI : Nat → Nat → Nat} {ad : Nat → Nat → Nat} {cs : Nat → ClassId} {cL : ClassId} {qo sz : Nat} {σ : SX} {f : Nat → Int64} {av : List Value} : FrameBlind (va_Pc av (preL dC dI ad cs cL qo sz σ f)) := by
  intro a U g mk q
  obtain ⟨q0, q1, qP, qK, qL, qD, qN, qZ⟩ := q
  exact ⟨q0, q1, qP, va_K.moved (u := U) (U := U.calling g mk a) (Vm.Alike.refl U.vm) qK, va_K.moved (u := U) (U := U.calling g mk a) (Vm.Alike.refl U.vm) qL, qD, nw_same rfl qN, stW_old (State.WarmedH.refl U) (fun _ _ => rfl) qZ⟩
theorem payL {dC : Nat → ClassId} {dI : Nat → Nat → Nat} {ad : Nat → Nat → Nat} {cs : Nat → ClassId} {cL : ClassId} {qo : Nat} {σ : SX} {f : Nat → Int64} {av : List Value} {s : State} {H : Heap} {A : Nat → Prop} (hP : va_P (dC, dI) classes (wO ad cs σ qo cL f) H) (hK : va_K (dC, dI) classes (tyW cs) s) (hKl : va_K (dC, dI) classes [(cL, .long)] s) (hD : va_D A (wO ad cs σ qo cL f)) (hN : nwW s) (hZ : stW s) (hh : ∀ a, a < s.heap.size → H[a]? = s.heap[a]?) : ∀ U : State, U.heap = H → s.WarmedH U.vm → va_Pc av (preL dC dI ad cs cL qo H.size σ f) av.toArray U :=
  fun U hU hW => ⟨rfl, by rw [hU], by rw [hU]; exact hP, va_K.moved hW.alike hK, va_K.moved hW.alike hKl, hD.weaken (fun _ _ _ _ => trivial), nw_warm hW hN, stW_old hW (fun a ha => by rw [hU]; exact hh a ha) hZ⟩
/-- the class's method that throws, called from a helper: nothing has been written yet -/
theorem blindZ {dC : Nat → ClassId} {dI : Nat → Nat → Nat} {ad : Nat → Nat → Nat} {cs : Nat → ClassId} {sz : Nat} {σ : SX} {av : List Value} : FrameBlind (va_Pc av (fun U => preX dC dI ad cs sz σ U ∧ stW U)) := by
  intro a U g mk q
  obtain ⟨q0, ⟨q1, qP, qK, qD, qN⟩, qZ⟩ := q
  exact ⟨q0, ⟨q1, qP, va_K.moved (u := U) (U := U.calling g mk a) (Vm.Alike.refl U.vm) qK, qD, nw_same rfl qN⟩, stW_old (State.WarmedH.refl U) (fun _ _ => rfl) qZ⟩
theorem payZ {dC : Nat → ClassId} {dI : Nat → Nat → Nat} {ad : Nat → Nat → Nat} {cs : Nat → ClassId} {σ : SX} {av : List Value} {s : State} {A : Nat → Prop} (hP : va_P (dC, dI) classes (wX ad cs σ) s.heap) (hK : va_K (dC, dI) classes (tyW cs) s) (hD : va_D A (wX ad cs σ)) (hN : nwW s) (hZ : stW s) : ∀ U : State, U.heap = s.heap → s.WarmedH U.vm → va_Pc av (fun U => preX dC dI ad cs s.heap.size σ U ∧ stW U) av.toArray U :=
  fun U hU hW => ⟨rfl, ⟨by rw [hU], by rw [hU]; exact hP, va_K.moved hW.alike hK, hD.weaken (fun _ _ _ _ => trivial), nw_warm hW hN⟩, stW_old hW (fun a _ => by rw [hU]) hZ⟩
section LawCalls9
variable {p : Program} {l : Launch} {e : Env} {R : Room} {s : State} {m : MethodId} {args : Array Value} {below : List Frame} {meth : Method} {c : Code} {H : Heap} {locs : List Loc} {cells slots : Nat} {Q : State → Prop}
theorem va_runSW {y : MethodName} {bytes cc : ByteArray} {maxL nL mc ms n index : Nat} {ret : Option FieldType} {hh : List (Nat × Nat × Nat × Nat)} {ws' : List Cond} {rm : Room} {Pc : Array Value → State → Prop} {Qc : Array Value → State → Outcome → State → Prop} {free : Addr → Prop} {Ts : List Cond} {own : String} {As rest : List Value} {g : JFrame}
    (S : CallFix p m c cc nL s args Ts own) (hM : Met l y (.codeWith y bytes maxL ret hh :: ws') rm Pc Qc mc ms free) (hG : GoodIn Ts (.codeWith y bytes maxL ret hh :: ws')) (hrc : rm.cells = mc) (hrs : rm.slots = ms) (hR : rm.frames + 1 ≤ R.frames ∧ 8 + (maxL + 11) + rm.locals ≤ R.locals)
    (hl : (Cond.methodLink own index y).before args s = true) (hstt : (Cond.static y).before args s = true) (hini : (Cond.initialized y.cls).before args s = true)
    (hy : y.cls ≠ "java/lang/invoke/MethodHandle" ∧ y.cls ≠ "java/lang/invoke/VarHandle" ∧ (parseMethodDescriptor y.desc).map (fun d => d.parameters.length) = some n) (hp : PreS s H Pc As)
    (hg : g.method = m) (hn : As.length = n) (hsize : g.locals.size = nL) (hstack : g.stack = As.reverse ++ rest) (hW : 2 * g.monitorRoom + (rest.map fun v => v.category).sum ≤ 8) (hdg : decode cc g.pc = .ok (.invokestatic index, 3)) (hf : cells + mc ≤ R.cells ∧ slots + ms ≤ R.slots) :
    va_Run p l e R s m args below meth c H locs cells slots mc ms g rest (Qc As.toArray) (free) := by
  obtain ⟨hx, hb, hml, ho, hts⟩ := S
  have hK : Back l R p e below s args y 3 8 (PreOf R mc ms Pc) (PostOf Qc mc ms free) :=
    va_backW (hh := hh) (bytes := bytes) (maxL := maxL) (ret := ret) hM hp.1 hrc hrs hR.1 hR.2 (pay_in hts hG) List.mem_cons_self (fun a' U hW => word_at hW (Or.inl rfl) hini)
  have hcode := hts _ (hG _ List.mem_cons_self).1
  intro T hT X
  obtain ⟨mk, methM, cM, hnamed, hmethM, hcM, -, -, -, hrM, -, hsigM⟩ := Cond.codeWith_spec hcode
  have hstatic : methM.isStatic = true := Cond.static_spec hnamed hmethM hstt
  obtain ⟨kP, hkP, -⟩ := className_of_methodNamed hnamed
  have hinitP : kP.init = .initialized := Cond.initialized_spec (findClass_of_methodNamed hnamed) hkP hini
  have hlen : As.length = methM.sig.parameters.length := by
    have h9 := hy.2.2
    rw [hsigM] at h9
    rw [hn]
    exact (Option.some.inj h9).symm
  obtain ⟨vm₁, X₁, hstep₁⟩ := X.invokestatic hx ho hl hnamed hmethM hstatic hkP hinitP ⟨hy.1, hy.2.1⟩ (g := g) hg (argsL := As) (rest := rest) hlen hstack (by rw [hb]; exact hdg)
  obtain ⟨v, ⟨U', l2, c2, s2⟩, X', ⟨g', mk', t, L, e1, e2, hq, h1, hL, h2, h3⟩, hsteps⟩ := hK m meth c ⟨T.setVm vm₁, locs, cells, slots⟩ { g with stack := rest } (.invokestatic index) mk As.toArray X₁ hg (hsize.trans hml.symm) (by rw [hb]; exact hdg) hW (X₁.named hnamed) ⟨hf.1, hf.2, hp.2 (T.setVm vm₁) hT X₁.warmed⟩
  dsimp only [Pt.U, Pt.locs, Pt.cells, Pt.slots] at X' e1 e2 h1 h2 h3 hsteps
  subst h1; subst h2; subst h3
  exact ⟨v, (T.setVm vm₁).calling g' mk' As.toArray, t, U', L, hT, X', hL, e1, e2, hq, fun target h => hstep₁ _ fun acts => by rw [doInvoke_state]; exact hsteps.trans h⟩
theorem W_loopV {pc : Nat} (cN sN : Nat → Nat) (I : Nat → Heap → List Loc → Array Slot → List Value → Prop) {H0 : Heap} {locs0 : List Loc} {g0 : JFrame}
    (zero : ∀ H locs ls st, ¬ I 0 H locs ls st)
    (step : ∀ n, (∀ H locs ls st, I n H locs ls st → W p l e R s m args below meth c H locs (cN n) (sN n) Q (F0 m pc ls st)) → ∀ H locs ls st, I (n + 1) H locs ls st → W p l e R s m args below meth c H locs (cN (n + 1)) (sN (n + 1)) Q (F0 m pc ls st))
    (k : (∀ n H locs ls st, I n H locs ls st → W p l e R s m args below meth c H locs (cN n) (sN n) Q (F0 m pc ls st)) → W p l e R s m args below meth c H0 locs0 cells slots Q g0) :
    W p l e R s m args below meth c H0 locs0 cells slots Q g0 := by
  refine k fun n => ?_
  induction n with
  | zero => exact fun H locs ls st h => absurd h (zero H locs ls st)
  | succ n ih => exact step n ih
end LawCalls9
def bH {β : Type} (o : Option (Int32 × SX × (Nat → Int64))) (k : Int32 → SX → (Nat → Int64) → Option β) : Option β := match o with
  | none => none
  | some q => k q.1 q.2.1 q.2.2
theorem bH_some {β : Type} {o : Option (Int32 × SX × (Nat → Int64))} {k : Int32 → SX → (Nat → Int64) → Option β} {x : β} (h : bH o k = some x) : ∃ q : Int32 × SX × (Nat → Int64), o = some q ∧ k q.1 q.2.1 q.2.2 = some x := by
  cases o with
  | none => cases h
  | some q => exact ⟨q, rfl, h⟩
/-- the three worlds of the law side by side -/
def wL (ad : Nat → Nat → Nat) (cs : Nat → ClassId) (σ : SX) (bd : Nat → Nat → Nat) (μ : SX) (qo : Nat) (cL : ClassId) (f : Nat → Int64) : va_W := wX ad cs σ ++ (wM bd cs μ ++ [oC qo cL f])
section Three
variable {A : Nat → Prop} {ad bd : Nat → Nat → Nat} {cs : Nat → ClassId} {σ μ : SX} {qo : Nat} {cL : ClassId} {f : Nat → Int64}
theorem D_3 (h : va_D A (wL ad cs σ bd μ qo cL f)) {σ' μ' : SX} {f' : Nat → Int64} : va_D A (wL ad cs σ' bd μ' qo cL f') := D_fst h rfl
theorem ap_l {a b c : va_W} (h : ∀ (i j : Nat) (x y : Nat × va_E), a[i]? = some x → (b ++ c)[j]? = some y → x.1 ≠ y.1) : ∀ (i j : Nat) (x y : Nat × va_E), a[i]? = some x → b[j]? = some y → x.1 ≠ y.1 :=
  fun i j x y hi hj => h i j x y hi (by rw [List.getElem?_append_left (List.getElem?_eq_some_iff.mp hj).1]; exact hj)
theorem ap_r {a b c : va_W} (h : ∀ (i j : Nat) (x y : Nat × va_E), a[i]? = some x → (b ++ c)[j]? = some y → x.1 ≠ y.1) : ∀ (i j : Nat) (x y : Nat × va_E), a[i]? = some x → c[j]? = some y → x.1 ≠ y.1 :=
  fun i j x y hi hj => h i (b.length + j) x y hi (by rw [List.getElem?_append_right (by omega), Nat.add_sub_cancel_left]; exact hj)
theorem ap_xm (h : va_D A (wL ad cs σ bd μ qo cL f)) : ∀ (i j : Nat) (x y : Nat × va_E), (wX ad cs σ)[i]? = some x → (wM bd cs μ)[j]? = some y → x.1 ≠ y.1 := ap_l (ap h)
theorem ap_xo (h : va_D A (wL ad cs σ bd μ qo cL f)) : ∀ (i j : Nat) (x y : Nat × va_E), (wX ad cs σ)[i]? = some x → ([oC qo cL f] : va_W)[j]? = some y → x.1 ≠ y.1 := ap_r (ap h)
theorem ap_mx (h : va_D A (wL ad cs σ bd μ qo cL f)) : ∀ (i j : Nat) (x y : Nat × va_E), (wM bd cs μ)[i]? = some x → (wX ad cs σ)[j]? = some y → x.1 ≠ y.1 := ap_sym (ap_xm h)
theorem ap_mo (h : va_D A (wL ad cs σ bd μ qo cL f)) : ∀ (i j : Nat) (x y : Nat × va_E), (wM bd cs μ)[i]? = some x → ([oC qo cL f] : va_W)[j]? = some y → x.1 ≠ y.1 := ap (D_right h)
theorem ap_om (h : va_D A (wL ad cs σ bd μ qo cL f)) : ∀ (i j : Nat) (x y : Nat × va_E), (wO ad cs σ qo cL f)[i]? = some x → (wM bd cs μ)[j]? = some y → x.1 ≠ y.1 := by
  intro i j x y hi hj
  by_cases hlt : i < (wX ad cs σ).length
  · have hi2 : (wX ad cs σ)[i]? = some x := by
      have h9 : (wX ad cs σ ++ [oC qo cL f])[i]? = some x := hi
      rw [List.getElem?_append_left hlt] at h9
      exact h9
    exact ap_xm h i j x y hi2 hj
  · have hi2 : ([oC qo cL f] : va_W)[i - (wX ad cs σ).length]? = some x := by
      have h9 : (wX ad cs σ ++ [oC qo cL f])[i]? = some x := hi
      rw [List.getElem?_append_right (by omega)] at h9
      exact h9
    exact fun e => ap_mo h j _ y x hj hi2 e.symm
theorem D_xo (h : va_D A (wL ad cs σ bd μ qo cL f)) : va_D A (wO ad cs σ qo cL f) := va_D.app (D_left h) (D_right (D_right h)) (ap_xo h)
end Three
