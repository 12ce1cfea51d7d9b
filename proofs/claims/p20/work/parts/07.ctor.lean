/-! What the constructors stand on. -/
abbrev preC (dC : Nat → ClassId) (dI : Nat → Nat → Nat) (ws : va_W) (sz : Nat) (U : State) : Prop := U.heap.size = sz ∧ va_P (dC, dI) classes ws U.heap ∧ va_K (dC, dI) classes [] U ∧ va_D (fun _ => True) ws ∧ nwW U
theorem blindC {dC : Nat → ClassId} {dI : Nat → Nat → Nat} {ws : va_W} {sz : Nat} {av : List Value} : FrameBlind (va_Pc av (preC dC dI ws sz)) := by
  intro a U g mk q
  obtain ⟨q0, q1, qP, qK, qD, qN⟩ := q
  exact ⟨q0, q1, qP, va_K.moved (u := U) (U := U.calling g mk a) (Vm.Alike.refl U.vm) qK, qD, nw_same rfl qN⟩
theorem payC {dC : Nat → ClassId} {dI : Nat → Nat → Nat} {ws : va_W} {av : List Value} {s : State} {H : Heap} {A : Nat → Prop} (hP : va_P (dC, dI) classes ws H) (hK : va_K (dC, dI) classes [] s) (hD : va_D A ws) (hN : nwW s) : ∀ U : State, U.heap = H → s.WarmedH U.vm → va_Pc av (preC dC dI ws H.size) av.toArray U :=
  fun U hU hW => ⟨rfl, by rw [hU], by rw [hU]; exact hP, va_K.moved hW.alike hK, hD.weaken (fun _ _ _ _ => trivial), nw_warm hW hN⟩
theorem ka_i {D : va_G} {cl : List vw_C} {tys : List (ClassId × FieldType)} {U : State} (hK : va_K D cl tys U) (i j : Nat) {a b : ClassId} (hi : tys[i]? = some (a, .int)) (hj : tys[j]? = some (b, .int)) : a = b := by
  have h1 : U.vm.findClass ("[" ++ FieldType.int.toString) = some a := (hK.2 i _ hi).2
  have h2 : U.vm.findClass ("[" ++ FieldType.int.toString) = some b := (hK.2 j _ hj).2
  exact Option.some.inj (h1.symm.trans h2)
theorem ka_z {D : va_G} {cl : List vw_C} {tys : List (ClassId × FieldType)} {U : State} (hK : va_K D cl tys U) (i j : Nat) {a b : ClassId} (hi : tys[i]? = some (a, .boolean)) (hj : tys[j]? = some (b, .boolean)) : a = b := by
  have h1 : U.vm.findClass ("[" ++ FieldType.boolean.toString) = some a := (hK.2 i _ hi).2
  have h2 : U.vm.findClass ("[" ++ FieldType.boolean.toString) = some b := (hK.2 j _ hj).2
  exact Option.some.inj (h1.symm.trans h2)
def adl (l : List (List Nat)) : Nat → Nat → Nat := fun j k => ((l[j]?).getD []).getD k 0
def csl (l : List ClassId) : Nat → ClassId := fun k => (l[k]?).getD 0
def rm4 (x : Int32) : Int32 := if x < 1 then 4 else if 8 < x then 4 else x
theorem rm4_a {x : Int32} (h : x < 1) : rm4 x = 4 := if_pos h
theorem rm4_b {x : Int32} (h : ¬ x < 1) (h2 : 8 < x) : rm4 x = 4 := by rw [rm4, if_neg h, if_pos h2]
theorem rm4_c {x : Int32} (h : ¬ x < 1) (h2 : ¬ 8 < x) : rm4 x = x := by rw [rm4, if_neg h, if_neg h2]
def ini_X (r : Int32) : SX := fun j => (fun k => if j = 2 ∧ k = 0 then r else if j = 3 ∧ k = 0 then r else if j = 5 ∧ k = 1 then 1 else 0, fun _ _ => 0)
def iniX (x : Int32) : SX := ini_X (rm4 x)
def ini_M (r : Int32) : SX := fun _ => (fun k => if k = 1 then r else if k = 5 then 1 else if k = 6 then -1 else 0, fun k => if k = 12 then (upd (upd (upd (upd (fun _ => 0) (0 : Int32).toNatClampNeg 0) (1 : Int32).toNatClampNeg 1) (2 : Int32).toNatClampNeg 2) (3 : Int32).toNatClampNeg 3) else fun _ => 0)
def iniM (x : Int32) : SX := ini_M (rm4 x)
theorem cell_ext {c : ClassId} {n : Nat} {f g : Nat → Option Nat} (h : ∀ j, j < n → f j = g j) : vp_cell c (n, .inr (.inr (.inr (.inr f)))) = vp_cell c (n, .inr (.inr (.inr (.inr g)))) := by
  rw [vp_cell_q, vp_cell_q]
  unfold arrV
  congr 1
  apply Array.ext
  · simp
  · intro i h1 h2
    simp only [Array.size_ofFn] at h1
    simp [h i h1]
theorem P_cell {D : va_G} {cl : List vw_C} {ws : va_W} {H : Heap} {a n : Nat} {c : ClassId} {f g : Nat → Option Nat} (hP : va_P D cl ws H) (p : Nat) (hp : ws[p]? = some (a, .inl (c, n, .inr (.inr (.inr (.inr f)))))) (h : ∀ j, j < n → f j = g j) : va_P D cl (ws.set p (a, .inl (c, n, .inr (.inr (.inr (.inr g)))))) H := by
  intro k q hk
  by_cases e : p = k
  · subst e
    have hlt : p < ws.length := (List.getElem?_eq_some_iff.mp hp).1
    rw [List.getElem?_set_self hlt] at hk
    cases hk
    have h1 : H[a]? = some (vp_cell c (n, .inr (.inr (.inr (.inr f))))) := hP p _ hp
    show H[a]? = some (vp_cell c (n, .inr (.inr (.inr (.inr g)))))
    rw [h1, cell_ext h]
  · rw [List.getElem?_set_ne e] at hk
    exact hP k q hk
theorem D_cell {A : Nat → Prop} {ws : va_W} {a n : Nat} {c : ClassId} {f g : Nat → Option Nat} (hD : va_D A ws) (p : Nat) (hp : ws[p]? = some (a, .inl (c, n, .inr (.inr (.inr (.inr f)))))) : va_D A (ws.set p (a, .inl (c, n, .inr (.inr (.inr (.inr g)))))) := va_D.set hD hp
def va_two (a b : Nat) : Nat → Option Nat := fun i => if i = 0 then some a else some b
theorem outer2 (c : ClassId) (h0 : Nat) : Jvm.Free.Multi.outerC c 2 h0 2 = vp_cell c (2, .inr (.inr (.inr (.inr (va_two (h0 + 1) (h0 + 1 + 1)))))) := by
  rw [vp_cell_q]
  show ((({ cls := c, slots := Array.replicate 2 .null, vm := .none } : Cell).setSlot 0 (.ref (h0 + 1 + 0))).setSlot 1 (.ref (h0 + 1 + 1))) = _
  rw [arrV_new, arrV_store, arrV_store]
  unfold arrV
  congr 1
theorem inner2 (c : ClassId) : Jvm.Free.Multi.innerC c 150 (defaultValue .int) = vp_cell c (150, .inl (fun _ => 0)) := by
  show ({ cls := c, slots := Array.replicate 150 (defaultValue .int), vm := .none } : Cell) = _
  rw [arrV_new]
  rfl
section Multi
variable {p : Program} {l : Launch} {e : Env} {R : Room} {s : State} {m : MethodId} {args : Array Value} {below : List Frame} {meth : Method} {c : Code} {H : Heap} {locs : List Loc} {cells slots : Nat} {Q : State → Prop}
variable {cc : ByteArray} {pc : Nat} {ls : Array Slot} {rest : List Value} {D : va_G} {cl : List vw_C} {A : Nat → Prop} {a : Nat} {tys : List (ClassId × FieldType)} {ws : va_W} {H0 : Heap}
/-- new int[2][150] -/
theorem va_multi (hexec : p.tables.exec = Jvm.exec) (hb : c.code = cc) {own : String} {index : Nat} (hown : s.vm.findClass own = some m.cls) (hclink : (Cond.classLink own index "[[I").before args s = true) (hover : (Cond.arrayOver (.array .int)).before args s = true) (harr : (Cond.arrayClass .int).before args s = true)
    (hK : va_K D cl tys s) (hP : va_P D cl ws H) (hD : va_D A ws) (hS : va_S A H0 H locs) (hA : ∀ q, H0.size ≤ q → A q) (hcells : cells + 3 ≤ R.cells) (hslots : slots + 302 ≤ R.slots) (hdg : decode cc pc = .ok (.multianewarray index 2, 4))
    (kk : ∀ (q r1 r2 : Nat) (cA cI : ClassId) (H1 : Heap), va_K D cl (tys ++ [(cA, .array .int), (cI, .int)]) s → va_P D cl (ws ++ [(q, .inl (cA, 2, .inr (.inr (.inr (.inr (va_two r1 r2)))))), (r1, .inl (cI, 150, .inl (fun _ => 0))), (r2, .inl (cI, 150, .inl (fun _ => 0)))]) H1 →
      va_D A (ws ++ [(q, .inl (cA, 2, .inr (.inr (.inr (.inr (va_two r1 r2)))))), (r1, .inl (cI, 150, .inl (fun _ => 0))), (r2, .inl (cI, 150, .inl (fun _ => 0)))]) → va_S A H0 H1 locs →
      W p l e R s m args below meth c H1 locs (cells + 3) (slots + 302) Q (F0 m (pc + 4) ls (.ref q :: rest))) : W p l e R s m args below meth c H locs cells slots Q (F0 m pc ls (.int 150 :: .int 2 :: rest)) := by
  intro T hT Xs
  obtain ⟨vm₁, cA, comp, -, fA, fC, hO, hI, X', step⟩ := Xs.multianewarray2F hexec hown (ty := .int) hclink hover harr (g := F0 m pc ls (.int 150 :: .int 2 :: rest)) rfl (by rw [hb]; exact hdg) rfl (by decide) (by decide) (by decide) (by decide) (by decide) rfl rfl hcells hslots
  generalize hF : Jvm.Free.Multi.fill (T.setVm vm₁) cA comp (2 : Int32).toNatClampNeg (150 : Int32).toNatClampNeg (defaultValue .int) (2 : Int32).toNatClampNeg = F at X' step
  have hF : Jvm.Free.Multi.fill (T.setVm vm₁) cA comp 2 150 (defaultValue .int) 2 = F := hF
  have hTh : (T.setVm vm₁).heap = H := hT
  obtain ⟨f1, f2, -, -⟩ := Jvm.Free.Multi.fill_facts (T.setVm vm₁) cA comp 2 150 (defaultValue .int) 2
  rw [hF, hTh] at f1 f2
  rw [outer2] at f2
  have hold : ∀ x : Nat, x < H.size → F.heap[x]? = H[x]? := fun x hx => by
    have := Jvm.Free.Multi.fill_old (T.setVm vm₁) cA comp 2 150 (defaultValue .int) (a := x) (by rw [hTh]; exact hx) 2
    rw [hF, hTh] at this
    exact this
  have hrow : ∀ j : Nat, j < 2 → F.heap[H.size + 1 + j]? = some (vp_cell comp (150, .inl (fun _ => 0))) := fun j hj => by
    have := Jvm.Free.Multi.fill_inner (T.setVm vm₁) cA comp 2 150 (defaultValue .int) 2 j hj
    rw [hF, hTh, inner2] at this
    exact this
  have hnew : ∀ (k : Nat) (x : Nat × va_E), ([(H.size, .inl (cA, 2, .inr (.inr (.inr (.inr (va_two (H.size + 1) (H.size + 1 + 1))))))), (H.size + 1, .inl (comp, 150, .inl (fun _ => 0))), (H.size + 1 + 1, .inl (comp, 150, .inl (fun _ => 0)))] : va_W)[k]? = some x → va_at D cl x F.heap ∧ x.1 = H.size + k := by
    intro k x hx
    have h3 : k < 3 := (List.getElem?_eq_some_iff.mp hx).1
    rcases (show k = 0 ∨ k = 1 ∨ k = 2 by omega) with rfl | rfl | rfl
    · cases hx; exact ⟨f2, rfl⟩
    · cases hx; exact ⟨hrow 0 (by omega), rfl⟩
    · cases hx; exact ⟨hrow 1 (by omega), by show H.size + 1 + 1 = H.size + 2; omega⟩
  have hP1 : va_P D cl ws F.heap := hP.kept (fun k x hx => hold x.1 ((hP k x hx).lt))
  have hP2 := hP1.app (fun k x hx => (hnew k x hx).1)
  have hD1 : va_D A ([(H.size, .inl (cA, 2, .inr (.inr (.inr (.inr (va_two (H.size + 1) (H.size + 1 + 1))))))), (H.size + 1, .inl (comp, 150, .inl (fun _ => 0))), (H.size + 1 + 1, .inl (comp, 150, .inl (fun _ => 0)))] : va_W) := by
    refine ⟨fun i j x y hi hj hxy => ?_, fun k x hx => ?_⟩
    · have a1 := (hnew i x hi).2
      have a2 := (hnew j y hj).2
      omega
    · have a1 := (hnew k x hx).2
      exact hA _ (by have := hS.1; omega)
  have hD2 := hD.app hD1 (fun i j x y hi hj hxy => by
    have a1 := (hP i x hi).lt
    have a2 := (hnew j y hj).2
    omega)
  have hK2 : va_K D cl (tys ++ [(cA, .array .int), (comp, .int)]) s := ⟨hK.1, fun k x hx => by
    by_cases hl : k < tys.length
    · rw [List.getElem?_append_left hl] at hx
      exact hK.2 k x hx
    · rw [List.getElem?_append_right (by omega)] at hx
      have h2 : k - tys.length < 2 := (List.getElem?_eq_some_iff.mp hx).1
      rcases (show k - tys.length = 0 ∨ k - tys.length = 1 by omega) with h | h
      · rw [h] at hx
        cases hx
        refine ⟨fun N9 z9 => ?_, fA⟩
        obtain ⟨-, k9, hk9, cm9, hkk9⟩ := (hO 0 0 0).1
        exact ⟨(fun q hq => by cases hq), k9, hk9, cm9, hkk9⟩
      · rw [h] at hx
        cases hx
        refine ⟨fun N9 z9 => ?_, fC⟩
        obtain ⟨-, k9, hk9, cm9, hkk9⟩ := (hI 0 .null).1
        exact ⟨(fun q hq => by cases hq), k9, hk9, cm9, hkk9⟩⟩
  obtain ⟨t, a1, b1⟩ := kk H.size (H.size + 1) (H.size + 1 + 1) cA comp F.heap hK2 hP2 hD2 ⟨by rw [f1]; have := hS.1; omega, fun x h1 h2 => (hold x (Nat.lt_of_lt_of_le h1 hS.1)).trans (hS.2.1 x h1 h2), hS.2.2⟩ F rfl X'
  refine ⟨t, step t ?_, b1⟩
  have e : T.heap.size = H.size := by rw [hT]
  rw [e]
  exact a1
end Multi

theorem fs_O : ∀ j, j < 12 → defaultValue (ft_O j) = vp_V [.null, .null, .null, .null, .null, .null, .null, .null, .null, .null, .int 0, .int 0] j := by
  intro j hj
  rcases (show j = 0 ∨ j = 1 ∨ j = 2 ∨ j = 3 ∨ j = 4 ∨ j = 5 ∨ j = 6 ∨ j = 7 ∨ j = 8 ∨ j = 9 ∨ j = 10 ∨ j = 11 by omega) with rfl | rfl | rfl | rfl | rfl | rfl | rfl | rfl | rfl | rfl | rfl | rfl <;> rfl
theorem fs_D : ∀ j, j < 5 → defaultValue (ft_D j) = vp_V [.null, .null, .null, .int 0, .int 0] j := by
  intro j hj
  rcases (show j = 0 ∨ j = 1 ∨ j = 2 ∨ j = 3 ∨ j = 4 by omega) with rfl | rfl | rfl | rfl | rfl <;> rfl
theorem fs_S : ∀ j, j < 5 → defaultValue (ft_S j) = vp_V [.int 0, .null, .null, .int 0, .int 0] j := by
  intro j hj
  rcases (show j = 0 ∨ j = 1 ∨ j = 2 ∨ j = 3 ∨ j = 4 by omega) with rfl | rfl | rfl | rfl | rfl <;> rfl
theorem fs_P : ∀ j, j < 3 → defaultValue (ft_P j) = vp_V [.null, .int 0, .int 0] j := by
  intro j hj
  rcases (show j = 0 ∨ j = 1 ∨ j = 2 by omega) with rfl | rfl | rfl <;> rfl
theorem fs_V : ∀ j, j < 4 → defaultValue (ft_V j) = vp_V [.int 0, .int 0, .int 0, .int 0] j := by
  intro j hj
  rcases (show j = 0 ∨ j = 1 ∨ j = 2 ∨ j = 3 by omega) with rfl | rfl | rfl | rfl <;> rfl
theorem fs_R : ∀ j, j < 2 → defaultValue (ft_R j) = vp_V [.null, .int 0] j := by
  intro j hj
  rcases (show j = 0 ∨ j = 1 by omega) with rfl | rfl <;> rfl
theorem fs_T : ∀ j, j < 6 → defaultValue (ft_T j) = vp_V [.null, .null, .int 0, .int 0, .int 0, .int 0] j := by
  intro j hj
  rcases (show j = 0 ∨ j = 1 ∨ j = 2 ∨ j = 3 ∨ j = 4 ∨ j = 5 by omega) with rfl | rfl | rfl | rfl | rfl | rfl <;> rfl
theorem fs_M : ∀ j, j < 33 → defaultValue (ft_M j) = vp_V [.int 0, .int 0, .int 0, .null, .int 0, .null, .null, .int 0, .int 0, .int 0, .int 0, .int 0, .null, .int 0, .null, .null, .int 0, .int 0, .null, .int 0, .int 0, .null, .null, .null, .null, .null, .int 0, .null, .null, .int 0, .int 0, .null, .null] j := by
  intro j hj
  rcases (show j = 0 ∨ j = 1 ∨ j = 2 ∨ j = 3 ∨ j = 4 ∨ j = 5 ∨ j = 6 ∨ j = 7 ∨ j = 8 ∨ j = 9 ∨ j = 10 ∨ j = 11 ∨ j = 12 ∨ j = 13 ∨ j = 14 ∨ j = 15 ∨ j = 16 ∨ j = 17 ∨ j = 18 ∨ j = 19 ∨ j = 20 ∨ j = 21 ∨ j = 22 ∨ j = 23 ∨ j = 24 ∨ j = 25 ∨ j = 26 ∨ j = 27 ∨ j = 28 ∨ j = 29 ∨ j = 30 ∨ j = 31 ∨ j = 32 by omega) with rfl | rfl | rfl | rfl | rfl | rfl | rfl | rfl | rfl | rfl | rfl | rfl | rfl | rfl | rfl | rfl | rfl | rfl | rfl | rfl | rfl | rfl | rfl | rfl | rfl | rfl | rfl | rfl | rfl | rfl | rfl | rfl | rfl <;> rfl
