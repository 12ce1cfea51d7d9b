/-! What the printed mirrors and contracts stand on: the state of an object by numbers, the checks that a mirror makes, cuts and loops. -/
abbrev SS : Type := (Nat → Int32) × (Nat → Nat → Int32)
abbrev SX : Type := Nat → SS
def w1 (σ : SX) (j k : Nat) (v : Int32) : SX := fun i => if i = j then (fun q => if q = k then v else (σ j).1 q, (σ j).2) else σ i
def w2 (σ : SX) (j k : Nat) (f : Nat → Int32) : SX := fun i => if i = j then ((σ j).1, fun q => if q = k then f else (σ j).2 q) else σ i
def w3 (σ : SX) (j k : Nat) (i x : Int32) : SX := w2 σ j k (upd ((σ j).2 k) i.toNatClampNeg x)
def inb (i : Int32) (n : Nat) : Bool := decide (0 ≤ i.toInt ∧ i.toInt < n)
theorem inb_in {i : Int32} {n : Nat} (h : inb i n = true) : vp_in i n := vp_in_iff.mpr (of_decide_eq_true h)
theorem inb_lt {i : Int32} {n : Nat} (h : inb i n = true) : i.toNatClampNeg < n := Nat.not_le.mp fun q => inb_in h (Or.inr q)
theorem inb2_1 {i : Int32} (h : inb i 2 = true) (h0 : ¬ i = 0) : i = 1 := by
  obtain ⟨h1, h2⟩ := of_decide_eq_true h
  have h3 : ¬ i.toInt = 0 := fun q => h0 (Int32.toInt_inj.mp (by rw [q]; rfl))
  exact Int32.toInt_inj.mp (by show i.toInt = 1; omega)
theorem gd_c {α : Type} {c : Prop} [Decidable c] {a : Option α} {x : α} (h : (if c then a else none) = some x) : c := by
  by_cases hc : c
  · exact hc
  · rw [if_neg hc] at h; cases h
theorem gd_v {α : Type} {c : Prop} [Decidable c] {a : Option α} {x : α} (h : (if c then a else none) = some x) : a = some x := by
  by_cases hc : c
  · rw [if_pos hc] at h; exact h
  · rw [if_neg hc] at h; cases h
def isB (v : Int32) : Bool := decide (v = 0 ∨ v = 1)
theorem isB_n {v : Int32} (h : isB v = true) : narrow .boolean (.int v) = .int v := by
  rcases of_decide_eq_true h with rfl | rfl <;> rfl
theorem isB_f {v : Int32} (h : isB v = true) : fits .boolean (.int v) = true := by
  rcases of_decide_eq_true h with rfl | rfl <;> rfl
def cpok (sp dp n : Int32) (n0 n1 : Nat) : Bool := decide (0 ≤ sp.toInt ∧ 0 ≤ dp.toInt ∧ 0 ≤ n.toInt ∧ sp.toInt + n.toInt ≤ n0 ∧ dp.toInt + n.toInt ≤ n1)
theorem neg_of {x : Int32} (h : 0 ≤ x.toInt) : ¬ x < 0 := by
  rw [Int32.lt_iff_toInt_lt, Int32.toInt_zero]; omega
theorem clamp_int {x : Int32} (h : 0 ≤ x.toInt) : (x.toNatClampNeg : Int) = x.toInt := Int.toNat_of_nonneg h
theorem cpok_1 {sp dp n : Int32} {n0 n1 : Nat} (h : cpok sp dp n n0 n1 = true) : ¬ sp < 0 := neg_of (of_decide_eq_true h).1
theorem cpok_2 {sp dp n : Int32} {n0 n1 : Nat} (h : cpok sp dp n n0 n1 = true) : ¬ dp < 0 := neg_of (of_decide_eq_true h).2.1
theorem cpok_3 {sp dp n : Int32} {n0 n1 : Nat} (h : cpok sp dp n n0 n1 = true) : ¬ n < 0 := neg_of (of_decide_eq_true h).2.2.1
theorem cpok_4 {sp dp n : Int32} {n0 n1 : Nat} (h : cpok sp dp n n0 n1 = true) : sp.toNatClampNeg + n.toNatClampNeg ≤ n0 := by
  obtain ⟨h1, h2, h3, h4, h5⟩ := of_decide_eq_true h
  have := clamp_int h1; have := clamp_int h3; omega
theorem cpok_5 {sp dp n : Int32} {n0 n1 : Nat} (h : cpok sp dp n n0 n1 = true) : dp.toNatClampNeg + n.toNatClampNeg ≤ n1 := by
  obtain ⟨h1, h2, h3, h4, h5⟩ := of_decide_eq_true h
  have := clamp_int h2; have := clamp_int h3; omega
def bI {β : Type} (o : Option (Int32 × SX)) (k : Int32 → SX → Option β) : Option β := match o with
  | none => none
  | some q => k q.1 q.2
theorem bI_some {β : Type} {o : Option (Int32 × SX)} {k : Int32 → SX → Option β} {x : β} (h : bI o k = some x) : ∃ (r : Int32) (σ : SX), o = some (r, σ) ∧ k r σ = some x := by
  cases o with
  | none => cases h
  | some q => exact ⟨q.1, q.2, rfl, h⟩
def bR {β : Type} (o : Option (Nat × SX)) (k : Nat → SX → Option β) : Option β := match o with
  | none => none
  | some q => k q.1 q.2
theorem bR_some {β : Type} {o : Option (Nat × SX)} {k : Nat → SX → Option β} {x : β} (h : bR o k = some x) : ∃ (r : Nat) (σ : SX), o = some (r, σ) ∧ k r σ = some x := by
  cases o with
  | none => cases h
  | some q => exact ⟨q.1, q.2, rfl, h⟩
def bV {β : Type} (o : Option SX) (k : SX → Option β) : Option β := match o with
  | none => none
  | some q => k q
theorem bV_some {β : Type} {o : Option SX} {k : SX → Option β} {x : β} (h : bV o k = some x) : ∃ σ : SX, o = some σ ∧ k σ = some x := by
  cases o with
  | none => cases h
  | some q => exact ⟨q, rfl, h⟩
def bP {β : Type} (o : Option Int32) (k : Int32 → Option β) : Option β := match o with
  | none => none
  | some q => k q
theorem bP_some {β : Type} {o : Option Int32} {k : Int32 → Option β} {x : β} (h : bP o k = some x) : ∃ r : Int32, o = some r ∧ k r = some x := by
  cases o with
  | none => cases h
  | some q => exact ⟨q, rfl, h⟩
def bL {β : Type} (o : Option Int64) (k : Int64 → Option β) : Option β := match o with
  | none => none
  | some q => k q
theorem bL_some {β : Type} {o : Option Int64} {k : Int64 → Option β} {x : β} (h : bL o k = some x) : ∃ r : Int64, o = some r ∧ k r = some x := by
  cases o with
  | none => cases h
  | some q => exact ⟨q, rfl, h⟩
theorem P_eq {D : va_G} {cl : List vw_C} {w w' : va_W} {H : Heap} (e : w = w') (h : va_P D cl w H) : va_P D cl w' H := e ▸ h
theorem D_eq {A : Nat → Prop} {w w' : va_W} (e : w = w') (h : va_D A w) : va_D A w' := e ▸ h
theorem free_all {A : Nat → Prop} {ws : va_W} {H0 H : Heap} {locs : List Loc} (hD : va_D A ws) (hS : va_S A H0 H locs) (hA : ∀ q, H0.size ≤ q → A q) : ∀ q, va_A ws H.size q → A q := by
  intro q h
  rcases h with ⟨k, e, hk⟩ | h
  · exact hD.2 k (q, e) hk
  · exact hA q (Nat.le_trans hS.1 h)
theorem keepP {D : va_G} {cl : List vw_C} {ws : va_W} {H H1 : Heap} (hP : va_P D cl ws H) (hk : ∀ q : Nat, q < H.size → ¬ H.size ≤ q → H1[q]? = H[q]?) : va_P D cl ws H1 :=
  hP.kept (fun k q hq => hk q.1 (va_at.lt (hP k q hq)) (Nat.not_le.mpr (va_at.lt (hP k q hq))))
/-- a default of a switch over 1, 2, 3 -/
theorem sw_out3 {x : Int32} (h1 : ¬ x = 1) (h2 : ¬ x = 2) (h3 : ¬ x = 3) : x.toInt < 1 ∨ 3 < x.toInt := by
  have a1 : ¬ x.toInt = 1 := fun q => h1 (Int32.toInt_inj.mp (by rw [q]; rfl))
  have a2 : ¬ x.toInt = 2 := fun q => h2 (Int32.toInt_inj.mp (by rw [q]; rfl))
  have a3 : ¬ x.toInt = 3 := fun q => h3 (Int32.toInt_inj.mp (by rw [q]; rfl))
  omega
section Cuts
variable {p : Program} {l : Launch} {e : Env} {R : Room} {s : State} {m : MethodId} {args : Array Value} {below : List Frame} {meth : Method} {c : Code} {cells slots : Nat} {Q : State → Prop}
theorem W_cut {pc : Nat} (I : Heap → List Loc → Array Slot → List Value → Prop) {H0 : Heap} {locs0 : List Loc} {g0 : JFrame}
    (body : ∀ H locs ls st, I H locs ls st → W p l e R s m args below meth c H locs cells slots Q (F0 m pc ls st))
    (k : (∀ H locs ls st, I H locs ls st → W p l e R s m args below meth c H locs cells slots Q (F0 m pc ls st)) → W p l e R s m args below meth c H0 locs0 cells slots Q g0) :
    W p l e R s m args below meth c H0 locs0 cells slots Q g0 := k body
theorem W_loop {pc : Nat} (I : Nat → Heap → List Loc → Array Slot → List Value → Prop) {H0 : Heap} {locs0 : List Loc} {g0 : JFrame}
    (zero : ∀ H locs ls st, ¬ I 0 H locs ls st)
    (step : ∀ n, (∀ H locs ls st, I n H locs ls st → W p l e R s m args below meth c H locs cells slots Q (F0 m pc ls st)) → ∀ H locs ls st, I (n + 1) H locs ls st → W p l e R s m args below meth c H locs cells slots Q (F0 m pc ls st))
    (k : (∀ n H locs ls st, I n H locs ls st → W p l e R s m args below meth c H locs cells slots Q (F0 m pc ls st)) → W p l e R s m args below meth c H0 locs0 cells slots Q g0) :
    W p l e R s m args below meth c H0 locs0 cells slots Q g0 := by
  refine k fun n => ?_
  induction n with
  | zero => exact fun H locs ls st h => absurd h (zero H locs ls st)
  | succ n ih => exact step n ih
variable {cc : ByteArray} {pc : Nat} {ls : Array Slot} {rest : List Value} {D : va_G} {cl : List vw_C} {A : Nat → Prop} {a : Nat} {tys : List (ClassId × FieldType)} {ws : va_W} {H : Heap} {locs : List Loc}
/-- an array of arrays is read -/
theorem va_aldv (hexec : p.tables.exec = Jvm.exec) (hb : c.code = cc) (hK : va_K D cl tys s) (hP : va_P D cl ws H) (q0 t0 : Nat) {cA : ClassId} {n : Nat} {f : Nat → Option Nat} (ha : ws[q0]? = some (a, .inl (cA, n, .inr (.inr (.inr (.inr f)))))) (ht : tys[t0]? = some (cA, .array .int)) {i : Int32} (hin : vp_in i n) (hdg : decode cc pc = .ok (.aaload, 1))
    (kk : W p l e R s m args below meth c H locs cells slots Q (F0 m (pc + 1) ls (va_rf (f i.toNatClampNeg) :: rest))) : W p l e R s m args below meth c H locs cells slots Q (F0 m pc ls (.int i :: .ref a :: rest)) := by
  have hlt : i.toNatClampNeg < n := Nat.not_le.mp fun q => hin (Or.inr q)
  exact W.aald (v := va_rf (f i.toNatClampNeg)) (ty := .array .int) hexec hb (hP q0 _ ha) ((hK.2 t0 _ ht).1 n (fun j => va_rf (f j))) rfl (fun q => by cases q) (by show ¬ (i < 0 ∨ (arrV _ _ _).slots.size ≤ _); rw [arrV_size]; exact hin) (by show (arrV _ _ _).slots[_]? = _; rw [arrV_read _ _ hlt]) rfl rfl hdg kk
end Cuts
/-- the words that every method stands on: what the tables say that stays -/
def tb : List Cond := lw_tbl.filter goodWord
def wd (y : MethodName) (b : ByteArray) (n : Nat) (r : Option FieldType) : List Cond := .code y b n r :: tb
theorem mem_tb {w : Cond} (h : w ∈ tables_1) (g : goodWord w = true) : w ∈ tb := List.mem_filter.mpr ⟨List.mem_append_right _ h, g⟩
theorem mem_tbs {w : Cond} (h : w ∈ k2_sels lw_privs) (g : goodWord w = true) : w ∈ tb := List.mem_filter.mpr ⟨List.mem_append_left _ h, g⟩
theorem tb_good {w : Cond} (h : w ∈ tb) : (w.onTables && w.keeps) = true ∨ ∃ ty, w = .arrayClass ty := good_of_word (List.mem_filter.mp h).2
theorem goodW {y y2 : MethodName} {b b2 : ByteArray} {n n2 : Nat} {r r2 : Option FieldType} (h : Cond.code y2 b2 n2 r2 ∈ tb) : GoodIn (wd y b n r) (wd y2 b2 n2 r2) := by
  intro w hw
  rcases List.mem_cons.mp hw with rfl | hw
  · exact ⟨List.mem_cons_of_mem _ h, tb_good h⟩
  · exact ⟨List.mem_cons_of_mem _ hw, tb_good hw⟩
theorem goodV {y y2 : MethodName} {b b2 : ByteArray} {n n2 : Nat} {r r2 : Option FieldType} {own C : String} {idx : Nat} (h1 : Cond.methodLink own idx y2 ∈ tb) (h2 : Cond.instanceMethod y2 ∈ tb) (h3 : Cond.selects C y2 y2 ∈ tb) (h4 : Cond.initialized C ∈ tb) (h : Cond.code y2 b2 n2 r2 ∈ tb) : GoodIn (wd y b n r) (wsV own idx C y2 (wd y2 b2 n2 r2)) := by
  intro w hw
  rcases List.mem_append.mp hw with hw | hw
  · have hw : w ∈ tb := by
      simp only [List.mem_cons, List.not_mem_nil, or_false] at hw
      rcases hw with rfl | rfl | rfl | rfl <;> assumption
    exact ⟨List.mem_cons_of_mem _ hw, tb_good hw⟩
  · exact goodW h w hw
theorem goodS {y y2 : MethodName} {b b2 : ByteArray} {n n2 : Nat} {r r2 : Option FieldType} {own : String} {idx : Nat} (h1 : Cond.methodLink own idx y2 ∈ tb) (h2 : Cond.static y2 ∈ tb) (h4 : Cond.initialized own ∈ tb) (h : Cond.code y2 b2 n2 r2 ∈ tb) : GoodIn (wd y b n r) (wsS own idx y2 (wd y2 b2 n2 r2)) := by
  intro w hw
  rcases List.mem_append.mp hw with hw | hw
  · have hw : w ∈ tb := by
      simp only [List.mem_cons, List.not_mem_nil, or_false] at hw
      rcases hw with rfl | rfl | rfl <;> assumption
    exact ⟨List.mem_cons_of_mem _ hw, tb_good hw⟩
  · exact goodW h w hw
theorem blindS {av : List Value} {sz : Nat} : FrameBlind (va_Pc av (fun U => U.heap.size = sz)) := fun a U g mk q => q
theorem payS {s : State} {H : Heap} {av : List Value} : ∀ U : State, U.heap = H → s.WarmedH U.vm → va_Pc av (fun U => U.heap.size = H.size) av.toArray U := fun U hU _ => ⟨rfl, by show U.heap.size = _; rw [hU]⟩
def va_AI (U : State) : Prop := (Cond.arrayOver (.array .int)).before #[] U = true
theorem va_AI.moved {u U : State} (hvm : u.vm.Alike U.vm) (h : va_AI u) : va_AI U := by
  have h0 : (Cond.arrayOver (.array .int)).holds #[] u none u [] = true := h
  simp only [Cond.holds, Cond.value, beq_iff_eq] at h0
  cases hc : u.vm.findClass (FieldType.array .int).toString with
  | none => simp [hc] at h0
  | some comp =>
    simp only [hc, Option.bind_some, Option.bind_eq_some_iff, Option.map_eq_some_iff] at h0
    obtain ⟨c, hi0, k, hk, hb⟩ := h0
    obtain ⟨k', hk', he⟩ := hvm.2.2 _ _ hk
    have hi : (U.vm.classes.findIdx? fun (x : Class) => match x.kind with | .array component _ => component == comp | _ => false) = some c := by
      have e1 := va_idx_bare U.vm comp
      have e2 := va_idx_bare u.vm comp
      have e3 : U.vm.bare = u.vm.bare := by first | exact hvm.bare_eq | exact hvm.bare_eq.symm
      exact e1.symm.trans ((congrArg (fun (v : Vm) => v.classes.findIdx? fun (x : Class) => match x.kind with | .array component _ => component == comp | _ => false) e3).trans (e2.trans hi0))
    have f1 : U.vm.findClass (FieldType.array .int).toString = some comp := by rw [hvm.findClass]; exact hc
    obtain ⟨hlt, hp, -⟩ := Array.findIdx?_eq_some_iff_getElem.mp hi0
    have hkk : u.vm.classes[c] = k := (Array.getElem?_eq_some_iff.mp hk).2
    rw [hkk] at hp
    cases hkind : k.kind with
    | array component ty =>
      rw [hkind] at hb hp
      simp at hb hp
      have hkind' : k'.kind = .array comp (.array .int) := by rw [he]; show k.kind = _; rw [hkind, hp, hb.1]
      have f2 : U.vm.findClass ("[" ++ (FieldType.array .int).toString) = some c := by rw [hvm.findClass]; exact hb.2
      unfold va_AI Cond.before Cond.holds
      simp only [Cond.value]
      rw [f1, Option.bind_some]
      refine (congrArg (fun o : Option Nat => (o.bind (fun c => (U.vm.classes[c]?).map fun (k : Class) => match k.kind with | .array _ ty => decide (ty = FieldType.array .int) && decide (U.vm.findClass ("[" ++ (FieldType.array .int).toString) = some c) | _ => false) == some true)) hi).trans ?_
      simp [hk', hkind', f2]
    | _ => rw [hkind] at hb; simp at hb
