theorem d_O_tapeInRole_0 : decode b_O_tapeInRole 0 = .ok (.aload_n 0, 1) := by decide +kernel
theorem d_O_tapeInRole_1 : decode b_O_tapeInRole 1 = .ok (.getfield 39, 3) := by decide +kernel
theorem d_O_tapeInRole_4 : decode b_O_tapeInRole 4 = .ok (.aload_n 0, 1) := by decide +kernel
theorem d_O_tapeInRole_5 : decode b_O_tapeInRole 5 = .ok (.getfield 43, 3) := by decide +kernel
theorem d_O_tapeInRole_8 : decode b_O_tapeInRole 8 = .ok (.iload_n 1, 1) := by decide +kernel
theorem d_O_tapeInRole_9 : decode b_O_tapeInRole 9 = .ok (.iaload, 1) := by decide +kernel
theorem d_O_tapeInRole_10 : decode b_O_tapeInRole 10 = .ok (.aaload, 1) := by decide +kernel
theorem d_O_tapeInRole_11 : decode b_O_tapeInRole 11 = .ok (.areturn, 1) := by decide +kernel
def m_O_tapeInRole (N : Nat) (σ : SX) (a1 : Int32) : Option (Nat × SX) :=
  (if inb a1 4 = true then (if inb ((σ 0).2 1 a1.toNatClampNeg) 4 = true then some (((σ 0).2 1 a1.toNatClampNeg).toNatClampNeg, σ) else none) else none)

set_option maxHeartbeats 4000000 in
set_option maxRecDepth 100000 in
theorem c_O_tapeInRole (l : Launch) (dC : Nat → ClassId) (dI : Nat → Nat → Nat) (ad : Nat → Nat → Nat) (cs : Nat → ClassId) (sz N : Nat) (σ : SX) (a1 : Int32) {r0 : Nat} {σ0 : SX} (hM : m_O_tapeInRole N σ a1 = some (r0, σ0)) : Met l y_O_tapeInRole (wd y_O_tapeInRole b_O_tapeInRole 2 (some (.object "ReelOffice$Tape"))) ({ frames := 0, cells := 0, slots := 0, locals := 0 }) (va_Pc [.ref (ad 0 0), .int a1] (preX dC dI ad cs sz σ)) (va_Qr (fun (_ : Unit) => σ = σ0) (fun _ a _ => a = ad (7 + r0) 0 ∧ r0 < 4) (fun q => sz ≤ q)) 0 0 (fun q => sz ≤ q) := by
  refine Met.ofW (cc := b_O_tapeInRole) (maxL := 2) (ret := (some (.object "ReelOffice$Tape"))) (by decide) rfl ?_
  intro p e s m args below meth c s₁ B hml hv
  obtain ⟨rfl, hsz, hP, hK, hD0, hN⟩ := hv
  have hx := B.exec
  have hb := B.bytes
  have hr := B.returns
  have hts := atoms_spec (ws := (wd y_O_tapeInRole b_O_tapeInRole 2 (some (.object "ReelOffice$Tape")))) B.pre
  have htb : ∀ w ∈ tb, w.before _ s = true := fun w h => hts w (List.mem_cons_of_mem _ h)
  have hown : s.vm.findClass R_O = some m.cls := findClass_of_methodNamed B.named
  have hlocks := B.notSynchronized
  subst hsz
  have hD := hD0
  have hA : ∀ q : Nat, s.heap.size ≤ q → s.heap.size ≤ q := fun q h => h
  have hS : va_S (fun q => s.heap.size ≤ q) s.heap s.heap [] := va_S.rf
  have hP : va_P (dC, dI) classes (wX ad cs σ) s.heap := hP
  have hl := lv_entry ([.ref (ad 0 0), .int a1]) (n := 2) (Nat.le_of_ble_eq_true rfl)
  rw [lg_entry_eq]
  generalize (lg_sl ([.ref (ad 0 0), .int a1]) ++ List.replicate (2 - (lg_sl ([.ref (ad 0 0), .int a1])).length) Slot.unset).toArray = ls at hl ⊢
  have hl : lv_has ls 2 [(0, .ref (ad 0 0)), (1, .int a1)] := hl
  rw [m_O_tapeInRole] at hM
  refine lv_aload_n hx hb d_O_tapeInRole_0 rfl (lv_at hl 0 rfl) ?_
  refine va_get (D := (dC, dI)) (ci := 0) (v := .ref (ad 0 9)) (C := R_O) (T := F_O) (N := 12) hx hb htb in_O hown hK hP 0 (g_O) rfl 6 (by decide) (htb _ k_154) (fun _ h9 => h9) rfl d_O_tapeInRole_1 ?_
  refine lv_aload_n hx hb d_O_tapeInRole_4 rfl (lv_at hl 0 rfl) ?_
  refine va_get (D := (dC, dI)) (ci := 0) (v := .ref (ad 0 1)) (C := R_O) (T := F_O) (N := 12) hx hb htb in_O hown hK hP 0 (g_O) rfl 7 (by decide) (htb _ k_155) (fun _ h9 => h9) rfl d_O_tapeInRole_5 ?_
  refine lv_iload_n hx hb d_O_tapeInRole_8 rfl (lv_at hl 1 rfl) ?_
  have hg9 := gd_c hM
  have hM := gd_v hM
  refine va_iald hx hb hK hP 31 0 (g_O_a1) rfl (inb_in hg9) d_O_tapeInRole_9 ?_
  have hg10 := gd_c hM
  have hM := gd_v hM
  refine va_aldq hx hb hK hP 18 2 (f := fun i => some (ad (7 + i) 0)) g_tapes rfl (inb_in hg10) d_O_tapeInRole_10 ?_
  refine W.eq (g2 := F0 m 11 ls [.ref (ad (7 + ((σ 0).2 1 a1.toNatClampNeg).toNatClampNeg) 0)]) rfl ?_
  have e9 := Prod.mk.inj (Option.some.inj hM)
  exact W.aret (v := .ref (ad (7 + ((σ 0).2 1 a1.toNatClampNeg).toNatClampNeg) 0)) hx hb hr (Or.inl ⟨_, rfl⟩) (Or.inr ⟨_, rfl⟩) (fun t ht hW => ⟨⟨(), ad (7 + ((σ 0).2 1 a1.toNatClampNeg).toNatClampNeg) 0, rfl, e9.2, by rw [← e9.1], by rw [← e9.1]; exact (inb_lt hg10)⟩, hS.F ht⟩) hS.2.2 d_O_tapeInRole_11

theorem d_T_hasDummy_0 : decode b_T_hasDummy 0 = .ok (.aload_n 0, 1) := by decide +kernel
theorem d_T_hasDummy_1 : decode b_T_hasDummy 1 = .ok (.getfield 25, 3) := by decide +kernel
theorem d_T_hasDummy_4 : decode b_T_hasDummy 4 = .ok (.ifCond .le 7, 3) := by decide +kernel
theorem d_T_hasDummy_7 : decode b_T_hasDummy 7 = .ok (.iconst 1, 1) := by decide +kernel
theorem d_T_hasDummy_8 : decode b_T_hasDummy 8 = .ok (.goto 4, 3) := by decide +kernel
theorem d_T_hasDummy_11 : decode b_T_hasDummy 11 = .ok (.iconst 0, 1) := by decide +kernel
theorem d_T_hasDummy_12 : decode b_T_hasDummy 12 = .ok (.ireturn, 1) := by decide +kernel
def m_T_hasDummy (N : Nat) (σ : SX) (i : Nat) : Option (Int32 × SX) :=
  (if ((σ (7 + i)).1 2) ≤ 0 then some (0, σ) else some (1, σ))

set_option maxHeartbeats 4000000 in
set_option maxRecDepth 100000 in
theorem c_T_hasDummy (l : Launch) (dC : Nat → ClassId) (dI : Nat → Nat → Nat) (ad : Nat → Nat → Nat) (cs : Nat → ClassId) (sz N : Nat) (σ : SX) (i : Nat) (hi : i < 4) {r0 : Int32} {σ0 : SX} (hM : m_T_hasDummy N σ i = some (r0, σ0)) : Met l y_T_hasDummy (wd y_T_hasDummy b_T_hasDummy 1 (some .boolean)) ({ frames := 0, cells := 0, slots := 0, locals := 0 }) (va_Pc [.ref (ad (7 + i) 0)] (preX dC dI ad cs sz σ)) (va_Qi (fun (r : Int32) (_ : Unit) => r = r0 ∧ σ = σ0) (fun _ _ => True) (fun q => sz ≤ q)) 0 0 (fun q => sz ≤ q) := by
  refine Met.ofW (cc := b_T_hasDummy) (maxL := 1) (ret := (some .boolean)) (by decide) rfl ?_
  intro p e s m args below meth c s₁ B hml hv
  obtain ⟨rfl, hsz, hP, hK, hD0, hN⟩ := hv
  have hx := B.exec
  have hb := B.bytes
  have hr := B.returns
  have hts := atoms_spec (ws := (wd y_T_hasDummy b_T_hasDummy 1 (some .boolean))) B.pre
  have htb : ∀ w ∈ tb, w.before _ s = true := fun w h => hts w (List.mem_cons_of_mem _ h)
  have hown : s.vm.findClass R_T = some m.cls := findClass_of_methodNamed B.named
  have hlocks := B.notSynchronized
  subst hsz
  have hD := hD0
  have hA : ∀ q : Nat, s.heap.size ≤ q → s.heap.size ≤ q := fun q h => h
  have hS : va_S (fun q => s.heap.size ≤ q) s.heap s.heap [] := va_S.rf
  have hP : va_P (dC, dI) classes (wX ad cs σ) s.heap := hP
  have hl := lv_entry ([.ref (ad (7 + i) 0)]) (n := 1) (Nat.le_of_ble_eq_true rfl)
  rw [lg_entry_eq]
  generalize (lg_sl ([.ref (ad (7 + i) 0)]) ++ List.replicate (1 - (lg_sl ([.ref (ad (7 + i) 0)])).length) Slot.unset).toArray = ls at hl ⊢
  have hl : lv_has ls 1 [(0, .ref (ad (7 + i) 0))] := hl
  rw [m_T_hasDummy] at hM
  refine lv_aload_n hx hb d_T_hasDummy_0 rfl (lv_at hl 0 rfl) ?_
  refine va_get (D := (dC, dI)) (ci := 6) (v := .int ((σ (7 + i)).1 2)) (C := R_T) (T := F_T) (N := 6) hx hb htb in_T hown hK hP (19 + 3 * i) (g_T hi) rfl 4 (by decide) (htb _ k_133) (fun _ h9 => h9) rfl d_T_hasDummy_1 ?_
  refine lv_if_le (tgt := 11) hx hb d_T_hasDummy_4 (by decide) (fun h4 => ?_) (fun h4 => ?_)
  · rw [if_pos h4] at hM
    refine lv_iconst (v := 0) hx hb d_T_hasDummy_11 (by decide) ?_
    have e9 := Prod.mk.inj (Option.some.inj hM)
    exact W.zret (ty := .boolean) (v := 0) hx hb hr rfl (fun t ht hW => ⟨⟨0, (), rfl, e9, trivial⟩, hS.F ht⟩) hS.2.2 d_T_hasDummy_12
  · rw [if_neg h4] at hM
    refine lv_iconst (v := 1) hx hb d_T_hasDummy_7 (by decide) ?_
    refine lv_goto (tgt := 12) hx hb d_T_hasDummy_8 (by decide) ?_
    have e9 := Prod.mk.inj (Option.some.inj hM)
    exact W.zret (ty := .boolean) (v := 1) hx hb hr rfl (fun t ht hW => ⟨⟨1, (), rfl, e9, trivial⟩, hS.F ht⟩) hS.2.2 d_T_hasDummy_12

theorem d_T_takeFirstRun_0 : decode b_T_takeFirstRun 0 = .ok (.aload_n 0, 1) := by decide +kernel
theorem d_T_takeFirstRun_1 : decode b_T_takeFirstRun 1 = .ok (.getfield 22, 3) := by decide +kernel
theorem d_T_takeFirstRun_4 : decode b_T_takeFirstRun 4 = .ok (.ifCond .ne 4, 3) := by decide +kernel
theorem d_T_takeFirstRun_7 : decode b_T_takeFirstRun 7 = .ok (.return_, 1) := by decide +kernel
theorem d_T_takeFirstRun_8 : decode b_T_takeFirstRun 8 = .ok (.aload_n 0, 1) := by decide +kernel
theorem d_T_takeFirstRun_9 : decode b_T_takeFirstRun 9 = .ok (.getfield 15, 3) := by decide +kernel
theorem d_T_takeFirstRun_12 : decode b_T_takeFirstRun 12 = .ok (.iconst 0, 1) := by decide +kernel
theorem d_T_takeFirstRun_13 : decode b_T_takeFirstRun 13 = .ok (.iaload, 1) := by decide +kernel
theorem d_T_takeFirstRun_14 : decode b_T_takeFirstRun 14 = .ok (.istore_n 1, 1) := by decide +kernel
theorem d_T_takeFirstRun_15 : decode b_T_takeFirstRun 15 = .ok (.aload_n 0, 1) := by decide +kernel
theorem d_T_takeFirstRun_16 : decode b_T_takeFirstRun 16 = .ok (.dup, 1) := by decide +kernel
theorem d_T_takeFirstRun_17 : decode b_T_takeFirstRun 17 = .ok (.getfield 18, 3) := by decide +kernel
theorem d_T_takeFirstRun_20 : decode b_T_takeFirstRun 20 = .ok (.iload_n 1, 1) := by decide +kernel
theorem d_T_takeFirstRun_21 : decode b_T_takeFirstRun 21 = .ok (.isub, 1) := by decide +kernel
theorem d_T_takeFirstRun_22 : decode b_T_takeFirstRun 22 = .ok (.putfield 18, 3) := by decide +kernel
theorem d_T_takeFirstRun_25 : decode b_T_takeFirstRun 25 = .ok (.aload_n 0, 1) := by decide +kernel
theorem d_T_takeFirstRun_26 : decode b_T_takeFirstRun 26 = .ok (.getfield 9, 3) := by decide +kernel
theorem d_T_takeFirstRun_29 : decode b_T_takeFirstRun 29 = .ok (.iload_n 1, 1) := by decide +kernel
theorem d_T_takeFirstRun_30 : decode b_T_takeFirstRun 30 = .ok (.aload_n 0, 1) := by decide +kernel
theorem d_T_takeFirstRun_31 : decode b_T_takeFirstRun 31 = .ok (.getfield 9, 3) := by decide +kernel
theorem d_T_takeFirstRun_34 : decode b_T_takeFirstRun 34 = .ok (.iconst 0, 1) := by decide +kernel
theorem d_T_takeFirstRun_35 : decode b_T_takeFirstRun 35 = .ok (.aload_n 0, 1) := by decide +kernel
theorem d_T_takeFirstRun_36 : decode b_T_takeFirstRun 36 = .ok (.getfield 18, 3) := by decide +kernel
theorem d_T_takeFirstRun_39 : decode b_T_takeFirstRun 39 = .ok (.invokestatic 41, 3) := by decide +kernel
theorem d_T_takeFirstRun_42 : decode b_T_takeFirstRun 42 = .ok (.aload_n 0, 1) := by decide +kernel
theorem d_T_takeFirstRun_43 : decode b_T_takeFirstRun 43 = .ok (.dup, 1) := by decide +kernel
theorem d_T_takeFirstRun_44 : decode b_T_takeFirstRun 44 = .ok (.getfield 22, 3) := by decide +kernel
theorem d_T_takeFirstRun_47 : decode b_T_takeFirstRun 47 = .ok (.iconst 1, 1) := by decide +kernel
theorem d_T_takeFirstRun_48 : decode b_T_takeFirstRun 48 = .ok (.isub, 1) := by decide +kernel
theorem d_T_takeFirstRun_49 : decode b_T_takeFirstRun 49 = .ok (.putfield 22, 3) := by decide +kernel
theorem d_T_takeFirstRun_52 : decode b_T_takeFirstRun 52 = .ok (.aload_n 0, 1) := by decide +kernel
theorem d_T_takeFirstRun_53 : decode b_T_takeFirstRun 53 = .ok (.getfield 15, 3) := by decide +kernel
theorem d_T_takeFirstRun_56 : decode b_T_takeFirstRun 56 = .ok (.iconst 1, 1) := by decide +kernel
theorem d_T_takeFirstRun_57 : decode b_T_takeFirstRun 57 = .ok (.aload_n 0, 1) := by decide +kernel
theorem d_T_takeFirstRun_58 : decode b_T_takeFirstRun 58 = .ok (.getfield 15, 3) := by decide +kernel
theorem d_T_takeFirstRun_61 : decode b_T_takeFirstRun 61 = .ok (.iconst 0, 1) := by decide +kernel
theorem d_T_takeFirstRun_62 : decode b_T_takeFirstRun 62 = .ok (.aload_n 0, 1) := by decide +kernel
theorem d_T_takeFirstRun_63 : decode b_T_takeFirstRun 63 = .ok (.getfield 22, 3) := by decide +kernel
theorem d_T_takeFirstRun_66 : decode b_T_takeFirstRun 66 = .ok (.invokestatic 41, 3) := by decide +kernel
theorem d_T_takeFirstRun_69 : decode b_T_takeFirstRun 69 = .ok (.return_, 1) := by decide +kernel
def m_T_takeFirstRun (N : Nat) (σ : SX) (i : Nat) : Option (SX) :=
  (if ((σ (7 + i)).1 1) = 0 then some σ else (if cpok ((σ (7 + i)).2 2 (0 : Int32).toNatClampNeg) 0 (((w1 σ (7 + i) 0 (((σ (7 + i)).1 0) - ((σ (7 + i)).2 2 (0 : Int32).toNatClampNeg))) (7 + i)).1 0) 150 150 = true then (if cpok 1 0 (((w1 (w2 (w1 σ (7 + i) 0 (((σ (7 + i)).1 0) - ((σ (7 + i)).2 2 (0 : Int32).toNatClampNeg))) (7 + i) 1 (va_cpy (((w1 σ (7 + i) 0 (((σ (7 + i)).1 0) - ((σ (7 + i)).2 2 (0 : Int32).toNatClampNeg))) (7 + i)).2 1) (((w1 σ (7 + i) 0 (((σ (7 + i)).1 0) - ((σ (7 + i)).2 2 (0 : Int32).toNatClampNeg))) (7 + i)).2 1) ((σ (7 + i)).2 2 (0 : Int32).toNatClampNeg).toNatClampNeg (0 : Int32).toNatClampNeg (((w1 σ (7 + i) 0 (((σ (7 + i)).1 0) - ((σ (7 + i)).2 2 (0 : Int32).toNatClampNeg))) (7 + i)).1 0).toNatClampNeg)) (7 + i) 1 ((((w2 (w1 σ (7 + i) 0 (((σ (7 + i)).1 0) - ((σ (7 + i)).2 2 (0 : Int32).toNatClampNeg))) (7 + i) 1 (va_cpy (((w1 σ (7 + i) 0 (((σ (7 + i)).1 0) - ((σ (7 + i)).2 2 (0 : Int32).toNatClampNeg))) (7 + i)).2 1) (((w1 σ (7 + i) 0 (((σ (7 + i)).1 0) - ((σ (7 + i)).2 2 (0 : Int32).toNatClampNeg))) (7 + i)).2 1) ((σ (7 + i)).2 2 (0 : Int32).toNatClampNeg).toNatClampNeg (0 : Int32).toNatClampNeg (((w1 σ (7 + i) 0 (((σ (7 + i)).1 0) - ((σ (7 + i)).2 2 (0 : Int32).toNatClampNeg))) (7 + i)).1 0).toNatClampNeg)) (7 + i)).1 1) - 1)) (7 + i)).1 1) 150 150 = true then some (w2 (w1 (w2 (w1 σ (7 + i) 0 (((σ (7 + i)).1 0) - ((σ (7 + i)).2 2 (0 : Int32).toNatClampNeg))) (7 + i) 1 (va_cpy (((w1 σ (7 + i) 0 (((σ (7 + i)).1 0) - ((σ (7 + i)).2 2 (0 : Int32).toNatClampNeg))) (7 + i)).2 1) (((w1 σ (7 + i) 0 (((σ (7 + i)).1 0) - ((σ (7 + i)).2 2 (0 : Int32).toNatClampNeg))) (7 + i)).2 1) ((σ (7 + i)).2 2 (0 : Int32).toNatClampNeg).toNatClampNeg (0 : Int32).toNatClampNeg (((w1 σ (7 + i) 0 (((σ (7 + i)).1 0) - ((σ (7 + i)).2 2 (0 : Int32).toNatClampNeg))) (7 + i)).1 0).toNatClampNeg)) (7 + i) 1 ((((w2 (w1 σ (7 + i) 0 (((σ (7 + i)).1 0) - ((σ (7 + i)).2 2 (0 : Int32).toNatClampNeg))) (7 + i) 1 (va_cpy (((w1 σ (7 + i) 0 (((σ (7 + i)).1 0) - ((σ (7 + i)).2 2 (0 : Int32).toNatClampNeg))) (7 + i)).2 1) (((w1 σ (7 + i) 0 (((σ (7 + i)).1 0) - ((σ (7 + i)).2 2 (0 : Int32).toNatClampNeg))) (7 + i)).2 1) ((σ (7 + i)).2 2 (0 : Int32).toNatClampNeg).toNatClampNeg (0 : Int32).toNatClampNeg (((w1 σ (7 + i) 0 (((σ (7 + i)).1 0) - ((σ (7 + i)).2 2 (0 : Int32).toNatClampNeg))) (7 + i)).1 0).toNatClampNeg)) (7 + i)).1 1) - 1)) (7 + i) 2 (va_cpy (((w1 (w2 (w1 σ (7 + i) 0 (((σ (7 + i)).1 0) - ((σ (7 + i)).2 2 (0 : Int32).toNatClampNeg))) (7 + i) 1 (va_cpy (((w1 σ (7 + i) 0 (((σ (7 + i)).1 0) - ((σ (7 + i)).2 2 (0 : Int32).toNatClampNeg))) (7 + i)).2 1) (((w1 σ (7 + i) 0 (((σ (7 + i)).1 0) - ((σ (7 + i)).2 2 (0 : Int32).toNatClampNeg))) (7 + i)).2 1) ((σ (7 + i)).2 2 (0 : Int32).toNatClampNeg).toNatClampNeg (0 : Int32).toNatClampNeg (((w1 σ (7 + i) 0 (((σ (7 + i)).1 0) - ((σ (7 + i)).2 2 (0 : Int32).toNatClampNeg))) (7 + i)).1 0).toNatClampNeg)) (7 + i) 1 ((((w2 (w1 σ (7 + i) 0 (((σ (7 + i)).1 0) - ((σ (7 + i)).2 2 (0 : Int32).toNatClampNeg))) (7 + i) 1 (va_cpy (((w1 σ (7 + i) 0 (((σ (7 + i)).1 0) - ((σ (7 + i)).2 2 (0 : Int32).toNatClampNeg))) (7 + i)).2 1) (((w1 σ (7 + i) 0 (((σ (7 + i)).1 0) - ((σ (7 + i)).2 2 (0 : Int32).toNatClampNeg))) (7 + i)).2 1) ((σ (7 + i)).2 2 (0 : Int32).toNatClampNeg).toNatClampNeg (0 : Int32).toNatClampNeg (((w1 σ (7 + i) 0 (((σ (7 + i)).1 0) - ((σ (7 + i)).2 2 (0 : Int32).toNatClampNeg))) (7 + i)).1 0).toNatClampNeg)) (7 + i)).1 1) - 1)) (7 + i)).2 2) (((w1 (w2 (w1 σ (7 + i) 0 (((σ (7 + i)).1 0) - ((σ (7 + i)).2 2 (0 : Int32).toNatClampNeg))) (7 + i) 1 (va_cpy (((w1 σ (7 + i) 0 (((σ (7 + i)).1 0) - ((σ (7 + i)).2 2 (0 : Int32).toNatClampNeg))) (7 + i)).2 1) (((w1 σ (7 + i) 0 (((σ (7 + i)).1 0) - ((σ (7 + i)).2 2 (0 : Int32).toNatClampNeg))) (7 + i)).2 1) ((σ (7 + i)).2 2 (0 : Int32).toNatClampNeg).toNatClampNeg (0 : Int32).toNatClampNeg (((w1 σ (7 + i) 0 (((σ (7 + i)).1 0) - ((σ (7 + i)).2 2 (0 : Int32).toNatClampNeg))) (7 + i)).1 0).toNatClampNeg)) (7 + i) 1 ((((w2 (w1 σ (7 + i) 0 (((σ (7 + i)).1 0) - ((σ (7 + i)).2 2 (0 : Int32).toNatClampNeg))) (7 + i) 1 (va_cpy (((w1 σ (7 + i) 0 (((σ (7 + i)).1 0) - ((σ (7 + i)).2 2 (0 : Int32).toNatClampNeg))) (7 + i)).2 1) (((w1 σ (7 + i) 0 (((σ (7 + i)).1 0) - ((σ (7 + i)).2 2 (0 : Int32).toNatClampNeg))) (7 + i)).2 1) ((σ (7 + i)).2 2 (0 : Int32).toNatClampNeg).toNatClampNeg (0 : Int32).toNatClampNeg (((w1 σ (7 + i) 0 (((σ (7 + i)).1 0) - ((σ (7 + i)).2 2 (0 : Int32).toNatClampNeg))) (7 + i)).1 0).toNatClampNeg)) (7 + i)).1 1) - 1)) (7 + i)).2 2) (1 : Int32).toNatClampNeg (0 : Int32).toNatClampNeg (((w1 (w2 (w1 σ (7 + i) 0 (((σ (7 + i)).1 0) - ((σ (7 + i)).2 2 (0 : Int32).toNatClampNeg))) (7 + i) 1 (va_cpy (((w1 σ (7 + i) 0 (((σ (7 + i)).1 0) - ((σ (7 + i)).2 2 (0 : Int32).toNatClampNeg))) (7 + i)).2 1) (((w1 σ (7 + i) 0 (((σ (7 + i)).1 0) - ((σ (7 + i)).2 2 (0 : Int32).toNatClampNeg))) (7 + i)).2 1) ((σ (7 + i)).2 2 (0 : Int32).toNatClampNeg).toNatClampNeg (0 : Int32).toNatClampNeg (((w1 σ (7 + i) 0 (((σ (7 + i)).1 0) - ((σ (7 + i)).2 2 (0 : Int32).toNatClampNeg))) (7 + i)).1 0).toNatClampNeg)) (7 + i) 1 ((((w2 (w1 σ (7 + i) 0 (((σ (7 + i)).1 0) - ((σ (7 + i)).2 2 (0 : Int32).toNatClampNeg))) (7 + i) 1 (va_cpy (((w1 σ (7 + i) 0 (((σ (7 + i)).1 0) - ((σ (7 + i)).2 2 (0 : Int32).toNatClampNeg))) (7 + i)).2 1) (((w1 σ (7 + i) 0 (((σ (7 + i)).1 0) - ((σ (7 + i)).2 2 (0 : Int32).toNatClampNeg))) (7 + i)).2 1) ((σ (7 + i)).2 2 (0 : Int32).toNatClampNeg).toNatClampNeg (0 : Int32).toNatClampNeg (((w1 σ (7 + i) 0 (((σ (7 + i)).1 0) - ((σ (7 + i)).2 2 (0 : Int32).toNatClampNeg))) (7 + i)).1 0).toNatClampNeg)) (7 + i)).1 1) - 1)) (7 + i)).1 1).toNatClampNeg)) else none) else none))

set_option maxHeartbeats 4000000 in
set_option maxRecDepth 100000 in
theorem c_T_takeFirstRun (l : Launch) (dC : Nat → ClassId) (dI : Nat → Nat → Nat) (ad : Nat → Nat → Nat) (cs : Nat → ClassId) (sz N : Nat) (σ : SX) (i : Nat) (hi : i < 4) {σ0 : SX} (hM : m_T_takeFirstRun N σ i = some σ0) : Met l y_T_takeFirstRun (wd y_T_takeFirstRun b_T_takeFirstRun 2 none) ({ frames := 1, cells := 0, slots := 0, locals := 60 }) (va_Pc [.ref (ad (7 + i) 0)] (preX dC dI ad cs sz σ)) (va_Qv (fun (u : SX) => u = σ0) (atX dC dI ad cs (va_A (wX ad cs σ) sz)) (va_A (wX ad cs σ) sz)) 0 0 (va_A (wX ad cs σ) sz) := by
  refine Met.ofW (cc := b_T_takeFirstRun) (maxL := 2) (ret := none) (by decide) rfl ?_
  intro p e s m args below meth c s₁ B hml hv
  obtain ⟨rfl, hsz, hP, hK, hD0, hN⟩ := hv
  have hx := B.exec
  have hb := B.bytes
  have hr := B.returns
  have hts := atoms_spec (ws := (wd y_T_takeFirstRun b_T_takeFirstRun 2 none)) B.pre
  have htb : ∀ w ∈ tb, w.before _ s = true := fun w h => hts w (List.mem_cons_of_mem _ h)
  have hown : s.vm.findClass R_T = some m.cls := findClass_of_methodNamed B.named
  have hlocks := B.notSynchronized
  subst hsz
  have hD := hD0.self (sz := s.heap.size)
  generalize hAe : va_A (wX ad cs σ) s.heap.size = A at hD ⊢
  have hA : ∀ q : Nat, s.heap.size ≤ q → A q := fun q h => by rw [← hAe]; exact Or.inr h
  have hS : va_S A s.heap s.heap [] := va_S.rf
  have hP : va_P (dC, dI) classes (wX ad cs σ) s.heap := hP
  have hl := lv_entry ([.ref (ad (7 + i) 0)]) (n := 2) (Nat.le_of_ble_eq_true rfl)
  rw [lg_entry_eq]
  generalize (lg_sl ([.ref (ad (7 + i) 0)]) ++ List.replicate (2 - (lg_sl ([.ref (ad (7 + i) 0)])).length) Slot.unset).toArray = ls at hl ⊢
  have hl : lv_has ls 2 [(0, .ref (ad (7 + i) 0))] := hl
  rw [m_T_takeFirstRun] at hM
  refine lv_aload_n hx hb d_T_takeFirstRun_0 rfl (lv_at hl 0 rfl) ?_
  refine va_get (D := (dC, dI)) (ci := 6) (v := .int ((σ (7 + i)).1 1)) (C := R_T) (T := F_T) (N := 6) hx hb htb in_T hown hK hP (19 + 3 * i) (g_T hi) rfl 3 (by decide) (htb _ k_132) (fun _ h9 => h9) rfl d_T_takeFirstRun_1 ?_
  refine lv_if_ne (tgt := 8) hx hb d_T_takeFirstRun_4 (by decide) (fun h4 => ?_) (fun h4 => ?_)
  · rw [if_neg h4] at hM
    refine lv_aload_n hx hb d_T_takeFirstRun_8 rfl (lv_at hl 0 rfl) ?_
    refine va_get (D := (dC, dI)) (ci := 6) (v := .ref (ad (7 + i) 2)) (C := R_T) (T := F_T) (N := 6) hx hb htb in_T hown hK hP (19 + 3 * i) (g_T hi) rfl 1 (by decide) (htb _ k_130) (fun _ h9 => h9) rfl d_T_takeFirstRun_9 ?_
    refine lv_iconst (v := 0) hx hb d_T_takeFirstRun_12 (by decide) ?_
    refine va_iald hx hb hK hP (19 + 3 * i + 2) 0 (g_T_a2 hi) rfl (inb_in (by decide)) d_T_takeFirstRun_13 ?_
    refine lv_istore_n hx hb d_T_takeFirstRun_14 rfl hl (by decide) (lv' := [(1, .int ((σ (7 + i)).2 2 (0 : Int32).toNatClampNeg)), (0, .ref (ad (7 + i) 0))]) rfl (fun ls hl => ?_)
    refine lv_aload_n hx hb d_T_takeFirstRun_15 rfl (lv_at hl 1 rfl) ?_
    refine lv_dup hx hb d_T_takeFirstRun_16 rfl ?_
    refine va_get (D := (dC, dI)) (ci := 6) (v := .int ((σ (7 + i)).1 0)) (C := R_T) (T := F_T) (N := 6) hx hb htb in_T hown hK hP (19 + 3 * i) (g_T hi) rfl 2 (by decide) (htb _ k_131) (fun _ h9 => h9) rfl d_T_takeFirstRun_17 ?_
    refine lv_iload_n hx hb d_T_takeFirstRun_20 rfl (lv_at hl 0 rfl) ?_
    refine lv_isub hx hb d_T_takeFirstRun_21 ?_
    refine va_put (D := (dC, dI)) (ci := 6) (v := .int (((σ (7 + i)).1 0) - ((σ (7 + i)).2 2 (0 : Int32).toNatClampNeg))) (ty := .int) (C := R_T) (T := F_T) (N := 6) hx hb htb in_T ft_T ft_T_ok n_T hown hK hP hD hS (19 + 3 * i) (g_T hi) rfl 2 (by decide) (htb _ k_131) (fun _ h9 => h9) rfl (by decide +kernel) rfl rfl (Nat.le_of_ble_eq_true rfl) d_T_takeFirstRun_22 (fun H locs hP hD hS => ?_)
    have hP := P_eq (s_T_0 hi) hP
    have hD := D_eq (s_T_0 hi) hD
    refine lv_aload_n hx hb d_T_takeFirstRun_25 rfl (lv_at hl 1 rfl) ?_
    refine va_get (D := (dC, dI)) (ci := 6) (v := .ref (ad (7 + i) 1)) (C := R_T) (T := F_T) (N := 6) hx hb htb in_T hown hK hP (19 + 3 * i) (g_T hi) rfl 0 (by decide) (htb _ k_129) (fun _ h9 => h9) rfl d_T_takeFirstRun_26 ?_
    refine lv_iload_n hx hb d_T_takeFirstRun_29 rfl (lv_at hl 0 rfl) ?_
    refine lv_aload_n hx hb d_T_takeFirstRun_30 rfl (lv_at hl 1 rfl) ?_
    refine va_get (D := (dC, dI)) (ci := 6) (v := .ref (ad (7 + i) 1)) (C := R_T) (T := F_T) (N := 6) hx hb htb in_T hown hK hP (19 + 3 * i) (g_T hi) rfl 0 (by decide) (htb _ k_129) (fun _ h9 => h9) rfl d_T_takeFirstRun_31 ?_
    refine lv_iconst (v := 0) hx hb d_T_takeFirstRun_34 (by decide) ?_
    refine lv_aload_n hx hb d_T_takeFirstRun_35 rfl (lv_at hl 1 rfl) ?_
    refine va_get (D := (dC, dI)) (ci := 6) (v := .int (((w1 σ (7 + i) 0 (((σ (7 + i)).1 0) - ((σ (7 + i)).2 2 (0 : Int32).toNatClampNeg))) (7 + i)).1 0)) (C := R_T) (T := F_T) (N := 6) hx hb htb in_T hown hK hP (19 + 3 * i) (g_T hi) rfl 2 (by decide) (htb _ k_131) (fun _ h9 => h9) rfl d_T_takeFirstRun_36 ?_
    have hc39 := gd_c hM
    have hM := gd_v hM
    refine va_copyi (own := R_T) (sp := ((σ (7 + i)).2 2 (0 : Int32).toNatClampNeg)) (dp := 0) (n := (((w1 σ (7 + i) 0 (((σ (7 + i)).1 0) - ((σ (7 + i)).2 2 (0 : Int32).toNatClampNeg))) (7 + i)).1 0)) hx hb (by rw [hml]; exact hl.1.symm) hown (htb _ k_547) (htb _ k_549) (htb _ k_548) (htb _ k_15) hK hP hD hS (19 + 3 * i + 1) (19 + 3 * i + 1) 0 0 (g_T_a1 hi) (g_T_a1 hi) rfl rfl rfl (cpok_1 hc39) (cpok_2 hc39) (cpok_3 hc39) (cpok_4 hc39) (cpok_5 hc39) (fun _ _ => rfl) (Nat.le_of_ble_eq_true rfl) (by decide) d_T_takeFirstRun_39 (fun H locs hP hD hS => ?_)
    have hP := P_eq (u_T_1 hi) hP
    have hD := D_eq (u_T_1 hi) hD
    refine lv_aload_n hx hb d_T_takeFirstRun_42 rfl (lv_at hl 1 rfl) ?_
    refine lv_dup hx hb d_T_takeFirstRun_43 rfl ?_
    refine va_get (D := (dC, dI)) (ci := 6) (v := .int (((w2 (w1 σ (7 + i) 0 (((σ (7 + i)).1 0) - ((σ (7 + i)).2 2 (0 : Int32).toNatClampNeg))) (7 + i) 1 (va_cpy (((w1 σ (7 + i) 0 (((σ (7 + i)).1 0) - ((σ (7 + i)).2 2 (0 : Int32).toNatClampNeg))) (7 + i)).2 1) (((w1 σ (7 + i) 0 (((σ (7 + i)).1 0) - ((σ (7 + i)).2 2 (0 : Int32).toNatClampNeg))) (7 + i)).2 1) ((σ (7 + i)).2 2 (0 : Int32).toNatClampNeg).toNatClampNeg (0 : Int32).toNatClampNeg (((w1 σ (7 + i) 0 (((σ (7 + i)).1 0) - ((σ (7 + i)).2 2 (0 : Int32).toNatClampNeg))) (7 + i)).1 0).toNatClampNeg)) (7 + i)).1 1)) (C := R_T) (T := F_T) (N := 6) hx hb htb in_T hown hK hP (19 + 3 * i) (g_T hi) rfl 3 (by decide) (htb _ k_132) (fun _ h9 => h9) rfl d_T_takeFirstRun_44 ?_
    refine lv_iconst (v := 1) hx hb d_T_takeFirstRun_47 (by decide) ?_
    refine lv_isub hx hb d_T_takeFirstRun_48 ?_
    refine va_put (D := (dC, dI)) (ci := 6) (v := .int ((((w2 (w1 σ (7 + i) 0 (((σ (7 + i)).1 0) - ((σ (7 + i)).2 2 (0 : Int32).toNatClampNeg))) (7 + i) 1 (va_cpy (((w1 σ (7 + i) 0 (((σ (7 + i)).1 0) - ((σ (7 + i)).2 2 (0 : Int32).toNatClampNeg))) (7 + i)).2 1) (((w1 σ (7 + i) 0 (((σ (7 + i)).1 0) - ((σ (7 + i)).2 2 (0 : Int32).toNatClampNeg))) (7 + i)).2 1) ((σ (7 + i)).2 2 (0 : Int32).toNatClampNeg).toNatClampNeg (0 : Int32).toNatClampNeg (((w1 σ (7 + i) 0 (((σ (7 + i)).1 0) - ((σ (7 + i)).2 2 (0 : Int32).toNatClampNeg))) (7 + i)).1 0).toNatClampNeg)) (7 + i)).1 1) - 1)) (ty := .int) (C := R_T) (T := F_T) (N := 6) hx hb htb in_T ft_T ft_T_ok n_T hown hK hP hD hS (19 + 3 * i) (g_T hi) rfl 3 (by decide) (htb _ k_132) (fun _ h9 => h9) rfl (by decide +kernel) rfl rfl (Nat.le_of_ble_eq_true rfl) d_T_takeFirstRun_49 (fun H locs hP hD hS => ?_)
    have hP := P_eq (s_T_1 hi) hP
    have hD := D_eq (s_T_1 hi) hD
    refine lv_aload_n hx hb d_T_takeFirstRun_52 rfl (lv_at hl 1 rfl) ?_
    refine va_get (D := (dC, dI)) (ci := 6) (v := .ref (ad (7 + i) 2)) (C := R_T) (T := F_T) (N := 6) hx hb htb in_T hown hK hP (19 + 3 * i) (g_T hi) rfl 1 (by decide) (htb _ k_130) (fun _ h9 => h9) rfl d_T_takeFirstRun_53 ?_
    refine lv_iconst (v := 1) hx hb d_T_takeFirstRun_56 (by decide) ?_
    refine lv_aload_n hx hb d_T_takeFirstRun_57 rfl (lv_at hl 1 rfl) ?_
    refine va_get (D := (dC, dI)) (ci := 6) (v := .ref (ad (7 + i) 2)) (C := R_T) (T := F_T) (N := 6) hx hb htb in_T hown hK hP (19 + 3 * i) (g_T hi) rfl 1 (by decide) (htb _ k_130) (fun _ h9 => h9) rfl d_T_takeFirstRun_58 ?_
    refine lv_iconst (v := 0) hx hb d_T_takeFirstRun_61 (by decide) ?_
    refine lv_aload_n hx hb d_T_takeFirstRun_62 rfl (lv_at hl 1 rfl) ?_
    refine va_get (D := (dC, dI)) (ci := 6) (v := .int (((w1 (w2 (w1 σ (7 + i) 0 (((σ (7 + i)).1 0) - ((σ (7 + i)).2 2 (0 : Int32).toNatClampNeg))) (7 + i) 1 (va_cpy (((w1 σ (7 + i) 0 (((σ (7 + i)).1 0) - ((σ (7 + i)).2 2 (0 : Int32).toNatClampNeg))) (7 + i)).2 1) (((w1 σ (7 + i) 0 (((σ (7 + i)).1 0) - ((σ (7 + i)).2 2 (0 : Int32).toNatClampNeg))) (7 + i)).2 1) ((σ (7 + i)).2 2 (0 : Int32).toNatClampNeg).toNatClampNeg (0 : Int32).toNatClampNeg (((w1 σ (7 + i) 0 (((σ (7 + i)).1 0) - ((σ (7 + i)).2 2 (0 : Int32).toNatClampNeg))) (7 + i)).1 0).toNatClampNeg)) (7 + i) 1 ((((w2 (w1 σ (7 + i) 0 (((σ (7 + i)).1 0) - ((σ (7 + i)).2 2 (0 : Int32).toNatClampNeg))) (7 + i) 1 (va_cpy (((w1 σ (7 + i) 0 (((σ (7 + i)).1 0) - ((σ (7 + i)).2 2 (0 : Int32).toNatClampNeg))) (7 + i)).2 1) (((w1 σ (7 + i) 0 (((σ (7 + i)).1 0) - ((σ (7 + i)).2 2 (0 : Int32).toNatClampNeg))) (7 + i)).2 1) ((σ (7 + i)).2 2 (0 : Int32).toNatClampNeg).toNatClampNeg (0 : Int32).toNatClampNeg (((w1 σ (7 + i) 0 (((σ (7 + i)).1 0) - ((σ (7 + i)).2 2 (0 : Int32).toNatClampNeg))) (7 + i)).1 0).toNatClampNeg)) (7 + i)).1 1) - 1)) (7 + i)).1 1)) (C := R_T) (T := F_T) (N := 6) hx hb htb in_T hown hK hP (19 + 3 * i) (g_T hi) rfl 3 (by decide) (htb _ k_132) (fun _ h9 => h9) rfl d_T_takeFirstRun_63 ?_
    have hc66 := gd_c hM
    have hM := gd_v hM
    refine va_copyi (own := R_T) (sp := 1) (dp := 0) (n := (((w1 (w2 (w1 σ (7 + i) 0 (((σ (7 + i)).1 0) - ((σ (7 + i)).2 2 (0 : Int32).toNatClampNeg))) (7 + i) 1 (va_cpy (((w1 σ (7 + i) 0 (((σ (7 + i)).1 0) - ((σ (7 + i)).2 2 (0 : Int32).toNatClampNeg))) (7 + i)).2 1) (((w1 σ (7 + i) 0 (((σ (7 + i)).1 0) - ((σ (7 + i)).2 2 (0 : Int32).toNatClampNeg))) (7 + i)).2 1) ((σ (7 + i)).2 2 (0 : Int32).toNatClampNeg).toNatClampNeg (0 : Int32).toNatClampNeg (((w1 σ (7 + i) 0 (((σ (7 + i)).1 0) - ((σ (7 + i)).2 2 (0 : Int32).toNatClampNeg))) (7 + i)).1 0).toNatClampNeg)) (7 + i) 1 ((((w2 (w1 σ (7 + i) 0 (((σ (7 + i)).1 0) - ((σ (7 + i)).2 2 (0 : Int32).toNatClampNeg))) (7 + i) 1 (va_cpy (((w1 σ (7 + i) 0 (((σ (7 + i)).1 0) - ((σ (7 + i)).2 2 (0 : Int32).toNatClampNeg))) (7 + i)).2 1) (((w1 σ (7 + i) 0 (((σ (7 + i)).1 0) - ((σ (7 + i)).2 2 (0 : Int32).toNatClampNeg))) (7 + i)).2 1) ((σ (7 + i)).2 2 (0 : Int32).toNatClampNeg).toNatClampNeg (0 : Int32).toNatClampNeg (((w1 σ (7 + i) 0 (((σ (7 + i)).1 0) - ((σ (7 + i)).2 2 (0 : Int32).toNatClampNeg))) (7 + i)).1 0).toNatClampNeg)) (7 + i)).1 1) - 1)) (7 + i)).1 1)) hx hb (by rw [hml]; exact hl.1.symm) hown (htb _ k_547) (htb _ k_549) (htb _ k_548) (htb _ k_15) hK hP hD hS (19 + 3 * i + 2) (19 + 3 * i + 2) 0 0 (g_T_a2 hi) (g_T_a2 hi) rfl rfl rfl (cpok_1 hc66) (cpok_2 hc66) (cpok_3 hc66) (cpok_4 hc66) (cpok_5 hc66) (fun _ _ => rfl) (Nat.le_of_ble_eq_true rfl) (by decide) d_T_takeFirstRun_66 (fun H locs hP hD hS => ?_)
    have hP := P_eq (u_T_2 hi) hP
    have hD := D_eq (u_T_2 hi) hD
    have e9 := Option.some.inj hM
    exact W.vret hx hb hr (fun t ht hW => ⟨⟨(w2 (w1 (w2 (w1 σ (7 + i) 0 (((σ (7 + i)).1 0) - ((σ (7 + i)).2 2 (0 : Int32).toNatClampNeg))) (7 + i) 1 (va_cpy (((w1 σ (7 + i) 0 (((σ (7 + i)).1 0) - ((σ (7 + i)).2 2 (0 : Int32).toNatClampNeg))) (7 + i)).2 1) (((w1 σ (7 + i) 0 (((σ (7 + i)).1 0) - ((σ (7 + i)).2 2 (0 : Int32).toNatClampNeg))) (7 + i)).2 1) ((σ (7 + i)).2 2 (0 : Int32).toNatClampNeg).toNatClampNeg (0 : Int32).toNatClampNeg (((w1 σ (7 + i) 0 (((σ (7 + i)).1 0) - ((σ (7 + i)).2 2 (0 : Int32).toNatClampNeg))) (7 + i)).1 0).toNatClampNeg)) (7 + i) 1 ((((w2 (w1 σ (7 + i) 0 (((σ (7 + i)).1 0) - ((σ (7 + i)).2 2 (0 : Int32).toNatClampNeg))) (7 + i) 1 (va_cpy (((w1 σ (7 + i) 0 (((σ (7 + i)).1 0) - ((σ (7 + i)).2 2 (0 : Int32).toNatClampNeg))) (7 + i)).2 1) (((w1 σ (7 + i) 0 (((σ (7 + i)).1 0) - ((σ (7 + i)).2 2 (0 : Int32).toNatClampNeg))) (7 + i)).2 1) ((σ (7 + i)).2 2 (0 : Int32).toNatClampNeg).toNatClampNeg (0 : Int32).toNatClampNeg (((w1 σ (7 + i) 0 (((σ (7 + i)).1 0) - ((σ (7 + i)).2 2 (0 : Int32).toNatClampNeg))) (7 + i)).1 0).toNatClampNeg)) (7 + i)).1 1) - 1)) (7 + i) 2 (va_cpy (((w1 (w2 (w1 σ (7 + i) 0 (((σ (7 + i)).1 0) - ((σ (7 + i)).2 2 (0 : Int32).toNatClampNeg))) (7 + i) 1 (va_cpy (((w1 σ (7 + i) 0 (((σ (7 + i)).1 0) - ((σ (7 + i)).2 2 (0 : Int32).toNatClampNeg))) (7 + i)).2 1) (((w1 σ (7 + i) 0 (((σ (7 + i)).1 0) - ((σ (7 + i)).2 2 (0 : Int32).toNatClampNeg))) (7 + i)).2 1) ((σ (7 + i)).2 2 (0 : Int32).toNatClampNeg).toNatClampNeg (0 : Int32).toNatClampNeg (((w1 σ (7 + i) 0 (((σ (7 + i)).1 0) - ((σ (7 + i)).2 2 (0 : Int32).toNatClampNeg))) (7 + i)).1 0).toNatClampNeg)) (7 + i) 1 ((((w2 (w1 σ (7 + i) 0 (((σ (7 + i)).1 0) - ((σ (7 + i)).2 2 (0 : Int32).toNatClampNeg))) (7 + i) 1 (va_cpy (((w1 σ (7 + i) 0 (((σ (7 + i)).1 0) - ((σ (7 + i)).2 2 (0 : Int32).toNatClampNeg))) (7 + i)).2 1) (((w1 σ (7 + i) 0 (((σ (7 + i)).1 0) - ((σ (7 + i)).2 2 (0 : Int32).toNatClampNeg))) (7 + i)).2 1) ((σ (7 + i)).2 2 (0 : Int32).toNatClampNeg).toNatClampNeg (0 : Int32).toNatClampNeg (((w1 σ (7 + i) 0 (((σ (7 + i)).1 0) - ((σ (7 + i)).2 2 (0 : Int32).toNatClampNeg))) (7 + i)).1 0).toNatClampNeg)) (7 + i)).1 1) - 1)) (7 + i)).2 2) (((w1 (w2 (w1 σ (7 + i) 0 (((σ (7 + i)).1 0) - ((σ (7 + i)).2 2 (0 : Int32).toNatClampNeg))) (7 + i) 1 (va_cpy (((w1 σ (7 + i) 0 (((σ (7 + i)).1 0) - ((σ (7 + i)).2 2 (0 : Int32).toNatClampNeg))) (7 + i)).2 1) (((w1 σ (7 + i) 0 (((σ (7 + i)).1 0) - ((σ (7 + i)).2 2 (0 : Int32).toNatClampNeg))) (7 + i)).2 1) ((σ (7 + i)).2 2 (0 : Int32).toNatClampNeg).toNatClampNeg (0 : Int32).toNatClampNeg (((w1 σ (7 + i) 0 (((σ (7 + i)).1 0) - ((σ (7 + i)).2 2 (0 : Int32).toNatClampNeg))) (7 + i)).1 0).toNatClampNeg)) (7 + i) 1 ((((w2 (w1 σ (7 + i) 0 (((σ (7 + i)).1 0) - ((σ (7 + i)).2 2 (0 : Int32).toNatClampNeg))) (7 + i) 1 (va_cpy (((w1 σ (7 + i) 0 (((σ (7 + i)).1 0) - ((σ (7 + i)).2 2 (0 : Int32).toNatClampNeg))) (7 + i)).2 1) (((w1 σ (7 + i) 0 (((σ (7 + i)).1 0) - ((σ (7 + i)).2 2 (0 : Int32).toNatClampNeg))) (7 + i)).2 1) ((σ (7 + i)).2 2 (0 : Int32).toNatClampNeg).toNatClampNeg (0 : Int32).toNatClampNeg (((w1 σ (7 + i) 0 (((σ (7 + i)).1 0) - ((σ (7 + i)).2 2 (0 : Int32).toNatClampNeg))) (7 + i)).1 0).toNatClampNeg)) (7 + i)).1 1) - 1)) (7 + i)).2 2) (1 : Int32).toNatClampNeg (0 : Int32).toNatClampNeg (((w1 (w2 (w1 σ (7 + i) 0 (((σ (7 + i)).1 0) - ((σ (7 + i)).2 2 (0 : Int32).toNatClampNeg))) (7 + i) 1 (va_cpy (((w1 σ (7 + i) 0 (((σ (7 + i)).1 0) - ((σ (7 + i)).2 2 (0 : Int32).toNatClampNeg))) (7 + i)).2 1) (((w1 σ (7 + i) 0 (((σ (7 + i)).1 0) - ((σ (7 + i)).2 2 (0 : Int32).toNatClampNeg))) (7 + i)).2 1) ((σ (7 + i)).2 2 (0 : Int32).toNatClampNeg).toNatClampNeg (0 : Int32).toNatClampNeg (((w1 σ (7 + i) 0 (((σ (7 + i)).1 0) - ((σ (7 + i)).2 2 (0 : Int32).toNatClampNeg))) (7 + i)).1 0).toNatClampNeg)) (7 + i) 1 ((((w2 (w1 σ (7 + i) 0 (((σ (7 + i)).1 0) - ((σ (7 + i)).2 2 (0 : Int32).toNatClampNeg))) (7 + i) 1 (va_cpy (((w1 σ (7 + i) 0 (((σ (7 + i)).1 0) - ((σ (7 + i)).2 2 (0 : Int32).toNatClampNeg))) (7 + i)).2 1) (((w1 σ (7 + i) 0 (((σ (7 + i)).1 0) - ((σ (7 + i)).2 2 (0 : Int32).toNatClampNeg))) (7 + i)).2 1) ((σ (7 + i)).2 2 (0 : Int32).toNatClampNeg).toNatClampNeg (0 : Int32).toNatClampNeg (((w1 σ (7 + i) 0 (((σ (7 + i)).1 0) - ((σ (7 + i)).2 2 (0 : Int32).toNatClampNeg))) (7 + i)).1 0).toNatClampNeg)) (7 + i)).1 1) - 1)) (7 + i)).1 1).toNatClampNeg)), rfl, e9, by rw [ht]; exact hP, va_K.moved hW.alike hK, hD⟩, hS.F ht⟩) hS.2.2 d_T_takeFirstRun_69
  · rw [if_pos h4] at hM
    have e9 := Option.some.inj hM
    exact W.vret hx hb hr (fun t ht hW => ⟨⟨σ, rfl, e9, by rw [ht]; exact hP, va_K.moved hW.alike hK, hD⟩, hS.F ht⟩) hS.2.2 d_T_takeFirstRun_7

theorem d_O_takeFromSources_0 : decode b_O_takeFromSources 0 = .ok (.iconst 0, 1) := by decide +kernel
theorem d_O_takeFromSources_1 : decode b_O_takeFromSources 1 = .ok (.istore_n 1, 1) := by decide +kernel
theorem d_O_takeFromSources_2 : decode b_O_takeFromSources 2 = .ok (.iload_n 1, 1) := by decide +kernel
theorem d_O_takeFromSources_3 : decode b_O_takeFromSources 3 = .ok (.iconst 3, 1) := by decide +kernel
theorem d_O_takeFromSources_4 : decode b_O_takeFromSources 4 = .ok (.if_icmp .ge 34, 3) := by decide +kernel
theorem d_O_takeFromSources_7 : decode b_O_takeFromSources 7 = .ok (.aload_n 0, 1) := by decide +kernel
theorem d_O_takeFromSources_8 : decode b_O_takeFromSources 8 = .ok (.iload_n 1, 1) := by decide +kernel
theorem d_O_takeFromSources_9 : decode b_O_takeFromSources 9 = .ok (.invokevirtual 161, 3) := by decide +kernel
theorem d_O_takeFromSources_12 : decode b_O_takeFromSources 12 = .ok (.astore_n 2, 1) := by decide +kernel
theorem d_O_takeFromSources_13 : decode b_O_takeFromSources 13 = .ok (.aload_n 2, 1) := by decide +kernel
theorem d_O_takeFromSources_14 : decode b_O_takeFromSources 14 = .ok (.invokevirtual 232, 3) := by decide +kernel
theorem d_O_takeFromSources_17 : decode b_O_takeFromSources 17 = .ok (.ifCond .eq 11, 3) := by decide +kernel
theorem d_O_takeFromSources_20 : decode b_O_takeFromSources 20 = .ok (.aload_n 2, 1) := by decide +kernel
theorem d_O_takeFromSources_21 : decode b_O_takeFromSources 21 = .ok (.iconst (-1), 1) := by decide +kernel
theorem d_O_takeFromSources_22 : decode b_O_takeFromSources 22 = .ok (.invokevirtual 189, 3) := by decide +kernel
theorem d_O_takeFromSources_25 : decode b_O_takeFromSources 25 = .ok (.goto 7, 3) := by decide +kernel
theorem d_O_takeFromSources_28 : decode b_O_takeFromSources 28 = .ok (.aload_n 2, 1) := by decide +kernel
theorem d_O_takeFromSources_29 : decode b_O_takeFromSources 29 = .ok (.invokevirtual 244, 3) := by decide +kernel
theorem d_O_takeFromSources_32 : decode b_O_takeFromSources 32 = .ok (.iinc 1 1, 3) := by decide +kernel
theorem d_O_takeFromSources_35 : decode b_O_takeFromSources 35 = .ok (.goto (-33), 3) := by decide +kernel
theorem d_O_takeFromSources_38 : decode b_O_takeFromSources 38 = .ok (.return_, 1) := by decide +kernel
def m_O_takeFromSources_2 (N : Nat) : Nat → SX → Int32 → Option (SX)
  | 0, _, _ => none
  | n2 + 1, σ, v1 =>
    (if 3 ≤ v1 then some σ else (bR (m_O_tapeInRole N σ v1) fun x9 σ9 => (bI (m_T_hasDummy N σ x9) fun r14 σ14 => (if r14 = 0 then (bV (m_T_takeFirstRun N σ x9) fun σ29 => m_O_takeFromSources_2 N n2 σ29 (v1 + 1)) else (bV (m_T_addDummies N σ x9 (-1)) fun σ22 => m_O_takeFromSources_2 N n2 σ22 (v1 + 1))))))

def m_O_takeFromSources (N : Nat) (σ : SX) : Option (SX) :=
  m_O_takeFromSources_2 N N σ 0

set_option maxHeartbeats 4000000 in
set_option maxRecDepth 100000 in
theorem c_O_takeFromSources (l : Launch) (dC : Nat → ClassId) (dI : Nat → Nat → Nat) (ad : Nat → Nat → Nat) (cs : Nat → ClassId) (sz N : Nat) (σ : SX) {σ0 : SX} (hM : m_O_takeFromSources N σ = some σ0) : Met l y_O_takeFromSources (wd y_O_takeFromSources b_O_takeFromSources 3 none) ({ frames := 2, cells := 0, slots := 0, locals := 81 }) (va_Pc [.ref (ad 0 0)] (preX dC dI ad cs sz σ)) (va_Qv (fun (u : SX) => u = σ0) (atX dC dI ad cs (va_A (wX ad cs σ) sz)) (va_A (wX ad cs σ) sz)) 0 0 (va_A (wX ad cs σ) sz) := by
  refine Met.ofW (cc := b_O_takeFromSources) (maxL := 3) (ret := none) (by decide) rfl ?_
  intro p e s m args below meth c s₁ B hml hv
  obtain ⟨rfl, hsz, hP, hK, hD0, hN⟩ := hv
  have hx := B.exec
  have hb := B.bytes
  have hr := B.returns
  have hts := atoms_spec (ws := (wd y_O_takeFromSources b_O_takeFromSources 3 none)) B.pre
  have htb : ∀ w ∈ tb, w.before _ s = true := fun w h => hts w (List.mem_cons_of_mem _ h)
  have hown : s.vm.findClass R_O = some m.cls := findClass_of_methodNamed B.named
  have hlocks := B.notSynchronized
  subst hsz
  have hD := hD0.self (sz := s.heap.size)
  generalize hAe : va_A (wX ad cs σ) s.heap.size = A at hD ⊢
  have hA : ∀ q : Nat, s.heap.size ≤ q → A q := fun q h => by rw [← hAe]; exact Or.inr h
  have hS : va_S A s.heap s.heap [] := va_S.rf
  have hP : va_P (dC, dI) classes (wX ad cs σ) s.heap := hP
  have hl := lv_entry ([.ref (ad 0 0)]) (n := 3) (Nat.le_of_ble_eq_true rfl)
  rw [lg_entry_eq]
  generalize (lg_sl ([.ref (ad 0 0)]) ++ List.replicate (3 - (lg_sl ([.ref (ad 0 0)])).length) Slot.unset).toArray = ls at hl ⊢
  have hl : lv_has ls 3 [(0, .ref (ad 0 0))] := hl
  rw [m_O_takeFromSources] at hM
  refine W_loop (pc := 2) (fun n2 H locs ls st => ∃ (σ : SX) (v1 : Int32), st = [] ∧ m_O_takeFromSources_2 N n2 σ v1 = some σ0 ∧ lv_has ls 3 [(0, .ref (ad 0 0)), (1, .int v1)] ∧ va_P (dC, dI) classes (wX ad cs σ) H ∧ va_D A (wX ad cs σ) ∧ va_S A s.heap H locs) ?_ ?_ ?_
  · rintro H locs ls st ⟨σ, v1, -, hM, -⟩
    rw [m_O_takeFromSources_2] at hM; cases hM
  · intro n2 K2 H locs ls st hI
    obtain ⟨σ, v1, rfl, hM, hl, hP, hD, hS⟩ := hI
    rw [m_O_takeFromSources_2] at hM
    refine lv_iload_n hx hb d_O_takeFromSources_2 rfl (lv_at hl 1 rfl) ?_
    refine lv_iconst (v := 3) hx hb d_O_takeFromSources_3 (by decide) ?_
    refine lv_icmp_ge (tgt := 38) hx hb d_O_takeFromSources_4 (by decide) (fun h4 => ?_) (fun h4 => ?_)
    · rw [if_pos h4] at hM
      have e9 := Option.some.inj hM
      exact W.vret hx hb hr (fun t ht hW => ⟨⟨σ, rfl, e9, by rw [ht]; exact hP, va_K.moved hW.alike hK, hD⟩, hS.F ht⟩) hS.2.2 d_O_takeFromSources_38
    · rw [if_neg h4] at hM
      refine lv_aload_n hx hb d_O_takeFromSources_7 rfl (lv_at hl 0 rfl) ?_
      refine lv_iload_n hx hb d_O_takeFromSources_8 rfl (lv_at hl 1 rfl) ?_
      obtain ⟨x9, y9, hq9, hM⟩ := bR_some hM
      refine va_callr (va_runV (As := [.int v1]) (rest := []) ⟨hx, hb, hml, hown, hts⟩ (c_O_tapeInRole l dC dI ad cs _ N σ v1 hq9) (cwV 1 hts (goodV k_305 k_307 ks_O_tapeInRole k_1 k_308) rfl rfl rfl ⟨rfl, by decide, by decide, by decide +kernel⟩ ⟨Nat.le_of_ble_eq_true rfl, Nat.le_of_ble_eq_true rfl⟩) ⟨blindX, va_recv hK hP rfl (g_O), payX hP hK hD hN⟩ rfl rfl hl.1 rfl (lv_room (Nat.le_of_ble_eq_true rfl)) d_O_takeFromSources_9 ⟨Nat.zero_le _, Nat.zero_le _⟩) hS (fun q h0 h => absurd h0 (Nat.not_lt.mpr h)) (fun q h => hA q (Nat.le_trans hS.1 h)) (fun u ra t H locs ht hvm hpost hB hz1 hk1 hS => ?_)
      subst hpost
      obtain ⟨rfl, hx9⟩ := hB
      have hP := keepP hP hk1
      refine lv_astore_n hx hb d_O_takeFromSources_12 rfl hl (by decide) (lv' := [(2, .ref (ad (7 + x9) 0)), (0, .ref (ad 0 0)), (1, .int v1)]) rfl (fun ls hl => ?_)
      refine lv_aload_n hx hb d_O_takeFromSources_13 rfl (lv_at hl 0 rfl) ?_
      obtain ⟨x14, y14, hq14, hM⟩ := bI_some hM
      refine va_calli (va_runV (As := []) (rest := []) ⟨hx, hb, hml, hown, hts⟩ (c_T_hasDummy l dC dI ad cs _ N σ x9 hx9 hq14) (cwV 0 hts (goodV k_558 k_559 k_560 k_7 k_561) rfl rfl rfl ⟨rfl, by decide, by decide, by decide +kernel⟩ ⟨Nat.le_of_ble_eq_true rfl, Nat.le_of_ble_eq_true rfl⟩) ⟨blindX, va_recv hK hP rfl (g_T hx9), payX hP hK hD hN⟩ rfl rfl hl.1 rfl (lv_room (Nat.le_of_ble_eq_true rfl)) d_O_takeFromSources_14 ⟨Nat.zero_le _, Nat.zero_le _⟩) hS (fun q h0 h => absurd h0 (Nat.not_lt.mpr h)) (fun q h => hA q (Nat.le_trans hS.1 h)) (fun r14 u t H locs ht hvm hpost hB hz1 hk1 hS => ?_)
      obtain ⟨e1, e2⟩ := hpost
      subst e1
      subst e2
      have hP := keepP hP hk1
      refine lv_if_eq (tgt := 28) hx hb d_O_takeFromSources_17 (by decide) (fun h17 => ?_) (fun h17 => ?_)
      · rw [if_pos h17] at hM
        refine lv_aload_n hx hb d_O_takeFromSources_28 rfl (lv_at hl 0 rfl) ?_
        have hF1 := free_all hD hS hA
        obtain ⟨y29, hq29, hM⟩ := bV_some hM
        refine va_callv (va_runV (As := []) (rest := []) ⟨hx, hb, hml, hown, hts⟩ (c_T_takeFirstRun l dC dI ad cs _ N σ x9 hx9 hq29) (cwV 0 hts (goodV k_586 k_587 k_588 k_7 k_589) rfl rfl rfl ⟨rfl, by decide, by decide, by decide +kernel⟩ ⟨Nat.le_of_ble_eq_true rfl, Nat.le_of_ble_eq_true rfl⟩) ⟨blindX, va_recv hK hP rfl (g_T hx9), payX hP hK hD hN⟩ rfl rfl hl.1 rfl (lv_room (Nat.le_of_ble_eq_true rfl)) d_O_takeFromSources_29 ⟨Nat.zero_le _, Nat.zero_le _⟩) hS (fun q _ h => hF1 q h) hF1 (fun σ29 t H locs ht hvm hpost hB hz1 hk1 hS => ?_)
        subst hpost
        obtain ⟨hP1, hK1, hD1⟩ := hB
        rw [ht] at hP1
        have hP := hP1
        have hD := hD1.weaken (fun _ _ _ h => hF1 _ h)
        refine lv_iinc (k := 2) (v := (v1 + 1)) hx hb d_O_takeFromSources_32 hl rfl rfl (by decide) (lv' := [(1, .int (v1 + 1)), (2, .ref (ad (7 + x9) 0)), (0, .ref (ad 0 0))]) rfl (fun ls hl => ?_)
        refine lv_goto (tgt := 2) hx hb d_O_takeFromSources_35 (by decide) ?_
        exact K2 _ _ _ _ ⟨σ29, (v1 + 1), rfl, hM, lv_sub hl [2, 0] rfl, hP, hD, hS⟩
      · rw [if_neg h17] at hM
        refine lv_aload_n hx hb d_O_takeFromSources_20 rfl (lv_at hl 0 rfl) ?_
        refine lv_iconst (v := (-1)) hx hb d_O_takeFromSources_21 (by decide) ?_
        have hF1 := free_all hD hS hA
        obtain ⟨y22, hq22, hM⟩ := bV_some hM
        refine va_callv (va_runV (As := [.int (-1)]) (rest := []) ⟨hx, hb, hml, hown, hts⟩ (c_T_addDummies l dC dI ad cs _ N σ x9 hx9 (-1) hq22) (cwV 1 hts (goodV k_542 k_465 k_466 k_7 k_467) rfl rfl rfl ⟨rfl, by decide, by decide, by decide +kernel⟩ ⟨Nat.le_of_ble_eq_true rfl, Nat.le_of_ble_eq_true rfl⟩) ⟨blindX, va_recv hK hP rfl (g_T hx9), payX hP hK hD hN⟩ rfl rfl hl.1 rfl (lv_room (Nat.le_of_ble_eq_true rfl)) d_O_takeFromSources_22 ⟨Nat.zero_le _, Nat.zero_le _⟩) hS (fun q _ h => hF1 q h) hF1 (fun σ22 t H locs ht hvm hpost hB hz1 hk1 hS => ?_)
        subst hpost
        obtain ⟨hP1, hK1, hD1⟩ := hB
        rw [ht] at hP1
        have hP := hP1
        have hD := hD1.weaken (fun _ _ _ h => hF1 _ h)
        refine lv_goto (tgt := 32) hx hb d_O_takeFromSources_25 (by decide) ?_
        refine lv_iinc (k := 2) (v := (v1 + 1)) hx hb d_O_takeFromSources_32 hl rfl rfl (by decide) (lv' := [(1, .int (v1 + 1)), (2, .ref (ad (7 + x9) 0)), (0, .ref (ad 0 0))]) rfl (fun ls hl => ?_)
        refine lv_goto (tgt := 2) hx hb d_O_takeFromSources_35 (by decide) ?_
        exact K2 _ _ _ _ ⟨σ22, (v1 + 1), rfl, hM, lv_sub hl [2, 0] rfl, hP, hD, hS⟩
  intro K2
  refine lv_iconst (v := 0) hx hb d_O_takeFromSources_0 (by decide) ?_
  refine lv_istore_n hx hb d_O_takeFromSources_1 rfl hl (by decide) (lv' := [(1, .int 0), (0, .ref (ad 0 0))]) rfl (fun ls hl => ?_)
  exact K2 N _ _ _ _ ⟨σ, 0, rfl, hM, lv_sub hl [1, 0] rfl, hP, hD, hS⟩

theorem d_T_isBare_0 : decode b_T_isBare 0 = .ok (.aload_n 0, 1) := by decide +kernel
theorem d_T_isBare_1 : decode b_T_isBare 1 = .ok (.getfield 22, 3) := by decide +kernel
theorem d_T_isBare_4 : decode b_T_isBare 4 = .ok (.ifCond .ne 14, 3) := by decide +kernel
theorem d_T_isBare_7 : decode b_T_isBare 7 = .ok (.aload_n 0, 1) := by decide +kernel
theorem d_T_isBare_8 : decode b_T_isBare 8 = .ok (.getfield 25, 3) := by decide +kernel
theorem d_T_isBare_11 : decode b_T_isBare 11 = .ok (.ifCond .ne 7, 3) := by decide +kernel
theorem d_T_isBare_14 : decode b_T_isBare 14 = .ok (.iconst 1, 1) := by decide +kernel
theorem d_T_isBare_15 : decode b_T_isBare 15 = .ok (.goto 4, 3) := by decide +kernel
theorem d_T_isBare_18 : decode b_T_isBare 18 = .ok (.iconst 0, 1) := by decide +kernel
theorem d_T_isBare_19 : decode b_T_isBare 19 = .ok (.ireturn, 1) := by decide +kernel
def m_T_isBare (N : Nat) (σ : SX) (i : Nat) : Option (Int32 × SX) :=
  (if ((σ (7 + i)).1 1) = 0 then (if ((σ (7 + i)).1 2) = 0 then some (1, σ) else some (0, σ)) else some (0, σ))

set_option maxHeartbeats 4000000 in
set_option maxRecDepth 100000 in
theorem c_T_isBare (l : Launch) (dC : Nat → ClassId) (dI : Nat → Nat → Nat) (ad : Nat → Nat → Nat) (cs : Nat → ClassId) (sz N : Nat) (σ : SX) (i : Nat) (hi : i < 4) {r0 : Int32} {σ0 : SX} (hM : m_T_isBare N σ i = some (r0, σ0)) : Met l y_T_isBare (wd y_T_isBare b_T_isBare 1 (some .boolean)) ({ frames := 0, cells := 0, slots := 0, locals := 0 }) (va_Pc [.ref (ad (7 + i) 0)] (preX dC dI ad cs sz σ)) (va_Qi (fun (r : Int32) (_ : Unit) => r = r0 ∧ σ = σ0) (fun _ _ => True) (fun q => sz ≤ q)) 0 0 (fun q => sz ≤ q) := by
  refine Met.ofW (cc := b_T_isBare) (maxL := 1) (ret := (some .boolean)) (by decide) rfl ?_
  intro p e s m args below meth c s₁ B hml hv
  obtain ⟨rfl, hsz, hP, hK, hD0, hN⟩ := hv
  have hx := B.exec
  have hb := B.bytes
  have hr := B.returns
  have hts := atoms_spec (ws := (wd y_T_isBare b_T_isBare 1 (some .boolean))) B.pre
  have htb : ∀ w ∈ tb, w.before _ s = true := fun w h => hts w (List.mem_cons_of_mem _ h)
  have hown : s.vm.findClass R_T = some m.cls := findClass_of_methodNamed B.named
  have hlocks := B.notSynchronized
  subst hsz
  have hD := hD0
  have hA : ∀ q : Nat, s.heap.size ≤ q → s.heap.size ≤ q := fun q h => h
  have hS : va_S (fun q => s.heap.size ≤ q) s.heap s.heap [] := va_S.rf
  have hP : va_P (dC, dI) classes (wX ad cs σ) s.heap := hP
  have hl := lv_entry ([.ref (ad (7 + i) 0)]) (n := 1) (Nat.le_of_ble_eq_true rfl)
  rw [lg_entry_eq]
  generalize (lg_sl ([.ref (ad (7 + i) 0)]) ++ List.replicate (1 - (lg_sl ([.ref (ad (7 + i) 0)])).length) Slot.unset).toArray = ls at hl ⊢
  have hl : lv_has ls 1 [(0, .ref (ad (7 + i) 0))] := hl
  rw [m_T_isBare] at hM
  refine lv_aload_n hx hb d_T_isBare_0 rfl (lv_at hl 0 rfl) ?_
  refine va_get (D := (dC, dI)) (ci := 6) (v := .int ((σ (7 + i)).1 1)) (C := R_T) (T := F_T) (N := 6) hx hb htb in_T hown hK hP (19 + 3 * i) (g_T hi) rfl 3 (by decide) (htb _ k_132) (fun _ h9 => h9) rfl d_T_isBare_1 ?_
  refine lv_if_ne (tgt := 18) hx hb d_T_isBare_4 (by decide) (fun h4 => ?_) (fun h4 => ?_)
  · rw [if_neg h4] at hM
    refine lv_iconst (v := 0) hx hb d_T_isBare_18 (by decide) ?_
    have e9 := Prod.mk.inj (Option.some.inj hM)
    exact W.zret (ty := .boolean) (v := 0) hx hb hr rfl (fun t ht hW => ⟨⟨0, (), rfl, e9, trivial⟩, hS.F ht⟩) hS.2.2 d_T_isBare_19
  · rw [if_pos h4] at hM
    refine lv_aload_n hx hb d_T_isBare_7 rfl (lv_at hl 0 rfl) ?_
    refine va_get (D := (dC, dI)) (ci := 6) (v := .int ((σ (7 + i)).1 2)) (C := R_T) (T := F_T) (N := 6) hx hb htb in_T hown hK hP (19 + 3 * i) (g_T hi) rfl 4 (by decide) (htb _ k_133) (fun _ h9 => h9) rfl d_T_isBare_8 ?_
    refine lv_if_ne (tgt := 18) hx hb d_T_isBare_11 (by decide) (fun h11 => ?_) (fun h11 => ?_)
    · rw [if_neg h11] at hM
      refine lv_iconst (v := 0) hx hb d_T_isBare_18 (by decide) ?_
      have e9 := Prod.mk.inj (Option.some.inj hM)
      exact W.zret (ty := .boolean) (v := 0) hx hb hr rfl (fun t ht hW => ⟨⟨0, (), rfl, e9, trivial⟩, hS.F ht⟩) hS.2.2 d_T_isBare_19
    · rw [if_pos h11] at hM
      refine lv_iconst (v := 1) hx hb d_T_isBare_14 (by decide) ?_
      refine lv_goto (tgt := 19) hx hb d_T_isBare_15 (by decide) ?_
      have e9 := Prod.mk.inj (Option.some.inj hM)
      exact W.zret (ty := .boolean) (v := 1) hx hb hr rfl (fun t ht hW => ⟨⟨1, (), rfl, e9, trivial⟩, hS.F ht⟩) hS.2.2 d_T_isBare_19

theorem d_P_goDown_0 : decode b_P_goDown 0 = .ok (.aload_n 0, 1) := by decide +kernel
theorem d_P_goDown_1 : decode b_P_goDown 1 = .ok (.dup, 1) := by decide +kernel
theorem d_P_goDown_2 : decode b_P_goDown 2 = .ok (.getfield 15, 3) := by decide +kernel
theorem d_P_goDown_5 : decode b_P_goDown 5 = .ok (.iconst 1, 1) := by decide +kernel
theorem d_P_goDown_6 : decode b_P_goDown 6 = .ok (.isub, 1) := by decide +kernel
theorem d_P_goDown_7 : decode b_P_goDown 7 = .ok (.putfield 15, 3) := by decide +kernel
theorem d_P_goDown_10 : decode b_P_goDown 10 = .ok (.return_, 1) := by decide +kernel
def m_P_goDown (N : Nat) (σ : SX) : Option (SX) :=
  some (w1 σ 4 0 (((σ 4).1 0) - 1))

set_option maxHeartbeats 4000000 in
set_option maxRecDepth 100000 in
theorem c_P_goDown (l : Launch) (dC : Nat → ClassId) (dI : Nat → Nat → Nat) (ad : Nat → Nat → Nat) (cs : Nat → ClassId) (sz N : Nat) (σ : SX) {σ0 : SX} (hM : m_P_goDown N σ = some σ0) : Met l y_P_goDown (wd y_P_goDown b_P_goDown 1 none) ({ frames := 0, cells := 0, slots := 0, locals := 0 }) (va_Pc [.ref (ad 4 0)] (preX dC dI ad cs sz σ)) (va_Qv (fun (u : SX) => u = σ0) (atX dC dI ad cs (va_A (wX ad cs σ) sz)) (va_A (wX ad cs σ) sz)) 0 0 (va_A (wX ad cs σ) sz) := by
  refine Met.ofW (cc := b_P_goDown) (maxL := 1) (ret := none) (by decide) rfl ?_
  intro p e s m args below meth c s₁ B hml hv
  obtain ⟨rfl, hsz, hP, hK, hD0, hN⟩ := hv
  have hx := B.exec
  have hb := B.bytes
  have hr := B.returns
  have hts := atoms_spec (ws := (wd y_P_goDown b_P_goDown 1 none)) B.pre
  have htb : ∀ w ∈ tb, w.before _ s = true := fun w h => hts w (List.mem_cons_of_mem _ h)
  have hown : s.vm.findClass R_P = some m.cls := findClass_of_methodNamed B.named
  have hlocks := B.notSynchronized
  subst hsz
  have hD := hD0.self (sz := s.heap.size)
  generalize hAe : va_A (wX ad cs σ) s.heap.size = A at hD ⊢
  have hA : ∀ q : Nat, s.heap.size ≤ q → A q := fun q h => by rw [← hAe]; exact Or.inr h
  have hS : va_S A s.heap s.heap [] := va_S.rf
  have hP : va_P (dC, dI) classes (wX ad cs σ) s.heap := hP
  have hl := lv_entry ([.ref (ad 4 0)]) (n := 1) (Nat.le_of_ble_eq_true rfl)
  rw [lg_entry_eq]
  generalize (lg_sl ([.ref (ad 4 0)]) ++ List.replicate (1 - (lg_sl ([.ref (ad 4 0)])).length) Slot.unset).toArray = ls at hl ⊢
  have hl : lv_has ls 1 [(0, .ref (ad 4 0))] := hl
  rw [m_P_goDown] at hM
  refine lv_aload_n hx hb d_P_goDown_0 rfl (lv_at hl 0 rfl) ?_
  refine lv_dup hx hb d_P_goDown_1 rfl ?_
  refine va_get (D := (dC, dI)) (ci := 3) (v := .int ((σ 4).1 0)) (C := R_P) (T := F_P) (N := 3) hx hb htb in_P hown hK hP 13 (g_P) rfl 1 (by decide) (htb _ k_56) (fun _ h9 => h9) rfl d_P_goDown_2 ?_
  refine lv_iconst (v := 1) hx hb d_P_goDown_5 (by decide) ?_
  refine lv_isub hx hb d_P_goDown_6 ?_
  refine va_put (D := (dC, dI)) (ci := 3) (v := .int (((σ 4).1 0) - 1)) (ty := .int) (C := R_P) (T := F_P) (N := 3) hx hb htb in_P ft_P ft_P_ok n_P hown hK hP hD hS 13 (g_P) rfl 1 (by decide) (htb _ k_56) (fun _ h9 => h9) rfl (by decide +kernel) rfl rfl (Nat.le_of_ble_eq_true rfl) d_P_goDown_7 (fun H locs hP hD hS => ?_)
  have hP := P_eq (s_P_0) hP
  have hD := D_eq (s_P_0) hD
  have e9 := Option.some.inj hM
  exact W.vret hx hb hr (fun t ht hW => ⟨⟨(w1 σ 4 0 (((σ 4).1 0) - 1)), rfl, e9, by rw [ht]; exact hP, va_K.moved hW.alike hK, hD⟩, hS.F ht⟩) hS.2.2 d_P_goDown_10

theorem d_P_height_0 : decode b_P_height 0 = .ok (.aload_n 0, 1) := by decide +kernel
theorem d_P_height_1 : decode b_P_height 1 = .ok (.getfield 15, 3) := by decide +kernel
theorem d_P_height_4 : decode b_P_height 4 = .ok (.ireturn, 1) := by decide +kernel
def m_P_height (N : Nat) (σ : SX) : Option (Int32 × SX) :=
  some (((σ 4).1 0), σ)

set_option maxHeartbeats 4000000 in
set_option maxRecDepth 100000 in
theorem c_P_height (l : Launch) (dC : Nat → ClassId) (dI : Nat → Nat → Nat) (ad : Nat → Nat → Nat) (cs : Nat → ClassId) (sz N : Nat) (σ : SX) {r0 : Int32} {σ0 : SX} (hM : m_P_height N σ = some (r0, σ0)) : Met l y_P_height (wd y_P_height b_P_height 1 (some .int)) ({ frames := 0, cells := 0, slots := 0, locals := 0 }) (va_Pc [.ref (ad 4 0)] (preX dC dI ad cs sz σ)) (va_Qi (fun (r : Int32) (_ : Unit) => r = r0 ∧ σ = σ0) (fun _ _ => True) (fun q => sz ≤ q)) 0 0 (fun q => sz ≤ q) := by
  refine Met.ofW (cc := b_P_height) (maxL := 1) (ret := (some .int)) (by decide) rfl ?_
  intro p e s m args below meth c s₁ B hml hv
  obtain ⟨rfl, hsz, hP, hK, hD0, hN⟩ := hv
  have hx := B.exec
  have hb := B.bytes
  have hr := B.returns
  have hts := atoms_spec (ws := (wd y_P_height b_P_height 1 (some .int))) B.pre
  have htb : ∀ w ∈ tb, w.before _ s = true := fun w h => hts w (List.mem_cons_of_mem _ h)
  have hown : s.vm.findClass R_P = some m.cls := findClass_of_methodNamed B.named
  have hlocks := B.notSynchronized
  subst hsz
  have hD := hD0
  have hA : ∀ q : Nat, s.heap.size ≤ q → s.heap.size ≤ q := fun q h => h
  have hS : va_S (fun q => s.heap.size ≤ q) s.heap s.heap [] := va_S.rf
  have hP : va_P (dC, dI) classes (wX ad cs σ) s.heap := hP
  have hl := lv_entry ([.ref (ad 4 0)]) (n := 1) (Nat.le_of_ble_eq_true rfl)
  rw [lg_entry_eq]
  generalize (lg_sl ([.ref (ad 4 0)]) ++ List.replicate (1 - (lg_sl ([.ref (ad 4 0)])).length) Slot.unset).toArray = ls at hl ⊢
  have hl : lv_has ls 1 [(0, .ref (ad 4 0))] := hl
  rw [m_P_height] at hM
  refine lv_aload_n hx hb d_P_height_0 rfl (lv_at hl 0 rfl) ?_
  refine va_get (D := (dC, dI)) (ci := 3) (v := .int ((σ 4).1 0)) (C := R_P) (T := F_P) (N := 3) hx hb htb in_P hown hK hP 13 (g_P) rfl 1 (by decide) (htb _ k_56) (fun _ h9 => h9) rfl d_P_height_1 ?_
  have e9 := Prod.mk.inj (Option.some.inj hM)
  exact W.iret (v := ((σ 4).1 0)) hx hb hr (fun t ht hW => ⟨⟨((σ 4).1 0), (), rfl, e9, trivial⟩, hS.F ht⟩) hS.2.2 d_P_height_4

theorem d_O_endLevel_0 : decode b_O_endLevel 0 = .ok (.aload_n 0, 1) := by decide +kernel
theorem d_O_endLevel_1 : decode b_O_endLevel 1 = .ok (.getfield 43, 3) := by decide +kernel
theorem d_O_endLevel_4 : decode b_O_endLevel 4 = .ok (.iconst 3, 1) := by decide +kernel
theorem d_O_endLevel_5 : decode b_O_endLevel 5 = .ok (.iaload, 1) := by decide +kernel
theorem d_O_endLevel_6 : decode b_O_endLevel 6 = .ok (.istore_n 1, 1) := by decide +kernel
theorem d_O_endLevel_7 : decode b_O_endLevel 7 = .ok (.iconst 3, 1) := by decide +kernel
theorem d_O_endLevel_8 : decode b_O_endLevel 8 = .ok (.istore_n 2, 1) := by decide +kernel
theorem d_O_endLevel_9 : decode b_O_endLevel 9 = .ok (.iload_n 2, 1) := by decide +kernel
theorem d_O_endLevel_10 : decode b_O_endLevel 10 = .ok (.ifCond .le 23, 3) := by decide +kernel
theorem d_O_endLevel_13 : decode b_O_endLevel 13 = .ok (.aload_n 0, 1) := by decide +kernel
theorem d_O_endLevel_14 : decode b_O_endLevel 14 = .ok (.getfield 43, 3) := by decide +kernel
theorem d_O_endLevel_17 : decode b_O_endLevel 17 = .ok (.iload_n 2, 1) := by decide +kernel
theorem d_O_endLevel_18 : decode b_O_endLevel 18 = .ok (.aload_n 0, 1) := by decide +kernel
theorem d_O_endLevel_19 : decode b_O_endLevel 19 = .ok (.getfield 43, 3) := by decide +kernel
theorem d_O_endLevel_22 : decode b_O_endLevel 22 = .ok (.iload_n 2, 1) := by decide +kernel
theorem d_O_endLevel_23 : decode b_O_endLevel 23 = .ok (.iconst 1, 1) := by decide +kernel
theorem d_O_endLevel_24 : decode b_O_endLevel 24 = .ok (.isub, 1) := by decide +kernel
theorem d_O_endLevel_25 : decode b_O_endLevel 25 = .ok (.iaload, 1) := by decide +kernel
theorem d_O_endLevel_26 : decode b_O_endLevel 26 = .ok (.iastore, 1) := by decide +kernel
theorem d_O_endLevel_27 : decode b_O_endLevel 27 = .ok (.iinc 2 (-1), 3) := by decide +kernel
theorem d_O_endLevel_30 : decode b_O_endLevel 30 = .ok (.goto (-21), 3) := by decide +kernel
theorem d_O_endLevel_33 : decode b_O_endLevel 33 = .ok (.aload_n 0, 1) := by decide +kernel
theorem d_O_endLevel_34 : decode b_O_endLevel 34 = .ok (.getfield 43, 3) := by decide +kernel
theorem d_O_endLevel_37 : decode b_O_endLevel 37 = .ok (.iconst 0, 1) := by decide +kernel
theorem d_O_endLevel_38 : decode b_O_endLevel 38 = .ok (.iload_n 1, 1) := by decide +kernel
theorem d_O_endLevel_39 : decode b_O_endLevel 39 = .ok (.iastore, 1) := by decide +kernel
theorem d_O_endLevel_40 : decode b_O_endLevel 40 = .ok (.aload_n 0, 1) := by decide +kernel
theorem d_O_endLevel_41 : decode b_O_endLevel 41 = .ok (.getfield 19, 3) := by decide +kernel
theorem d_O_endLevel_44 : decode b_O_endLevel 44 = .ok (.invokevirtual 247, 3) := by decide +kernel
theorem d_O_endLevel_47 : decode b_O_endLevel 47 = .ok (.aload_n 0, 1) := by decide +kernel
theorem d_O_endLevel_48 : decode b_O_endLevel 48 = .ok (.getfield 19, 3) := by decide +kernel
theorem d_O_endLevel_51 : decode b_O_endLevel 51 = .ok (.invokevirtual 140, 3) := by decide +kernel
theorem d_O_endLevel_54 : decode b_O_endLevel 54 = .ok (.ifCond .ne 8, 3) := by decide +kernel
theorem d_O_endLevel_57 : decode b_O_endLevel 57 = .ok (.aload_n 0, 1) := by decide +kernel
theorem d_O_endLevel_58 : decode b_O_endLevel 58 = .ok (.iconst 3, 1) := by decide +kernel
theorem d_O_endLevel_59 : decode b_O_endLevel 59 = .ok (.putfield 53, 3) := by decide +kernel
theorem d_O_endLevel_62 : decode b_O_endLevel 62 = .ok (.return_, 1) := by decide +kernel
def m_O_endLevel_9 (N : Nat) : Nat → SX → Int32 → Int32 → Option (SX)
  | 0, _, _, _ => none
  | n9 + 1, σ, v1, v2 =>
    (if v2 ≤ 0 then (bV (m_P_goDown N (w3 σ 0 1 0 v1)) fun σ44 => (bI (m_P_height N σ44) fun r51 σ51 => (if r51 = 0 then some (w1 σ44 0 0 3) else some σ44))) else (if inb (v2 - 1) 4 = true then (if inb v2 4 = true then m_O_endLevel_9 N n9 (w3 σ 0 1 v2 ((σ 0).2 1 (v2 - 1).toNatClampNeg)) v1 (v2 + (-1)) else none) else none))

def m_O_endLevel (N : Nat) (σ : SX) : Option (SX) :=
  m_O_endLevel_9 N N σ ((σ 0).2 1 (3 : Int32).toNatClampNeg) 3

set_option maxHeartbeats 4000000 in
set_option maxRecDepth 100000 in
theorem c_O_endLevel (l : Launch) (dC : Nat → ClassId) (dI : Nat → Nat → Nat) (ad : Nat → Nat → Nat) (cs : Nat → ClassId) (sz N : Nat) (σ : SX) {σ0 : SX} (hM : m_O_endLevel N σ = some σ0) : Met l y_O_endLevel (wd y_O_endLevel b_O_endLevel 3 none) ({ frames := 1, cells := 0, slots := 0, locals := 20 }) (va_Pc [.ref (ad 0 0)] (preX dC dI ad cs sz σ)) (va_Qv (fun (u : SX) => u = σ0) (atX dC dI ad cs (va_A (wX ad cs σ) sz)) (va_A (wX ad cs σ) sz)) 0 0 (va_A (wX ad cs σ) sz) := by
  refine Met.ofW (cc := b_O_endLevel) (maxL := 3) (ret := none) (by decide) rfl ?_
  intro p e s m args below meth c s₁ B hml hv
  obtain ⟨rfl, hsz, hP, hK, hD0, hN⟩ := hv
  have hx := B.exec
  have hb := B.bytes
  have hr := B.returns
  have hts := atoms_spec (ws := (wd y_O_endLevel b_O_endLevel 3 none)) B.pre
  have htb : ∀ w ∈ tb, w.before _ s = true := fun w h => hts w (List.mem_cons_of_mem _ h)
  have hown : s.vm.findClass R_O = some m.cls := findClass_of_methodNamed B.named
  have hlocks := B.notSynchronized
  subst hsz
  have hD := hD0.self (sz := s.heap.size)
  generalize hAe : va_A (wX ad cs σ) s.heap.size = A at hD ⊢
  have hA : ∀ q : Nat, s.heap.size ≤ q → A q := fun q h => by rw [← hAe]; exact Or.inr h
  have hS : va_S A s.heap s.heap [] := va_S.rf
  have hP : va_P (dC, dI) classes (wX ad cs σ) s.heap := hP
  have hl := lv_entry ([.ref (ad 0 0)]) (n := 3) (Nat.le_of_ble_eq_true rfl)
  rw [lg_entry_eq]
  generalize (lg_sl ([.ref (ad 0 0)]) ++ List.replicate (3 - (lg_sl ([.ref (ad 0 0)])).length) Slot.unset).toArray = ls at hl ⊢
  have hl : lv_has ls 3 [(0, .ref (ad 0 0))] := hl
  rw [m_O_endLevel] at hM
  refine W_loop (pc := 9) (fun n9 H locs ls st => ∃ (σ : SX) (v1 : Int32) (v2 : Int32), st = [] ∧ m_O_endLevel_9 N n9 σ v1 v2 = some σ0 ∧ lv_has ls 3 [(0, .ref (ad 0 0)), (1, .int v1), (2, .int v2)] ∧ va_P (dC, dI) classes (wX ad cs σ) H ∧ va_D A (wX ad cs σ) ∧ va_S A s.heap H locs) ?_ ?_ ?_
  · rintro H locs ls st ⟨σ, v1, v2, -, hM, -⟩
    rw [m_O_endLevel_9] at hM; cases hM
  · intro n9 K9 H locs ls st hI
    obtain ⟨σ, v1, v2, rfl, hM, hl, hP, hD, hS⟩ := hI
    rw [m_O_endLevel_9] at hM
    refine lv_iload_n hx hb d_O_endLevel_9 rfl (lv_at hl 2 rfl) ?_
    refine lv_if_le (tgt := 33) hx hb d_O_endLevel_10 (by decide) (fun h10 => ?_) (fun h10 => ?_)
    · rw [if_pos h10] at hM
      refine lv_aload_n hx hb d_O_endLevel_33 rfl (lv_at hl 0 rfl) ?_
      refine va_get (D := (dC, dI)) (ci := 0) (v := .ref (ad 0 1)) (C := R_O) (T := F_O) (N := 12) hx hb htb in_O hown hK hP 0 (g_O) rfl 7 (by decide) (htb _ k_155) (fun _ h9 => h9) rfl d_O_endLevel_34 ?_
      refine lv_iconst (v := 0) hx hb d_O_endLevel_37 (by decide) ?_
      refine lv_iload_n hx hb d_O_endLevel_38 rfl (lv_at hl 1 rfl) ?_
      refine va_iast (i := 0) (x := v1) hx hb hK hP hD hS 31 0 (g_O_a1) rfl (inb_in (by decide)) d_O_endLevel_39 (fun H locs hP hD hS => ?_)
      have hP := P_eq (t_O_1) hP
      have hD := D_eq (t_O_1) hD
      refine lv_aload_n hx hb d_O_endLevel_40 rfl (lv_at hl 0 rfl) ?_
      refine va_get (D := (dC, dI)) (ci := 0) (v := .ref (ad 4 0)) (C := R_O) (T := F_O) (N := 12) hx hb htb in_O hown hK hP 0 (g_O) rfl 3 (by decide) (htb _ k_151) (fun _ h9 => h9) rfl d_O_endLevel_41 ?_
      have hF1 := free_all hD hS hA
      obtain ⟨y44, hq44, hM⟩ := bV_some hM
      refine va_callv (va_runV (As := []) (rest := []) ⟨hx, hb, hml, hown, hts⟩ (c_P_goDown l dC dI ad cs _ N (w3 σ 0 1 0 v1) hq44) (cwV 0 hts (goodV k_598 k_599 k_600 k_3 k_601) rfl rfl rfl ⟨rfl, by decide, by decide, by decide +kernel⟩ ⟨Nat.le_of_ble_eq_true rfl, Nat.le_of_ble_eq_true rfl⟩) ⟨blindX, va_recv hK hP rfl (g_P), payX hP hK hD hN⟩ rfl rfl hl.1 rfl (lv_room (Nat.le_of_ble_eq_true rfl)) d_O_endLevel_44 ⟨Nat.zero_le _, Nat.zero_le _⟩) hS (fun q _ h => hF1 q h) hF1 (fun σ44 t H locs ht hvm hpost hB hz1 hk1 hS => ?_)
      subst hpost
      obtain ⟨hP1, hK1, hD1⟩ := hB
      rw [ht] at hP1
      have hP := hP1
      have hD := hD1.weaken (fun _ _ _ h => hF1 _ h)
      refine lv_aload_n hx hb d_O_endLevel_47 rfl (lv_at hl 0 rfl) ?_
      refine va_get (D := (dC, dI)) (ci := 0) (v := .ref (ad 4 0)) (C := R_O) (T := F_O) (N := 12) hx hb htb in_O hown hK hP 0 (g_O) rfl 3 (by decide) (htb _ k_151) (fun _ h9 => h9) rfl d_O_endLevel_48 ?_
      obtain ⟨x51, y51, hq51, hM⟩ := bI_some hM
      refine va_calli (va_runV (As := []) (rest := []) ⟨hx, hb, hml, hown, hts⟩ (c_P_height l dC dI ad cs _ N σ44 hq51) (cwV 0 hts (goodV k_237 k_238 k_239 k_3 k_240) rfl rfl rfl ⟨rfl, by decide, by decide, by decide +kernel⟩ ⟨Nat.le_of_ble_eq_true rfl, Nat.le_of_ble_eq_true rfl⟩) ⟨blindX, va_recv hK hP rfl (g_P), payX hP hK hD hN⟩ rfl rfl hl.1 rfl (lv_room (Nat.le_of_ble_eq_true rfl)) d_O_endLevel_51 ⟨Nat.zero_le _, Nat.zero_le _⟩) hS (fun q h0 h => absurd h0 (Nat.not_lt.mpr h)) (fun q h => hA q (Nat.le_trans hS.1 h)) (fun r51 u t H locs ht hvm hpost hB hz1 hk1 hS => ?_)
      obtain ⟨e1, e2⟩ := hpost
      subst e1
      subst e2
      have hP := keepP hP hk1
      refine lv_if_ne (tgt := 62) hx hb d_O_endLevel_54 (by decide) (fun h54 => ?_) (fun h54 => ?_)
      · rw [if_neg h54] at hM
        have e9 := Option.some.inj hM
        exact W.vret hx hb hr (fun t ht hW => ⟨⟨σ44, rfl, e9, by rw [ht]; exact hP, va_K.moved hW.alike hK, hD⟩, hS.F ht⟩) hS.2.2 d_O_endLevel_62
      · rw [if_pos h54] at hM
        refine lv_aload_n hx hb d_O_endLevel_57 rfl (lv_at hl 0 rfl) ?_
        refine lv_iconst (v := 3) hx hb d_O_endLevel_58 (by decide) ?_
        refine va_put (D := (dC, dI)) (ci := 0) (v := .int 3) (ty := .int) (C := R_O) (T := F_O) (N := 12) hx hb htb in_O ft_O ft_O_ok n_O hown hK hP hD hS 0 (g_O) rfl 10 (by decide) (htb _ k_158) (fun _ h9 => h9) rfl (by decide +kernel) rfl rfl (Nat.le_of_ble_eq_true rfl) d_O_endLevel_59 (fun H locs hP hD hS => ?_)
        have hP := P_eq (s_O_0) hP
        have hD := D_eq (s_O_0) hD
        have e9 := Option.some.inj hM
        exact W.vret hx hb hr (fun t ht hW => ⟨⟨(w1 σ44 0 0 3), rfl, e9, by rw [ht]; exact hP, va_K.moved hW.alike hK, hD⟩, hS.F ht⟩) hS.2.2 d_O_endLevel_62
    · rw [if_neg h10] at hM
      refine lv_aload_n hx hb d_O_endLevel_13 rfl (lv_at hl 0 rfl) ?_
      refine va_get (D := (dC, dI)) (ci := 0) (v := .ref (ad 0 1)) (C := R_O) (T := F_O) (N := 12) hx hb htb in_O hown hK hP 0 (g_O) rfl 7 (by decide) (htb _ k_155) (fun _ h9 => h9) rfl d_O_endLevel_14 ?_
      refine lv_iload_n hx hb d_O_endLevel_17 rfl (lv_at hl 2 rfl) ?_
      refine lv_aload_n hx hb d_O_endLevel_18 rfl (lv_at hl 0 rfl) ?_
      refine va_get (D := (dC, dI)) (ci := 0) (v := .ref (ad 0 1)) (C := R_O) (T := F_O) (N := 12) hx hb htb in_O hown hK hP 0 (g_O) rfl 7 (by decide) (htb _ k_155) (fun _ h9 => h9) rfl d_O_endLevel_19 ?_
      refine lv_iload_n hx hb d_O_endLevel_22 rfl (lv_at hl 2 rfl) ?_
      refine lv_iconst (v := 1) hx hb d_O_endLevel_23 (by decide) ?_
      refine lv_isub hx hb d_O_endLevel_24 ?_
      have hg25 := gd_c hM
      have hM := gd_v hM
      refine va_iald hx hb hK hP 31 0 (g_O_a1) rfl (inb_in hg25) d_O_endLevel_25 ?_
      have hg26 := gd_c hM
      have hM := gd_v hM
      refine va_iast (i := v2) (x := ((σ 0).2 1 (v2 - 1).toNatClampNeg)) hx hb hK hP hD hS 31 0 (g_O_a1) rfl (inb_in hg26) d_O_endLevel_26 (fun H locs hP hD hS => ?_)
      have hP := P_eq (t_O_1) hP
      have hD := D_eq (t_O_1) hD
      refine lv_iinc (k := 2) (v := (v2 + (-1))) hx hb d_O_endLevel_27 hl rfl rfl (by decide) (lv' := [(2, .int (v2 + (-1))), (0, .ref (ad 0 0)), (1, .int v1)]) rfl (fun ls hl => ?_)
      refine lv_goto (tgt := 9) hx hb d_O_endLevel_30 (by decide) ?_
      exact K9 _ _ _ _ ⟨(w3 σ 0 1 v2 ((σ 0).2 1 (v2 - 1).toNatClampNeg)), v1, (v2 + (-1)), rfl, hM, lv_sub hl [1, 2, 0] rfl, hP, hD, hS⟩
  intro K9
  refine lv_aload_n hx hb d_O_endLevel_0 rfl (lv_at hl 0 rfl) ?_
  refine va_get (D := (dC, dI)) (ci := 0) (v := .ref (ad 0 1)) (C := R_O) (T := F_O) (N := 12) hx hb htb in_O hown hK hP 0 (g_O) rfl 7 (by decide) (htb _ k_155) (fun _ h9 => h9) rfl d_O_endLevel_1 ?_
  refine lv_iconst (v := 3) hx hb d_O_endLevel_4 (by decide) ?_
  refine va_iald hx hb hK hP 31 0 (g_O_a1) rfl (inb_in (by decide)) d_O_endLevel_5 ?_
  refine lv_istore_n hx hb d_O_endLevel_6 rfl hl (by decide) (lv' := [(1, .int ((σ 0).2 1 (3 : Int32).toNatClampNeg)), (0, .ref (ad 0 0))]) rfl (fun ls hl => ?_)
  refine lv_iconst (v := 3) hx hb d_O_endLevel_7 (by decide) ?_
  refine lv_istore_n hx hb d_O_endLevel_8 rfl hl (by decide) (lv' := [(2, .int 3), (1, .int ((σ 0).2 1 (3 : Int32).toNatClampNeg)), (0, .ref (ad 0 0))]) rfl (fun ls hl => ?_)
  exact K9 N _ _ _ _ ⟨σ, ((σ 0).2 1 (3 : Int32).toNatClampNeg), 3, rfl, hM, lv_sub hl [2, 1, 0] rfl, hP, hD, hS⟩

theorem d_O_everySourceHasDummy_0 : decode b_O_everySourceHasDummy 0 = .ok (.iconst 0, 1) := by decide +kernel
theorem d_O_everySourceHasDummy_1 : decode b_O_everySourceHasDummy 1 = .ok (.istore_n 1, 1) := by decide +kernel
theorem d_O_everySourceHasDummy_2 : decode b_O_everySourceHasDummy 2 = .ok (.iload_n 1, 1) := by decide +kernel
theorem d_O_everySourceHasDummy_3 : decode b_O_everySourceHasDummy 3 = .ok (.iconst 3, 1) := by decide +kernel
theorem d_O_everySourceHasDummy_4 : decode b_O_everySourceHasDummy 4 = .ok (.if_icmp .ge 22, 3) := by decide +kernel
theorem d_O_everySourceHasDummy_7 : decode b_O_everySourceHasDummy 7 = .ok (.aload_n 0, 1) := by decide +kernel
theorem d_O_everySourceHasDummy_8 : decode b_O_everySourceHasDummy 8 = .ok (.iload_n 1, 1) := by decide +kernel
theorem d_O_everySourceHasDummy_9 : decode b_O_everySourceHasDummy 9 = .ok (.invokevirtual 161, 3) := by decide +kernel
theorem d_O_everySourceHasDummy_12 : decode b_O_everySourceHasDummy 12 = .ok (.invokevirtual 232, 3) := by decide +kernel
theorem d_O_everySourceHasDummy_15 : decode b_O_everySourceHasDummy 15 = .ok (.ifCond .ne 5, 3) := by decide +kernel
theorem d_O_everySourceHasDummy_18 : decode b_O_everySourceHasDummy 18 = .ok (.iconst 0, 1) := by decide +kernel
theorem d_O_everySourceHasDummy_19 : decode b_O_everySourceHasDummy 19 = .ok (.ireturn, 1) := by decide +kernel
theorem d_O_everySourceHasDummy_20 : decode b_O_everySourceHasDummy 20 = .ok (.iinc 1 1, 3) := by decide +kernel
theorem d_O_everySourceHasDummy_23 : decode b_O_everySourceHasDummy 23 = .ok (.goto (-21), 3) := by decide +kernel
theorem d_O_everySourceHasDummy_26 : decode b_O_everySourceHasDummy 26 = .ok (.iconst 1, 1) := by decide +kernel
theorem d_O_everySourceHasDummy_27 : decode b_O_everySourceHasDummy 27 = .ok (.ireturn, 1) := by decide +kernel
def m_O_everySourceHasDummy_2 (N : Nat) : Nat → SX → Int32 → Option (Int32 × SX)
  | 0, _, _ => none
  | n2 + 1, σ, v1 =>
    (if 3 ≤ v1 then some (1, σ) else (bR (m_O_tapeInRole N σ v1) fun x9 σ9 => (bI (m_T_hasDummy N σ x9) fun r12 σ12 => (if r12 = 0 then some (0, σ) else m_O_everySourceHasDummy_2 N n2 σ (v1 + 1)))))

def m_O_everySourceHasDummy (N : Nat) (σ : SX) : Option (Int32 × SX) :=
  m_O_everySourceHasDummy_2 N N σ 0

set_option maxHeartbeats 4000000 in
set_option maxRecDepth 100000 in
theorem c_O_everySourceHasDummy (l : Launch) (dC : Nat → ClassId) (dI : Nat → Nat → Nat) (ad : Nat → Nat → Nat) (cs : Nat → ClassId) (sz N : Nat) (σ : SX) {r0 : Int32} {σ0 : SX} (hM : m_O_everySourceHasDummy N σ = some (r0, σ0)) : Met l y_O_everySourceHasDummy (wd y_O_everySourceHasDummy b_O_everySourceHasDummy 2 (some .boolean)) ({ frames := 1, cells := 0, slots := 0, locals := 21 }) (va_Pc [.ref (ad 0 0)] (preX dC dI ad cs sz σ)) (va_Qi (fun (r : Int32) (_ : Unit) => r = r0 ∧ σ = σ0) (fun _ _ => True) (fun q => sz ≤ q)) 0 0 (fun q => sz ≤ q) := by
  refine Met.ofW (cc := b_O_everySourceHasDummy) (maxL := 2) (ret := (some .boolean)) (by decide) rfl ?_
  intro p e s m args below meth c s₁ B hml hv
  obtain ⟨rfl, hsz, hP, hK, hD0, hN⟩ := hv
  have hx := B.exec
  have hb := B.bytes
  have hr := B.returns
  have hts := atoms_spec (ws := (wd y_O_everySourceHasDummy b_O_everySourceHasDummy 2 (some .boolean))) B.pre
  have htb : ∀ w ∈ tb, w.before _ s = true := fun w h => hts w (List.mem_cons_of_mem _ h)
  have hown : s.vm.findClass R_O = some m.cls := findClass_of_methodNamed B.named
  have hlocks := B.notSynchronized
  subst hsz
  have hD := hD0
  have hA : ∀ q : Nat, s.heap.size ≤ q → s.heap.size ≤ q := fun q h => h
  have hS : va_S (fun q => s.heap.size ≤ q) s.heap s.heap [] := va_S.rf
  have hP : va_P (dC, dI) classes (wX ad cs σ) s.heap := hP
  have hl := lv_entry ([.ref (ad 0 0)]) (n := 2) (Nat.le_of_ble_eq_true rfl)
  rw [lg_entry_eq]
  generalize (lg_sl ([.ref (ad 0 0)]) ++ List.replicate (2 - (lg_sl ([.ref (ad 0 0)])).length) Slot.unset).toArray = ls at hl ⊢
  have hl : lv_has ls 2 [(0, .ref (ad 0 0))] := hl
  rw [m_O_everySourceHasDummy] at hM
  refine W_loop (pc := 2) (fun n2 H locs ls st => ∃ (v1 : Int32), st = [] ∧ m_O_everySourceHasDummy_2 N n2 σ v1 = some (r0, σ0) ∧ lv_has ls 2 [(0, .ref (ad 0 0)), (1, .int v1)] ∧ va_P (dC, dI) classes (wX ad cs σ) H ∧ va_D (fun _ => True) (wX ad cs σ) ∧ va_S (fun q => s.heap.size ≤ q) s.heap H locs) ?_ ?_ ?_
  · rintro H locs ls st ⟨v1, -, hM, -⟩
    rw [m_O_everySourceHasDummy_2] at hM; cases hM
  · intro n2 K2 H locs ls st hI
    obtain ⟨v1, rfl, hM, hl, hP, hD, hS⟩ := hI
    rw [m_O_everySourceHasDummy_2] at hM
    refine lv_iload_n hx hb d_O_everySourceHasDummy_2 rfl (lv_at hl 1 rfl) ?_
    refine lv_iconst (v := 3) hx hb d_O_everySourceHasDummy_3 (by decide) ?_
    refine lv_icmp_ge (tgt := 26) hx hb d_O_everySourceHasDummy_4 (by decide) (fun h4 => ?_) (fun h4 => ?_)
    · rw [if_pos h4] at hM
      refine lv_iconst (v := 1) hx hb d_O_everySourceHasDummy_26 (by decide) ?_
      have e9 := Prod.mk.inj (Option.some.inj hM)
      exact W.zret (ty := .boolean) (v := 1) hx hb hr rfl (fun t ht hW => ⟨⟨1, (), rfl, e9, trivial⟩, hS.F ht⟩) hS.2.2 d_O_everySourceHasDummy_27
    · rw [if_neg h4] at hM
      refine lv_aload_n hx hb d_O_everySourceHasDummy_7 rfl (lv_at hl 0 rfl) ?_
      refine lv_iload_n hx hb d_O_everySourceHasDummy_8 rfl (lv_at hl 1 rfl) ?_
      obtain ⟨x9, y9, hq9, hM⟩ := bR_some hM
      refine va_callr (va_runV (As := [.int v1]) (rest := []) ⟨hx, hb, hml, hown, hts⟩ (c_O_tapeInRole l dC dI ad cs _ N σ v1 hq9) (cwV 1 hts (goodV k_305 k_307 ks_O_tapeInRole k_1 k_308) rfl rfl rfl ⟨rfl, by decide, by decide, by decide +kernel⟩ ⟨Nat.le_of_ble_eq_true rfl, Nat.le_of_ble_eq_true rfl⟩) ⟨blindX, va_recv hK hP rfl (g_O), payX hP hK hD hN⟩ rfl rfl hl.1 rfl (lv_room (Nat.le_of_ble_eq_true rfl)) d_O_everySourceHasDummy_9 ⟨Nat.zero_le _, Nat.zero_le _⟩) hS (fun q h0 h => absurd h0 (Nat.not_lt.mpr h)) (fun q h => hA q (Nat.le_trans hS.1 h)) (fun u ra t H locs ht hvm hpost hB hz1 hk1 hS => ?_)
      subst hpost
      obtain ⟨rfl, hx9⟩ := hB
      have hP := keepP hP hk1
      obtain ⟨x12, y12, hq12, hM⟩ := bI_some hM
      refine va_calli (va_runV (As := []) (rest := []) ⟨hx, hb, hml, hown, hts⟩ (c_T_hasDummy l dC dI ad cs _ N σ x9 hx9 hq12) (cwV 0 hts (goodV k_558 k_559 k_560 k_7 k_561) rfl rfl rfl ⟨rfl, by decide, by decide, by decide +kernel⟩ ⟨Nat.le_of_ble_eq_true rfl, Nat.le_of_ble_eq_true rfl⟩) ⟨blindX, va_recv hK hP rfl (g_T hx9), payX hP hK hD hN⟩ rfl rfl hl.1 rfl (lv_room (Nat.le_of_ble_eq_true rfl)) d_O_everySourceHasDummy_12 ⟨Nat.zero_le _, Nat.zero_le _⟩) hS (fun q h0 h => absurd h0 (Nat.not_lt.mpr h)) (fun q h => hA q (Nat.le_trans hS.1 h)) (fun r12 u t H locs ht hvm hpost hB hz1 hk1 hS => ?_)
      obtain ⟨e1, e2⟩ := hpost
      subst e1
      subst e2
      have hP := keepP hP hk1
      refine lv_if_ne (tgt := 20) hx hb d_O_everySourceHasDummy_15 (by decide) (fun h15 => ?_) (fun h15 => ?_)
      · rw [if_neg h15] at hM
        refine lv_iinc (k := 1) (v := (v1 + 1)) hx hb d_O_everySourceHasDummy_20 hl rfl rfl (by decide) (lv' := [(1, .int (v1 + 1)), (0, .ref (ad 0 0))]) rfl (fun ls hl => ?_)
        refine lv_goto (tgt := 2) hx hb d_O_everySourceHasDummy_23 (by decide) ?_
        exact K2 _ _ _ _ ⟨(v1 + 1), rfl, hM, lv_sub hl [1, 0] rfl, hP, hD, hS⟩
      · rw [if_pos h15] at hM
        refine lv_iconst (v := 0) hx hb d_O_everySourceHasDummy_18 (by decide) ?_
        have e9 := Prod.mk.inj (Option.some.inj hM)
        exact W.zret (ty := .boolean) (v := 0) hx hb hr rfl (fun t ht hW => ⟨⟨0, (), rfl, e9, trivial⟩, hS.F ht⟩) hS.2.2 d_O_everySourceHasDummy_19
  intro K2
  refine lv_iconst (v := 0) hx hb d_O_everySourceHasDummy_0 (by decide) ?_
  refine lv_istore_n hx hb d_O_everySourceHasDummy_1 rfl hl (by decide) (lv' := [(1, .int 0), (0, .ref (ad 0 0))]) rfl (fun ls hl => ?_)
  exact K2 N _ _ _ _ ⟨0, rfl, hM, lv_sub hl [1, 0] rfl, hP, hD, hS⟩
