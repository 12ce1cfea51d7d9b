theorem d_V_forgetAll_0 : decode b_V_forgetAll 0 = .ok (.aload_n 0, 1) := by decide +kernel
theorem d_V_forgetAll_1 : decode b_V_forgetAll 1 = .ok (.iconst 0, 1) := by decide +kernel
theorem d_V_forgetAll_2 : decode b_V_forgetAll 2 = .ok (.putfield 7, 3) := by decide +kernel
theorem d_V_forgetAll_5 : decode b_V_forgetAll 5 = .ok (.aload_n 0, 1) := by decide +kernel
theorem d_V_forgetAll_6 : decode b_V_forgetAll 6 = .ok (.iconst 1, 1) := by decide +kernel
theorem d_V_forgetAll_7 : decode b_V_forgetAll 7 = .ok (.putfield 13, 3) := by decide +kernel
theorem d_V_forgetAll_10 : decode b_V_forgetAll 10 = .ok (.aload_n 0, 1) := by decide +kernel
theorem d_V_forgetAll_11 : decode b_V_forgetAll 11 = .ok (.iconst 0, 1) := by decide +kernel
theorem d_V_forgetAll_12 : decode b_V_forgetAll 12 = .ok (.putfield 17, 3) := by decide +kernel
theorem d_V_forgetAll_15 : decode b_V_forgetAll 15 = .ok (.return_, 1) := by decide +kernel
def m_V_forgetAll (N : Nat) (σ : SX) : Option (SX) :=
  some (w1 (w1 (w1 σ 5 0 0) 5 1 1) 5 2 0)

set_option maxHeartbeats 4000000 in
set_option maxRecDepth 100000 in
theorem c_V_forgetAll (l : Launch) (dC : Nat → ClassId) (dI : Nat → Nat → Nat) (ad : Nat → Nat → Nat) (cs : Nat → ClassId) (sz N : Nat) (σ : SX) {σ0 : SX} (hM : m_V_forgetAll N σ = some σ0) : Met l y_V_forgetAll (wd y_V_forgetAll b_V_forgetAll 1 none) ({ frames := 0, cells := 0, slots := 0, locals := 0 }) (va_Pc [.ref (ad 5 0)] (preX dC dI ad cs sz σ)) (va_Qv (fun (u : SX) => u = σ0) (atX dC dI ad cs (va_A (wX ad cs σ) sz)) (va_A (wX ad cs σ) sz)) 0 0 (va_A (wX ad cs σ) sz) := by
  refine Met.ofW (cc := b_V_forgetAll) (maxL := 1) (ret := none) (by decide) rfl ?_
  intro p e s m args below meth c s₁ B hml hv
  obtain ⟨rfl, hsz, hP, hK, hD0, hN⟩ := hv
  have hx := B.exec
  have hb := B.bytes
  have hr := B.returns
  have hts := atoms_spec (ws := (wd y_V_forgetAll b_V_forgetAll 1 none)) B.pre
  have htb : ∀ w ∈ tb, w.before _ s = true := fun w h => hts w (List.mem_cons_of_mem _ h)
  have hown : s.vm.findClass R_V = some m.cls := findClass_of_methodNamed B.named
  have hlocks := B.notSynchronized
  subst hsz
  have hD := hD0.self (sz := s.heap.size)
  generalize hAe : va_A (wX ad cs σ) s.heap.size = A at hD ⊢
  have hA : ∀ q : Nat, s.heap.size ≤ q → A q := fun q h => by rw [← hAe]; exact Or.inr h
  have hS : va_S A s.heap s.heap [] := va_S.rf
  have hP : va_P (dC, dI) classes (wX ad cs σ) s.heap := hP
  have hl := lv_entry ([.ref (ad 5 0)]) (n := 1) (Nat.le_of_ble_eq_true rfl)
  rw [lg_entry_eq]
  generalize (lg_sl ([.ref (ad 5 0)]) ++ List.replicate (1 - (lg_sl ([.ref (ad 5 0)])).length) Slot.unset).toArray = ls at hl ⊢
  have hl : lv_has ls 1 [(0, .ref (ad 5 0))] := hl
  rw [m_V_forgetAll] at hM
  refine lv_aload_n hx hb d_V_forgetAll_0 rfl (lv_at hl 0 rfl) ?_
  refine lv_iconst (v := 0) hx hb d_V_forgetAll_1 (by decide) ?_
  refine va_put (D := (dC, dI)) (ci := 4) (v := .int 0) (ty := .int) (C := R_V) (T := F_V) (N := 4) hx hb htb in_V ft_V ft_V_ok n_V hown hK hP hD hS 15 (g_V) rfl 0 (by decide) (htb _ k_71) (fun _ h9 => h9) rfl (by decide +kernel) rfl rfl (Nat.le_of_ble_eq_true rfl) d_V_forgetAll_2 (fun H locs hP hD hS => ?_)
  have hP := P_eq (s_V_0) hP
  have hD := D_eq (s_V_0) hD
  refine lv_aload_n hx hb d_V_forgetAll_5 rfl (lv_at hl 0 rfl) ?_
  refine lv_iconst (v := 1) hx hb d_V_forgetAll_6 (by decide) ?_
  refine va_put (D := (dC, dI)) (ci := 4) (v := .int 1) (ty := .boolean) (C := R_V) (T := F_V) (N := 4) hx hb htb in_V ft_V ft_V_ok n_V hown hK hP hD hS 15 (g_V) rfl 1 (by decide) (htb _ k_72) (fun _ h9 => h9) rfl (by decide +kernel) rfl rfl (Nat.le_of_ble_eq_true rfl) d_V_forgetAll_7 (fun H locs hP hD hS => ?_)
  have hP := P_eq (s_V_1) hP
  have hD := D_eq (s_V_1) hD
  refine lv_aload_n hx hb d_V_forgetAll_10 rfl (lv_at hl 0 rfl) ?_
  refine lv_iconst (v := 0) hx hb d_V_forgetAll_11 (by decide) ?_
  refine va_put (D := (dC, dI)) (ci := 4) (v := .int 0) (ty := .boolean) (C := R_V) (T := F_V) (N := 4) hx hb htb in_V ft_V ft_V_ok n_V hown hK hP hD hS 15 (g_V) rfl 2 (by decide) (htb _ k_73) (fun _ h9 => h9) rfl (by decide +kernel) rfl rfl (Nat.le_of_ble_eq_true rfl) d_V_forgetAll_12 (fun H locs hP hD hS => ?_)
  have hP := P_eq (s_V_2) hP
  have hD := D_eq (s_V_2) hD
  have e9 := Option.some.inj hM
  exact W.vret hx hb hr (fun t ht hW => ⟨⟨(w1 (w1 (w1 σ 5 0 0) 5 1 1) 5 2 0), rfl, e9, by rw [ht]; exact hP, va_K.moved hW.alike hK, hD⟩, hS.F ht⟩) hS.2.2 d_V_forgetAll_15

theorem d_T_forgetAll_0 : decode b_T_forgetAll 0 = .ok (.aload_n 0, 1) := by decide +kernel
theorem d_T_forgetAll_1 : decode b_T_forgetAll 1 = .ok (.iconst 0, 1) := by decide +kernel
theorem d_T_forgetAll_2 : decode b_T_forgetAll 2 = .ok (.putfield 18, 3) := by decide +kernel
theorem d_T_forgetAll_5 : decode b_T_forgetAll 5 = .ok (.aload_n 0, 1) := by decide +kernel
theorem d_T_forgetAll_6 : decode b_T_forgetAll 6 = .ok (.iconst 0, 1) := by decide +kernel
theorem d_T_forgetAll_7 : decode b_T_forgetAll 7 = .ok (.putfield 22, 3) := by decide +kernel
theorem d_T_forgetAll_10 : decode b_T_forgetAll 10 = .ok (.aload_n 0, 1) := by decide +kernel
theorem d_T_forgetAll_11 : decode b_T_forgetAll 11 = .ok (.iconst 0, 1) := by decide +kernel
theorem d_T_forgetAll_12 : decode b_T_forgetAll 12 = .ok (.putfield 25, 3) := by decide +kernel
theorem d_T_forgetAll_15 : decode b_T_forgetAll 15 = .ok (.aload_n 0, 1) := by decide +kernel
theorem d_T_forgetAll_16 : decode b_T_forgetAll 16 = .ok (.iconst 0, 1) := by decide +kernel
theorem d_T_forgetAll_17 : decode b_T_forgetAll 17 = .ok (.putfield 28, 3) := by decide +kernel
theorem d_T_forgetAll_20 : decode b_T_forgetAll 20 = .ok (.return_, 1) := by decide +kernel
def m_T_forgetAll (N : Nat) (σ : SX) (i : Nat) : Option (SX) :=
  some (w1 (w1 (w1 (w1 σ (7 + i) 0 0) (7 + i) 1 0) (7 + i) 2 0) (7 + i) 3 0)

set_option maxHeartbeats 4000000 in
set_option maxRecDepth 100000 in
theorem c_T_forgetAll (l : Launch) (dC : Nat → ClassId) (dI : Nat → Nat → Nat) (ad : Nat → Nat → Nat) (cs : Nat → ClassId) (sz N : Nat) (σ : SX) (i : Nat) (hi : i < 4) {σ0 : SX} (hM : m_T_forgetAll N σ i = some σ0) : Met l y_T_forgetAll (wd y_T_forgetAll b_T_forgetAll 1 none) ({ frames := 0, cells := 0, slots := 0, locals := 0 }) (va_Pc [.ref (ad (7 + i) 0)] (preX dC dI ad cs sz σ)) (va_Qv (fun (u : SX) => u = σ0) (atX dC dI ad cs (va_A (wX ad cs σ) sz)) (va_A (wX ad cs σ) sz)) 0 0 (va_A (wX ad cs σ) sz) := by
  refine Met.ofW (cc := b_T_forgetAll) (maxL := 1) (ret := none) (by decide) rfl ?_
  intro p e s m args below meth c s₁ B hml hv
  obtain ⟨rfl, hsz, hP, hK, hD0, hN⟩ := hv
  have hx := B.exec
  have hb := B.bytes
  have hr := B.returns
  have hts := atoms_spec (ws := (wd y_T_forgetAll b_T_forgetAll 1 none)) B.pre
  have htb : ∀ w ∈ tb, w.before _ s = true := fun w h => hts w (List.mem_cons_of_mem _ h)
  have hown : s.vm.findClass R_T = some m.cls := findClass_of_methodNamed B.named
  have hlocks := B.notSynchronized
  subst hsz
  have hD := hD0.self (sz := s.heap.size)
  generalize hAe : va_A (wX ad cs σ) s.heap.size = A at hD ⊢
  have hA : ∀ q : Nat, s.heap.size ≤ q → A q := fun q h => by rw [← hAe]; exact Or.inr h
  have hS : va_S A s.heap s.heap [] := va_S.rf
  have hP : va_P (dC, dI) classes (wX ad cs σ) s.heap := hP
  have hl := lv_entry ([.ref (ad (7 + i) 0)]) (n := 1) (Nat.le_of_ble_eq_true rfl)
  rw [lg_entry_eq]
  generalize (lg_sl ([.ref (ad (7 + i) 0)]) ++ List.replicate (1 - (lg_sl ([.ref (ad (7 + i) 0)])).length) Slot.unset).toArray = ls at hl ⊢
  have hl : lv_has ls 1 [(0, .ref (ad (7 + i) 0))] := hl
  rw [m_T_forgetAll] at hM
  refine lv_aload_n hx hb d_T_forgetAll_0 rfl (lv_at hl 0 rfl) ?_
  refine lv_iconst (v := 0) hx hb d_T_forgetAll_1 (by decide) ?_
  refine va_put (D := (dC, dI)) (ci := 6) (v := .int 0) (ty := .int) (C := R_T) (T := F_T) (N := 6) hx hb htb in_T ft_T ft_T_ok n_T hown hK hP hD hS (19 + 3 * i) (g_T hi) rfl 2 (by decide) (htb _ k_131) (fun _ h9 => h9) rfl (by decide +kernel) rfl rfl (Nat.le_of_ble_eq_true rfl) d_T_forgetAll_2 (fun H locs hP hD hS => ?_)
  have hP := P_eq (s_T_0 hi) hP
  have hD := D_eq (s_T_0 hi) hD
  refine lv_aload_n hx hb d_T_forgetAll_5 rfl (lv_at hl 0 rfl) ?_
  refine lv_iconst (v := 0) hx hb d_T_forgetAll_6 (by decide) ?_
  refine va_put (D := (dC, dI)) (ci := 6) (v := .int 0) (ty := .int) (C := R_T) (T := F_T) (N := 6) hx hb htb in_T ft_T ft_T_ok n_T hown hK hP hD hS (19 + 3 * i) (g_T hi) rfl 3 (by decide) (htb _ k_132) (fun _ h9 => h9) rfl (by decide +kernel) rfl rfl (Nat.le_of_ble_eq_true rfl) d_T_forgetAll_7 (fun H locs hP hD hS => ?_)
  have hP := P_eq (s_T_1 hi) hP
  have hD := D_eq (s_T_1 hi) hD
  refine lv_aload_n hx hb d_T_forgetAll_10 rfl (lv_at hl 0 rfl) ?_
  refine lv_iconst (v := 0) hx hb d_T_forgetAll_11 (by decide) ?_
  refine va_put (D := (dC, dI)) (ci := 6) (v := .int 0) (ty := .int) (C := R_T) (T := F_T) (N := 6) hx hb htb in_T ft_T ft_T_ok n_T hown hK hP hD hS (19 + 3 * i) (g_T hi) rfl 4 (by decide) (htb _ k_133) (fun _ h9 => h9) rfl (by decide +kernel) rfl rfl (Nat.le_of_ble_eq_true rfl) d_T_forgetAll_12 (fun H locs hP hD hS => ?_)
  have hP := P_eq (s_T_2 hi) hP
  have hD := D_eq (s_T_2 hi) hD
  refine lv_aload_n hx hb d_T_forgetAll_15 rfl (lv_at hl 0 rfl) ?_
  refine lv_iconst (v := 0) hx hb d_T_forgetAll_16 (by decide) ?_
  refine va_put (D := (dC, dI)) (ci := 6) (v := .int 0) (ty := .int) (C := R_T) (T := F_T) (N := 6) hx hb htb in_T ft_T ft_T_ok n_T hown hK hP hD hS (19 + 3 * i) (g_T hi) rfl 5 (by decide) (htb _ k_134) (fun _ h9 => h9) rfl (by decide +kernel) rfl rfl (Nat.le_of_ble_eq_true rfl) d_T_forgetAll_17 (fun H locs hP hD hS => ?_)
  have hP := P_eq (s_T_3 hi) hP
  have hD := D_eq (s_T_3 hi) hD
  have e9 := Option.some.inj hM
  exact W.vret hx hb hr (fun t ht hW => ⟨⟨(w1 (w1 (w1 (w1 σ (7 + i) 0 0) (7 + i) 1 0) (7 + i) 2 0) (7 + i) 3 0), rfl, e9, by rw [ht]; exact hP, va_K.moved hW.alike hK, hD⟩, hS.F ht⟩) hS.2.2 d_T_forgetAll_20

theorem d_D_cardCount_0 : decode b_D_cardCount 0 = .ok (.aload_n 0, 1) := by decide +kernel
theorem d_D_cardCount_1 : decode b_D_cardCount 1 = .ok (.getfield 23, 3) := by decide +kernel
theorem d_D_cardCount_4 : decode b_D_cardCount 4 = .ok (.ireturn, 1) := by decide +kernel
def m_D_cardCount (N : Nat) (σ : SX) : Option (Int32 × SX) :=
  some (((σ 1).1 0), σ)

set_option maxHeartbeats 4000000 in
set_option maxRecDepth 100000 in
theorem c_D_cardCount (l : Launch) (dC : Nat → ClassId) (dI : Nat → Nat → Nat) (ad : Nat → Nat → Nat) (cs : Nat → ClassId) (sz N : Nat) (σ : SX) {r0 : Int32} {σ0 : SX} (hM : m_D_cardCount N σ = some (r0, σ0)) : Met l y_D_cardCount (wd y_D_cardCount b_D_cardCount 1 (some .int)) ({ frames := 0, cells := 0, slots := 0, locals := 0 }) (va_Pc [.ref (ad 1 0)] (preX dC dI ad cs sz σ)) (va_Qi (fun (r : Int32) (_ : Unit) => r = r0 ∧ σ = σ0) (fun _ _ => True) (fun q => sz ≤ q)) 0 0 (fun q => sz ≤ q) := by
  refine Met.ofW (cc := b_D_cardCount) (maxL := 1) (ret := (some .int)) (by decide) rfl ?_
  intro p e s m args below meth c s₁ B hml hv
  obtain ⟨rfl, hsz, hP, hK, hD0, hN⟩ := hv
  have hx := B.exec
  have hb := B.bytes
  have hr := B.returns
  have hts := atoms_spec (ws := (wd y_D_cardCount b_D_cardCount 1 (some .int))) B.pre
  have htb : ∀ w ∈ tb, w.before _ s = true := fun w h => hts w (List.mem_cons_of_mem _ h)
  have hown : s.vm.findClass R_D = some m.cls := findClass_of_methodNamed B.named
  have hlocks := B.notSynchronized
  subst hsz
  have hD := hD0
  have hA : ∀ q : Nat, s.heap.size ≤ q → s.heap.size ≤ q := fun q h => h
  have hS : va_S (fun q => s.heap.size ≤ q) s.heap s.heap [] := va_S.rf
  have hP : va_P (dC, dI) classes (wX ad cs σ) s.heap := hP
  have hl := lv_entry ([.ref (ad 1 0)]) (n := 1) (Nat.le_of_ble_eq_true rfl)
  rw [lg_entry_eq]
  generalize (lg_sl ([.ref (ad 1 0)]) ++ List.replicate (1 - (lg_sl ([.ref (ad 1 0)])).length) Slot.unset).toArray = ls at hl ⊢
  have hl : lv_has ls 1 [(0, .ref (ad 1 0))] := hl
  rw [m_D_cardCount] at hM
  refine lv_aload_n hx hb d_D_cardCount_0 rfl (lv_at hl 0 rfl) ?_
  refine va_get (D := (dC, dI)) (ci := 1) (v := .int ((σ 1).1 0)) (C := R_D) (T := F_D) (N := 5) hx hb htb in_D hown hK hP 1 (g_D) rfl 3 (by decide) (htb _ k_35) (fun _ h9 => h9) rfl d_D_cardCount_1 ?_
  have e9 := Prod.mk.inj (Option.some.inj hM)
  exact W.iret (v := ((σ 1).1 0)) hx hb hr (fun t ht hW => ⟨⟨((σ 1).1 0), (), rfl, e9, trivial⟩, hS.F ht⟩) hS.2.2 d_D_cardCount_4

theorem d_D_forgetAll_0 : decode b_D_forgetAll 0 = .ok (.aload_n 0, 1) := by decide +kernel
theorem d_D_forgetAll_1 : decode b_D_forgetAll 1 = .ok (.iconst 0, 1) := by decide +kernel
theorem d_D_forgetAll_2 : decode b_D_forgetAll 2 = .ok (.putfield 23, 3) := by decide +kernel
theorem d_D_forgetAll_5 : decode b_D_forgetAll 5 = .ok (.aload_n 0, 1) := by decide +kernel
theorem d_D_forgetAll_6 : decode b_D_forgetAll 6 = .ok (.iconst 0, 1) := by decide +kernel
theorem d_D_forgetAll_7 : decode b_D_forgetAll 7 = .ok (.putfield 27, 3) := by decide +kernel
theorem d_D_forgetAll_10 : decode b_D_forgetAll 10 = .ok (.return_, 1) := by decide +kernel
def m_D_forgetAll (N : Nat) (σ : SX) : Option (SX) :=
  some (w1 (w1 σ 1 0 0) 1 1 0)

set_option maxHeartbeats 4000000 in
set_option maxRecDepth 100000 in
theorem c_D_forgetAll (l : Launch) (dC : Nat → ClassId) (dI : Nat → Nat → Nat) (ad : Nat → Nat → Nat) (cs : Nat → ClassId) (sz N : Nat) (σ : SX) {σ0 : SX} (hM : m_D_forgetAll N σ = some σ0) : Met l y_D_forgetAll (wd y_D_forgetAll b_D_forgetAll 1 none) ({ frames := 0, cells := 0, slots := 0, locals := 0 }) (va_Pc [.ref (ad 1 0)] (preX dC dI ad cs sz σ)) (va_Qv (fun (u : SX) => u = σ0) (atX dC dI ad cs (va_A (wX ad cs σ) sz)) (va_A (wX ad cs σ) sz)) 0 0 (va_A (wX ad cs σ) sz) := by
  refine Met.ofW (cc := b_D_forgetAll) (maxL := 1) (ret := none) (by decide) rfl ?_
  intro p e s m args below meth c s₁ B hml hv
  obtain ⟨rfl, hsz, hP, hK, hD0, hN⟩ := hv
  have hx := B.exec
  have hb := B.bytes
  have hr := B.returns
  have hts := atoms_spec (ws := (wd y_D_forgetAll b_D_forgetAll 1 none)) B.pre
  have htb : ∀ w ∈ tb, w.before _ s = true := fun w h => hts w (List.mem_cons_of_mem _ h)
  have hown : s.vm.findClass R_D = some m.cls := findClass_of_methodNamed B.named
  have hlocks := B.notSynchronized
  subst hsz
  have hD := hD0.self (sz := s.heap.size)
  generalize hAe : va_A (wX ad cs σ) s.heap.size = A at hD ⊢
  have hA : ∀ q : Nat, s.heap.size ≤ q → A q := fun q h => by rw [← hAe]; exact Or.inr h
  have hS : va_S A s.heap s.heap [] := va_S.rf
  have hP : va_P (dC, dI) classes (wX ad cs σ) s.heap := hP
  have hl := lv_entry ([.ref (ad 1 0)]) (n := 1) (Nat.le_of_ble_eq_true rfl)
  rw [lg_entry_eq]
  generalize (lg_sl ([.ref (ad 1 0)]) ++ List.replicate (1 - (lg_sl ([.ref (ad 1 0)])).length) Slot.unset).toArray = ls at hl ⊢
  have hl : lv_has ls 1 [(0, .ref (ad 1 0))] := hl
  rw [m_D_forgetAll] at hM
  refine lv_aload_n hx hb d_D_forgetAll_0 rfl (lv_at hl 0 rfl) ?_
  refine lv_iconst (v := 0) hx hb d_D_forgetAll_1 (by decide) ?_
  refine va_put (D := (dC, dI)) (ci := 1) (v := .int 0) (ty := .int) (C := R_D) (T := F_D) (N := 5) hx hb htb in_D ft_D ft_D_ok n_D hown hK hP hD hS 1 (g_D) rfl 3 (by decide) (htb _ k_35) (fun _ h9 => h9) rfl (by decide +kernel) rfl rfl (Nat.le_of_ble_eq_true rfl) d_D_forgetAll_2 (fun H locs hP hD hS => ?_)
  have hP := P_eq (s_D_0) hP
  have hD := D_eq (s_D_0) hD
  refine lv_aload_n hx hb d_D_forgetAll_5 rfl (lv_at hl 0 rfl) ?_
  refine lv_iconst (v := 0) hx hb d_D_forgetAll_6 (by decide) ?_
  refine va_put (D := (dC, dI)) (ci := 1) (v := .int 0) (ty := .int) (C := R_D) (T := F_D) (N := 5) hx hb htb in_D ft_D ft_D_ok n_D hown hK hP hD hS 1 (g_D) rfl 4 (by decide) (htb _ k_36) (fun _ h9 => h9) rfl (by decide +kernel) rfl rfl (Nat.le_of_ble_eq_true rfl) d_D_forgetAll_7 (fun H locs hP hD hS => ?_)
  have hP := P_eq (s_D_1) hP
  have hD := D_eq (s_D_1) hD
  have e9 := Option.some.inj hM
  exact W.vret hx hb hr (fun t ht hW => ⟨⟨(w1 (w1 σ 1 0 0) 1 1 0), rfl, e9, by rw [ht]; exact hP, va_K.moved hW.alike hK, hD⟩, hS.F ht⟩) hS.2.2 d_D_forgetAll_10

theorem d_S_forgetAll_0 : decode b_S_forgetAll 0 = .ok (.aload_n 0, 1) := by decide +kernel
theorem d_S_forgetAll_1 : decode b_S_forgetAll 1 = .ok (.iconst 0, 1) := by decide +kernel
theorem d_S_forgetAll_2 : decode b_S_forgetAll 2 = .ok (.putfield 19, 3) := by decide +kernel
theorem d_S_forgetAll_5 : decode b_S_forgetAll 5 = .ok (.aload_n 0, 1) := by decide +kernel
theorem d_S_forgetAll_6 : decode b_S_forgetAll 6 = .ok (.iconst 0, 1) := by decide +kernel
theorem d_S_forgetAll_7 : decode b_S_forgetAll 7 = .ok (.putfield 23, 3) := by decide +kernel
theorem d_S_forgetAll_10 : decode b_S_forgetAll 10 = .ok (.return_, 1) := by decide +kernel
def m_S_forgetAll (N : Nat) (σ : SX) (j : Nat) : Option (SX) :=
  some (w1 (w1 σ j 1 0) j 2 0)

set_option maxHeartbeats 4000000 in
set_option maxRecDepth 100000 in
theorem c_S_forgetAll (l : Launch) (dC : Nat → ClassId) (dI : Nat → Nat → Nat) (ad : Nat → Nat → Nat) (cs : Nat → ClassId) (sz N : Nat) (σ : SX) (j : Nat) (hj : j = 2 ∨ j = 3) {σ0 : SX} (hM : m_S_forgetAll N σ j = some σ0) : Met l y_S_forgetAll (wd y_S_forgetAll b_S_forgetAll 1 none) ({ frames := 0, cells := 0, slots := 0, locals := 0 }) (va_Pc [.ref (ad j 0)] (preX dC dI ad cs sz σ)) (va_Qv (fun (u : SX) => u = σ0) (atX dC dI ad cs (va_A (wX ad cs σ) sz)) (va_A (wX ad cs σ) sz)) 0 0 (va_A (wX ad cs σ) sz) := by
  refine Met.ofW (cc := b_S_forgetAll) (maxL := 1) (ret := none) (by decide) rfl ?_
  intro p e s m args below meth c s₁ B hml hv
  obtain ⟨rfl, hsz, hP, hK, hD0, hN⟩ := hv
  have hx := B.exec
  have hb := B.bytes
  have hr := B.returns
  have hts := atoms_spec (ws := (wd y_S_forgetAll b_S_forgetAll 1 none)) B.pre
  have htb : ∀ w ∈ tb, w.before _ s = true := fun w h => hts w (List.mem_cons_of_mem _ h)
  have hown : s.vm.findClass R_S = some m.cls := findClass_of_methodNamed B.named
  have hlocks := B.notSynchronized
  subst hsz
  have hD := hD0.self (sz := s.heap.size)
  generalize hAe : va_A (wX ad cs σ) s.heap.size = A at hD ⊢
  have hA : ∀ q : Nat, s.heap.size ≤ q → A q := fun q h => by rw [← hAe]; exact Or.inr h
  have hS : va_S A s.heap s.heap [] := va_S.rf
  have hP : va_P (dC, dI) classes (wX ad cs σ) s.heap := hP
  have hl := lv_entry ([.ref (ad j 0)]) (n := 1) (Nat.le_of_ble_eq_true rfl)
  rw [lg_entry_eq]
  generalize (lg_sl ([.ref (ad j 0)]) ++ List.replicate (1 - (lg_sl ([.ref (ad j 0)])).length) Slot.unset).toArray = ls at hl ⊢
  have hl : lv_has ls 1 [(0, .ref (ad j 0))] := hl
  rw [m_S_forgetAll] at hM
  refine lv_aload_n hx hb d_S_forgetAll_0 rfl (lv_at hl 0 rfl) ?_
  refine lv_iconst (v := 0) hx hb d_S_forgetAll_1 (by decide) ?_
  refine va_put (D := (dC, dI)) (ci := 2) (v := .int 0) (ty := .int) (C := R_S) (T := F_S) (N := 5) hx hb htb in_S ft_S ft_S_ok n_S hown hK hP hD hS (3 * j + 1) (g_S hj) rfl 3 (by decide) (htb _ k_110) (fun _ h9 => h9) rfl (by decide +kernel) rfl rfl (Nat.le_of_ble_eq_true rfl) d_S_forgetAll_2 (fun H locs hP hD hS => ?_)
  have hP := P_eq (s_S_1 hj) hP
  have hD := D_eq (s_S_1 hj) hD
  refine lv_aload_n hx hb d_S_forgetAll_5 rfl (lv_at hl 0 rfl) ?_
  refine lv_iconst (v := 0) hx hb d_S_forgetAll_6 (by decide) ?_
  refine va_put (D := (dC, dI)) (ci := 2) (v := .int 0) (ty := .int) (C := R_S) (T := F_S) (N := 5) hx hb htb in_S ft_S ft_S_ok n_S hown hK hP hD hS (3 * j + 1) (g_S hj) rfl 4 (by decide) (htb _ k_111) (fun _ h9 => h9) rfl (by decide +kernel) rfl rfl (Nat.le_of_ble_eq_true rfl) d_S_forgetAll_7 (fun H locs hP hD hS => ?_)
  have hP := P_eq (s_S_2 hj) hP
  have hD := D_eq (s_S_2 hj) hD
  have e9 := Option.some.inj hM
  exact W.vret hx hb hr (fun t ht hW => ⟨⟨(w1 (w1 σ j 1 0) j 2 0), rfl, e9, by rw [ht]; exact hP, va_K.moved hW.alike hK, hD⟩, hS.F ht⟩) hS.2.2 d_S_forgetAll_10

theorem d_O_clear_0 : decode b_O_clear 0 = .ok (.aload_n 0, 1) := by decide +kernel
theorem d_O_clear_1 : decode b_O_clear 1 = .ok (.getfield 10, 3) := by decide +kernel
theorem d_O_clear_4 : decode b_O_clear 4 = .ok (.invokevirtual 108, 3) := by decide +kernel
theorem d_O_clear_7 : decode b_O_clear 7 = .ok (.istore_n 1, 1) := by decide +kernel
theorem d_O_clear_8 : decode b_O_clear 8 = .ok (.aload_n 0, 1) := by decide +kernel
theorem d_O_clear_9 : decode b_O_clear 9 = .ok (.getfield 10, 3) := by decide +kernel
theorem d_O_clear_12 : decode b_O_clear 12 = .ok (.invokevirtual 112, 3) := by decide +kernel
theorem d_O_clear_15 : decode b_O_clear 15 = .ok (.aload_n 0, 1) := by decide +kernel
theorem d_O_clear_16 : decode b_O_clear 16 = .ok (.getfield 65, 3) := by decide +kernel
theorem d_O_clear_19 : decode b_O_clear 19 = .ok (.invokevirtual 115, 3) := by decide +kernel
theorem d_O_clear_22 : decode b_O_clear 22 = .ok (.iconst 0, 1) := by decide +kernel
theorem d_O_clear_23 : decode b_O_clear 23 = .ok (.istore_n 2, 1) := by decide +kernel
theorem d_O_clear_24 : decode b_O_clear 24 = .ok (.iload_n 2, 1) := by decide +kernel
theorem d_O_clear_25 : decode b_O_clear 25 = .ok (.iconst 4, 1) := by decide +kernel
theorem d_O_clear_26 : decode b_O_clear 26 = .ok (.if_icmp .ge 18, 3) := by decide +kernel
theorem d_O_clear_29 : decode b_O_clear 29 = .ok (.aload_n 0, 1) := by decide +kernel
theorem d_O_clear_30 : decode b_O_clear 30 = .ok (.getfield 39, 3) := by decide +kernel
theorem d_O_clear_33 : decode b_O_clear 33 = .ok (.iload_n 2, 1) := by decide +kernel
theorem d_O_clear_34 : decode b_O_clear 34 = .ok (.aaload, 1) := by decide +kernel
theorem d_O_clear_35 : decode b_O_clear 35 = .ok (.invokevirtual 116, 3) := by decide +kernel
theorem d_O_clear_38 : decode b_O_clear 38 = .ok (.iinc 2 1, 3) := by decide +kernel
theorem d_O_clear_41 : decode b_O_clear 41 = .ok (.goto (-17), 3) := by decide +kernel
theorem d_O_clear_44 : decode b_O_clear 44 = .ok (.aload_n 0, 1) := by decide +kernel
theorem d_O_clear_45 : decode b_O_clear 45 = .ok (.getfield 26, 3) := by decide +kernel
theorem d_O_clear_48 : decode b_O_clear 48 = .ok (.invokevirtual 117, 3) := by decide +kernel
theorem d_O_clear_51 : decode b_O_clear 51 = .ok (.aload_n 0, 1) := by decide +kernel
theorem d_O_clear_52 : decode b_O_clear 52 = .ok (.iconst 0, 1) := by decide +kernel
theorem d_O_clear_53 : decode b_O_clear 53 = .ok (.putfield 53, 3) := by decide +kernel
theorem d_O_clear_56 : decode b_O_clear 56 = .ok (.aload_n 0, 1) := by decide +kernel
theorem d_O_clear_57 : decode b_O_clear 57 = .ok (.iconst 0, 1) := by decide +kernel
theorem d_O_clear_58 : decode b_O_clear 58 = .ok (.putfield 57, 3) := by decide +kernel
theorem d_O_clear_61 : decode b_O_clear 61 = .ok (.iload_n 1, 1) := by decide +kernel
theorem d_O_clear_62 : decode b_O_clear 62 = .ok (.ireturn, 1) := by decide +kernel
def m_O_clear_24 (N : Nat) : Nat → SX → Int32 → Int32 → Option (Int32 × SX)
  | 0, _, _, _ => none
  | n24 + 1, σ, v1, v2 =>
    (if 4 ≤ v2 then (bV (m_V_forgetAll N σ) fun σ48 => some (v1, (w1 (w1 σ48 0 0 0) 0 1 0))) else (if inb v2 4 = true then (bV (m_T_forgetAll N σ v2.toNatClampNeg) fun σ35 => m_O_clear_24 N n24 σ35 v1 (v2 + 1)) else none))

def m_O_clear (N : Nat) (σ : SX) : Option (Int32 × SX) :=
  (bI (m_D_cardCount N σ) fun r4 σ4 => (bV (m_D_forgetAll N σ) fun σ12 => (bV (m_S_forgetAll N σ12 2) fun σ19 => m_O_clear_24 N N σ19 r4 0)))

set_option maxHeartbeats 4000000 in
set_option maxRecDepth 100000 in
theorem c_O_clear (l : Launch) (dC : Nat → ClassId) (dI : Nat → Nat → Nat) (ad : Nat → Nat → Nat) (cs : Nat → ClassId) (sz N : Nat) (σ : SX) {r0 : Int32} {σ0 : SX} (hM : m_O_clear N σ = some (r0, σ0)) : Met l y_O_clear (wd y_O_clear b_O_clear 3 (some .int)) ({ frames := 1, cells := 0, slots := 0, locals := 20 }) (va_Pc [.ref (ad 0 0)] (preX dC dI ad cs sz σ)) (va_Qi (fun (r : Int32) (u : SX) => r = r0 ∧ u = σ0) (atX dC dI ad cs (va_A (wX ad cs σ) sz)) (va_A (wX ad cs σ) sz)) 0 0 (va_A (wX ad cs σ) sz) := by
  refine Met.ofW (cc := b_O_clear) (maxL := 3) (ret := (some .int)) (by decide) rfl ?_
  intro p e s m args below meth c s₁ B hml hv
  obtain ⟨rfl, hsz, hP, hK, hD0, hN⟩ := hv
  have hx := B.exec
  have hb := B.bytes
  have hr := B.returns
  have hts := atoms_spec (ws := (wd y_O_clear b_O_clear 3 (some .int))) B.pre
  have htb : ∀ w ∈ tb, w.before _ s = true := fun w h => hts w (List.mem_cons_of_mem _ h)
  have hown : s.vm.findClass R_O = some m.cls := findClass_of_methodNamed B.named
  have hlocks := B.notSynchronized
  subst hsz
  have hD := hD0.self (sz := s.heap.size)
  generalize hAe : va_A (wX ad cs σ) s.heap.size = A at hD ⊢
  have hA : ∀ q : Nat, s.heap.size ≤ q → A q := fun q h => by rw [← hAe]; exact Or.inr h
  have hS : va_S A s.heap s.heap [] := va_S.rf
  have hP : va_P (dC, dI) classes (wX ad cs σ) s.heap := hP
  have hl := lv_entry ([.ref (ad 0 0)]) (n := 3) (Nat.le_of_ble_eq_true rfl)
  rw [lg_entry_eq]
  generalize (lg_sl ([.ref (ad 0 0)]) ++ List.replicate (3 - (lg_sl ([.ref (ad 0 0)])).length) Slot.unset).toArray = ls at hl ⊢
  have hl : lv_has ls 3 [(0, .ref (ad 0 0))] := hl
  rw [m_O_clear] at hM
  refine W_loop (pc := 24) (fun n24 H locs ls st => ∃ (σ : SX) (v1 : Int32) (v2 : Int32), st = [] ∧ m_O_clear_24 N n24 σ v1 v2 = some (r0, σ0) ∧ lv_has ls 3 [(0, .ref (ad 0 0)), (1, .int v1), (2, .int v2)] ∧ va_P (dC, dI) classes (wX ad cs σ) H ∧ va_D A (wX ad cs σ) ∧ va_S A s.heap H locs) ?_ ?_ ?_
  · rintro H locs ls st ⟨σ, v1, v2, -, hM, -⟩
    rw [m_O_clear_24] at hM; cases hM
  · intro n24 K24 H locs ls st hI
    obtain ⟨σ, v1, v2, rfl, hM, hl, hP, hD, hS⟩ := hI
    rw [m_O_clear_24] at hM
    refine lv_iload_n hx hb d_O_clear_24 rfl (lv_at hl 2 rfl) ?_
    refine lv_iconst (v := 4) hx hb d_O_clear_25 (by decide) ?_
    refine lv_icmp_ge (tgt := 44) hx hb d_O_clear_26 (by decide) (fun h26 => ?_) (fun h26 => ?_)
    · rw [if_pos h26] at hM
      refine lv_aload_n hx hb d_O_clear_44 rfl (lv_at hl 0 rfl) ?_
      refine va_get (D := (dC, dI)) (ci := 0) (v := .ref (ad 5 0)) (C := R_O) (T := F_O) (N := 12) hx hb htb in_O hown hK hP 0 (g_O) rfl 4 (by decide) (htb _ k_152) (fun _ h9 => h9) rfl d_O_clear_45 ?_
      have hF1 := free_all hD hS hA
      obtain ⟨y48, hq48, hM⟩ := bV_some hM
      refine va_callv (va_runV (As := []) (rest := []) ⟨hx, hb, hml, hown, hts⟩ (c_V_forgetAll l dC dI ad cs _ N σ hq48) (cwV 0 hts (goodV k_205 k_206 k_207 k_4 k_208) rfl rfl rfl ⟨rfl, by decide, by decide, by decide +kernel⟩ ⟨Nat.le_of_ble_eq_true rfl, Nat.le_of_ble_eq_true rfl⟩) ⟨blindX, va_recv hK hP rfl (g_V), payX hP hK hD hN⟩ rfl rfl hl.1 rfl (lv_room (Nat.le_of_ble_eq_true rfl)) d_O_clear_48 ⟨Nat.zero_le _, Nat.zero_le _⟩) hS (fun q _ h => hF1 q h) hF1 (fun σ48 t H locs ht hvm hpost hB hz1 hk1 hS => ?_)
      subst hpost
      obtain ⟨hP1, hK1, hD1⟩ := hB
      rw [ht] at hP1
      have hP := hP1
      have hD := hD1.weaken (fun _ _ _ h => hF1 _ h)
      refine lv_aload_n hx hb d_O_clear_51 rfl (lv_at hl 0 rfl) ?_
      refine lv_iconst (v := 0) hx hb d_O_clear_52 (by decide) ?_
      refine va_put (D := (dC, dI)) (ci := 0) (v := .int 0) (ty := .int) (C := R_O) (T := F_O) (N := 12) hx hb htb in_O ft_O ft_O_ok n_O hown hK hP hD hS 0 (g_O) rfl 10 (by decide) (htb _ k_158) (fun _ h9 => h9) rfl (by decide +kernel) rfl rfl (Nat.le_of_ble_eq_true rfl) d_O_clear_53 (fun H locs hP hD hS => ?_)
      have hP := P_eq (s_O_0) hP
      have hD := D_eq (s_O_0) hD
      refine lv_aload_n hx hb d_O_clear_56 rfl (lv_at hl 0 rfl) ?_
      refine lv_iconst (v := 0) hx hb d_O_clear_57 (by decide) ?_
      refine va_put (D := (dC, dI)) (ci := 0) (v := .int 0) (ty := .int) (C := R_O) (T := F_O) (N := 12) hx hb htb in_O ft_O ft_O_ok n_O hown hK hP hD hS 0 (g_O) rfl 11 (by decide) (htb _ k_159) (fun _ h9 => h9) rfl (by decide +kernel) rfl rfl (Nat.le_of_ble_eq_true rfl) d_O_clear_58 (fun H locs hP hD hS => ?_)
      have hP := P_eq (s_O_1) hP
      have hD := D_eq (s_O_1) hD
      refine lv_iload_n hx hb d_O_clear_61 rfl (lv_at hl 1 rfl) ?_
      have e9 := Prod.mk.inj (Option.some.inj hM)
      exact W.iret (v := v1) hx hb hr (fun t ht hW => ⟨⟨v1, (w1 (w1 σ48 0 0 0) 0 1 0), rfl, e9, by rw [ht]; exact hP, va_K.moved hW.alike hK, hD⟩, hS.F ht⟩) hS.2.2 d_O_clear_62
    · rw [if_neg h26] at hM
      refine lv_aload_n hx hb d_O_clear_29 rfl (lv_at hl 0 rfl) ?_
      refine va_get (D := (dC, dI)) (ci := 0) (v := .ref (ad 0 9)) (C := R_O) (T := F_O) (N := 12) hx hb htb in_O hown hK hP 0 (g_O) rfl 6 (by decide) (htb _ k_154) (fun _ h9 => h9) rfl d_O_clear_30 ?_
      refine lv_iload_n hx hb d_O_clear_33 rfl (lv_at hl 2 rfl) ?_
      have hg34 := gd_c hM
      have hM := gd_v hM
      refine va_aldq hx hb hK hP 18 2 (f := fun i => some (ad (7 + i) 0)) g_tapes rfl (inb_in hg34) d_O_clear_34 ?_
      refine W.eq (g2 := F0 m 35 ls [.ref (ad (7 + v2.toNatClampNeg) 0)]) rfl ?_
      have hF1 := free_all hD hS hA
      obtain ⟨y35, hq35, hM⟩ := bV_some hM
      refine va_callv (va_runV (As := []) (rest := []) ⟨hx, hb, hml, hown, hts⟩ (c_T_forgetAll l dC dI ad cs _ N σ v2.toNatClampNeg (inb_lt hg34) hq35) (cwV 0 hts (goodV k_201 k_202 k_203 k_7 k_204) rfl rfl rfl ⟨rfl, by decide, by decide, by decide +kernel⟩ ⟨Nat.le_of_ble_eq_true rfl, Nat.le_of_ble_eq_true rfl⟩) ⟨blindX, va_recv hK hP rfl (g_T (inb_lt hg34)), payX hP hK hD hN⟩ rfl rfl hl.1 rfl (lv_room (Nat.le_of_ble_eq_true rfl)) d_O_clear_35 ⟨Nat.zero_le _, Nat.zero_le _⟩) hS (fun q _ h => hF1 q h) hF1 (fun σ35 t H locs ht hvm hpost hB hz1 hk1 hS => ?_)
      subst hpost
      obtain ⟨hP1, hK1, hD1⟩ := hB
      rw [ht] at hP1
      have hP := hP1
      have hD := hD1.weaken (fun _ _ _ h => hF1 _ h)
      refine lv_iinc (k := 2) (v := (v2 + 1)) hx hb d_O_clear_38 hl rfl rfl (by decide) (lv' := [(2, .int (v2 + 1)), (0, .ref (ad 0 0)), (1, .int v1)]) rfl (fun ls hl => ?_)
      refine lv_goto (tgt := 24) hx hb d_O_clear_41 (by decide) ?_
      exact K24 _ _ _ _ ⟨σ35, v1, (v2 + 1), rfl, hM, lv_sub hl [1, 2, 0] rfl, hP, hD, hS⟩
  intro K24
  refine lv_aload_n hx hb d_O_clear_0 rfl (lv_at hl 0 rfl) ?_
  refine va_get (D := (dC, dI)) (ci := 0) (v := .ref (ad 1 0)) (C := R_O) (T := F_O) (N := 12) hx hb htb in_O hown hK hP 0 (g_O) rfl 0 (by decide) (htb _ k_148) (fun _ h9 => h9) rfl d_O_clear_1 ?_
  obtain ⟨x4, y4, hq4, hM⟩ := bI_some hM
  refine va_calli (va_runV (As := []) (rest := []) ⟨hx, hb, hml, hown, hts⟩ (c_D_cardCount l dC dI ad cs _ N σ hq4) (cwV 0 hts (goodV k_189 k_190 k_191 k_2 k_192) rfl rfl rfl ⟨rfl, by decide, by decide, by decide +kernel⟩ ⟨Nat.le_of_ble_eq_true rfl, Nat.le_of_ble_eq_true rfl⟩) ⟨blindX, va_recv hK hP rfl (g_D), payX hP hK hD hN⟩ rfl rfl hl.1 rfl (lv_room (Nat.le_of_ble_eq_true rfl)) d_O_clear_4 ⟨Nat.zero_le _, Nat.zero_le _⟩) hS (fun q h0 h => absurd h0 (Nat.not_lt.mpr h)) (fun q h => hA q (Nat.le_trans hS.1 h)) (fun r4 u t H locs ht hvm hpost hB hz1 hk1 hS => ?_)
  obtain ⟨e1, e2⟩ := hpost
  subst e1
  subst e2
  have hP := keepP hP hk1
  refine lv_istore_n hx hb d_O_clear_7 rfl hl (by decide) (lv' := [(1, .int r4), (0, .ref (ad 0 0))]) rfl (fun ls hl => ?_)
  refine lv_aload_n hx hb d_O_clear_8 rfl (lv_at hl 1 rfl) ?_
  refine va_get (D := (dC, dI)) (ci := 0) (v := .ref (ad 1 0)) (C := R_O) (T := F_O) (N := 12) hx hb htb in_O hown hK hP 0 (g_O) rfl 0 (by decide) (htb _ k_148) (fun _ h9 => h9) rfl d_O_clear_9 ?_
  have hF1 := free_all hD hS hA
  obtain ⟨y12, hq12, hM⟩ := bV_some hM
  refine va_callv (va_runV (As := []) (rest := []) ⟨hx, hb, hml, hown, hts⟩ (c_D_forgetAll l dC dI ad cs _ N σ hq12) (cwV 0 hts (goodV k_193 k_194 k_195 k_2 k_196) rfl rfl rfl ⟨rfl, by decide, by decide, by decide +kernel⟩ ⟨Nat.le_of_ble_eq_true rfl, Nat.le_of_ble_eq_true rfl⟩) ⟨blindX, va_recv hK hP rfl (g_D), payX hP hK hD hN⟩ rfl rfl hl.1 rfl (lv_room (Nat.le_of_ble_eq_true rfl)) d_O_clear_12 ⟨Nat.zero_le _, Nat.zero_le _⟩) hS (fun q _ h => hF1 q h) hF1 (fun σ12 t H locs ht hvm hpost hB hz1 hk1 hS => ?_)
  subst hpost
  obtain ⟨hP1, hK1, hD1⟩ := hB
  rw [ht] at hP1
  have hP := hP1
  have hD := hD1.weaken (fun _ _ _ h => hF1 _ h)
  refine lv_aload_n hx hb d_O_clear_15 rfl (lv_at hl 1 rfl) ?_
  refine va_get (D := (dC, dI)) (ci := 0) (v := .ref (ad 2 0)) (C := R_O) (T := F_O) (N := 12) hx hb htb in_O hown hK hP 0 (g_O) rfl 1 (by decide) (htb _ k_149) (fun _ h9 => h9) rfl d_O_clear_16 ?_
  have hF1 := free_all hD hS hA
  obtain ⟨y19, hq19, hM⟩ := bV_some hM
  refine va_callv (va_runV (As := []) (rest := []) ⟨hx, hb, hml, hown, hts⟩ (c_S_forgetAll l dC dI ad cs _ N σ12 2 (Or.inl rfl) hq19) (cwV 0 hts (goodV k_197 k_198 k_199 k_6 k_200) rfl rfl rfl ⟨rfl, by decide, by decide, by decide +kernel⟩ ⟨Nat.le_of_ble_eq_true rfl, Nat.le_of_ble_eq_true rfl⟩) ⟨blindX, va_recv hK hP rfl (g_S (Or.inl rfl)), payX hP hK hD hN⟩ rfl rfl hl.1 rfl (lv_room (Nat.le_of_ble_eq_true rfl)) d_O_clear_19 ⟨Nat.zero_le _, Nat.zero_le _⟩) hS (fun q _ h => hF1 q h) hF1 (fun σ19 t H locs ht hvm hpost hB hz1 hk1 hS => ?_)
  subst hpost
  obtain ⟨hP1, hK1, hD1⟩ := hB
  rw [ht] at hP1
  have hP := hP1
  have hD := hD1.weaken (fun _ _ _ h => hF1 _ h)
  refine lv_iconst (v := 0) hx hb d_O_clear_22 (by decide) ?_
  refine lv_istore_n hx hb d_O_clear_23 rfl hl (by decide) (lv' := [(2, .int 0), (1, .int r4), (0, .ref (ad 0 0))]) rfl (fun ls hl => ?_)
  exact K24 N _ _ _ _ ⟨σ19, r4, 0, rfl, hM, lv_sub hl [2, 1, 0] rfl, hP, hD, hS⟩

theorem d_V_hasPower_0 : decode b_V_hasPower 0 = .ok (.aload_n 0, 1) := by decide +kernel
theorem d_V_hasPower_1 : decode b_V_hasPower 1 = .ok (.getfield 13, 3) := by decide +kernel
theorem d_V_hasPower_4 : decode b_V_hasPower 4 = .ok (.ireturn, 1) := by decide +kernel
def m_V_hasPower (N : Nat) (σ : SX) : Option (Int32 × SX) :=
  (if isB ((σ 5).1 1) = true then some (((σ 5).1 1), σ) else none)

set_option maxHeartbeats 4000000 in
set_option maxRecDepth 100000 in
theorem c_V_hasPower (l : Launch) (dC : Nat → ClassId) (dI : Nat → Nat → Nat) (ad : Nat → Nat → Nat) (cs : Nat → ClassId) (sz N : Nat) (σ : SX) {r0 : Int32} {σ0 : SX} (hM : m_V_hasPower N σ = some (r0, σ0)) : Met l y_V_hasPower (wd y_V_hasPower b_V_hasPower 1 (some .boolean)) ({ frames := 0, cells := 0, slots := 0, locals := 0 }) (va_Pc [.ref (ad 5 0)] (preX dC dI ad cs sz σ)) (va_Qi (fun (r : Int32) (_ : Unit) => r = r0 ∧ σ = σ0) (fun _ _ => True) (fun q => sz ≤ q)) 0 0 (fun q => sz ≤ q) := by
  refine Met.ofW (cc := b_V_hasPower) (maxL := 1) (ret := (some .boolean)) (by decide) rfl ?_
  intro p e s m args below meth c s₁ B hml hv
  obtain ⟨rfl, hsz, hP, hK, hD0, hN⟩ := hv
  have hx := B.exec
  have hb := B.bytes
  have hr := B.returns
  have hts := atoms_spec (ws := (wd y_V_hasPower b_V_hasPower 1 (some .boolean))) B.pre
  have htb : ∀ w ∈ tb, w.before _ s = true := fun w h => hts w (List.mem_cons_of_mem _ h)
  have hown : s.vm.findClass R_V = some m.cls := findClass_of_methodNamed B.named
  have hlocks := B.notSynchronized
  subst hsz
  have hD := hD0
  have hA : ∀ q : Nat, s.heap.size ≤ q → s.heap.size ≤ q := fun q h => h
  have hS : va_S (fun q => s.heap.size ≤ q) s.heap s.heap [] := va_S.rf
  have hP : va_P (dC, dI) classes (wX ad cs σ) s.heap := hP
  have hl := lv_entry ([.ref (ad 5 0)]) (n := 1) (Nat.le_of_ble_eq_true rfl)
  rw [lg_entry_eq]
  generalize (lg_sl ([.ref (ad 5 0)]) ++ List.replicate (1 - (lg_sl ([.ref (ad 5 0)])).length) Slot.unset).toArray = ls at hl ⊢
  have hl : lv_has ls 1 [(0, .ref (ad 5 0))] := hl
  rw [m_V_hasPower] at hM
  refine lv_aload_n hx hb d_V_hasPower_0 rfl (lv_at hl 0 rfl) ?_
  refine va_get (D := (dC, dI)) (ci := 4) (v := .int ((σ 5).1 1)) (C := R_V) (T := F_V) (N := 4) hx hb htb in_V hown hK hP 15 (g_V) rfl 1 (by decide) (htb _ k_72) (fun _ h9 => h9) rfl d_V_hasPower_1 ?_
  have hz4 := gd_c hM
  have hM := gd_v hM
  have e9 := Prod.mk.inj (Option.some.inj hM)
  exact W.zret (ty := .boolean) (v := ((σ 5).1 1)) hx hb hr (isB_n hz4) (fun t ht hW => ⟨⟨((σ 5).1 1), (), rfl, e9, trivial⟩, hS.F ht⟩) hS.2.2 d_V_hasPower_4

theorem d_V_planCut_0 : decode b_V_planCut 0 = .ok (.aload_n 0, 1) := by decide +kernel
theorem d_V_planCut_1 : decode b_V_planCut 1 = .ok (.iconst 1, 1) := by decide +kernel
theorem d_V_planCut_2 : decode b_V_planCut 2 = .ok (.putfield 17, 3) := by decide +kernel
theorem d_V_planCut_5 : decode b_V_planCut 5 = .ok (.aload_n 0, 1) := by decide +kernel
theorem d_V_planCut_6 : decode b_V_planCut 6 = .ok (.iload_n 1, 1) := by decide +kernel
theorem d_V_planCut_7 : decode b_V_planCut 7 = .ok (.putfield 20, 3) := by decide +kernel
theorem d_V_planCut_10 : decode b_V_planCut 10 = .ok (.return_, 1) := by decide +kernel
def m_V_planCut (N : Nat) (σ : SX) (a1 : Int32) : Option (SX) :=
  some (w1 (w1 σ 5 2 1) 5 3 a1)

set_option maxHeartbeats 4000000 in
set_option maxRecDepth 100000 in
theorem c_V_planCut (l : Launch) (dC : Nat → ClassId) (dI : Nat → Nat → Nat) (ad : Nat → Nat → Nat) (cs : Nat → ClassId) (sz N : Nat) (σ : SX) (a1 : Int32) {σ0 : SX} (hM : m_V_planCut N σ a1 = some σ0) : Met l y_V_planCut (wd y_V_planCut b_V_planCut 2 none) ({ frames := 0, cells := 0, slots := 0, locals := 0 }) (va_Pc [.ref (ad 5 0), .int a1] (preX dC dI ad cs sz σ)) (va_Qv (fun (u : SX) => u = σ0) (atX dC dI ad cs (va_A (wX ad cs σ) sz)) (va_A (wX ad cs σ) sz)) 0 0 (va_A (wX ad cs σ) sz) := by
  refine Met.ofW (cc := b_V_planCut) (maxL := 2) (ret := none) (by decide) rfl ?_
  intro p e s m args below meth c s₁ B hml hv
  obtain ⟨rfl, hsz, hP, hK, hD0, hN⟩ := hv
  have hx := B.exec
  have hb := B.bytes
  have hr := B.returns
  have hts := atoms_spec (ws := (wd y_V_planCut b_V_planCut 2 none)) B.pre
  have htb : ∀ w ∈ tb, w.before _ s = true := fun w h => hts w (List.mem_cons_of_mem _ h)
  have hown : s.vm.findClass R_V = some m.cls := findClass_of_methodNamed B.named
  have hlocks := B.notSynchronized
  subst hsz
  have hD := hD0.self (sz := s.heap.size)
  generalize hAe : va_A (wX ad cs σ) s.heap.size = A at hD ⊢
  have hA : ∀ q : Nat, s.heap.size ≤ q → A q := fun q h => by rw [← hAe]; exact Or.inr h
  have hS : va_S A s.heap s.heap [] := va_S.rf
  have hP : va_P (dC, dI) classes (wX ad cs σ) s.heap := hP
  have hl := lv_entry ([.ref (ad 5 0), .int a1]) (n := 2) (Nat.le_of_ble_eq_true rfl)
  rw [lg_entry_eq]
  generalize (lg_sl ([.ref (ad 5 0), .int a1]) ++ List.replicate (2 - (lg_sl ([.ref (ad 5 0), .int a1])).length) Slot.unset).toArray = ls at hl ⊢
  have hl : lv_has ls 2 [(0, .ref (ad 5 0)), (1, .int a1)] := hl
  rw [m_V_planCut] at hM
  refine lv_aload_n hx hb d_V_planCut_0 rfl (lv_at hl 0 rfl) ?_
  refine lv_iconst (v := 1) hx hb d_V_planCut_1 (by decide) ?_
  refine va_put (D := (dC, dI)) (ci := 4) (v := .int 1) (ty := .boolean) (C := R_V) (T := F_V) (N := 4) hx hb htb in_V ft_V ft_V_ok n_V hown hK hP hD hS 15 (g_V) rfl 2 (by decide) (htb _ k_73) (fun _ h9 => h9) rfl (by decide +kernel) rfl rfl (Nat.le_of_ble_eq_true rfl) d_V_planCut_2 (fun H locs hP hD hS => ?_)
  have hP := P_eq (s_V_2) hP
  have hD := D_eq (s_V_2) hD
  refine lv_aload_n hx hb d_V_planCut_5 rfl (lv_at hl 0 rfl) ?_
  refine lv_iload_n hx hb d_V_planCut_6 rfl (lv_at hl 1 rfl) ?_
  refine va_put (D := (dC, dI)) (ci := 4) (v := .int a1) (ty := .int) (C := R_V) (T := F_V) (N := 4) hx hb htb in_V ft_V ft_V_ok n_V hown hK hP hD hS 15 (g_V) rfl 3 (by decide) (htb _ k_74) (fun _ h9 => h9) rfl (by decide +kernel) rfl rfl (Nat.le_of_ble_eq_true rfl) d_V_planCut_7 (fun H locs hP hD hS => ?_)
  have hP := P_eq (s_V_3) hP
  have hD := D_eq (s_V_3) hD
  have e9 := Option.some.inj hM
  exact W.vret hx hb hr (fun t ht hW => ⟨⟨(w1 (w1 σ 5 2 1) 5 3 a1), rfl, e9, by rw [ht]; exact hP, va_K.moved hW.alike hK, hD⟩, hS.F ht⟩) hS.2.2 d_V_planCut_10

theorem d_O_cutAfter_0 : decode b_O_cutAfter 0 = .ok (.iload_n 1, 1) := by decide +kernel
theorem d_O_cutAfter_1 : decode b_O_cutAfter 1 = .ok (.ifCond .lt 20, 3) := by decide +kernel
theorem d_O_cutAfter_4 : decode b_O_cutAfter 4 = .ok (.iload_n 1, 1) := by decide +kernel
theorem d_O_cutAfter_5 : decode b_O_cutAfter 5 = .ok (.sipush 1000, 3) := by decide +kernel
theorem d_O_cutAfter_8 : decode b_O_cutAfter 8 = .ok (.if_icmp .gt 13, 3) := by decide +kernel
theorem d_O_cutAfter_11 : decode b_O_cutAfter 11 = .ok (.aload_n 0, 1) := by decide +kernel
theorem d_O_cutAfter_12 : decode b_O_cutAfter 12 = .ok (.getfield 26, 3) := by decide +kernel
theorem d_O_cutAfter_15 : decode b_O_cutAfter 15 = .ok (.invokevirtual 118, 3) := by decide +kernel
theorem d_O_cutAfter_18 : decode b_O_cutAfter 18 = .ok (.ifCond .ne 5, 3) := by decide +kernel
theorem d_O_cutAfter_21 : decode b_O_cutAfter 21 = .ok (.iconst 0, 1) := by decide +kernel
theorem d_O_cutAfter_22 : decode b_O_cutAfter 22 = .ok (.ireturn, 1) := by decide +kernel
theorem d_O_cutAfter_23 : decode b_O_cutAfter 23 = .ok (.aload_n 0, 1) := by decide +kernel
theorem d_O_cutAfter_24 : decode b_O_cutAfter 24 = .ok (.getfield 26, 3) := by decide +kernel
theorem d_O_cutAfter_27 : decode b_O_cutAfter 27 = .ok (.iload_n 1, 1) := by decide +kernel
theorem d_O_cutAfter_28 : decode b_O_cutAfter 28 = .ok (.invokevirtual 134, 3) := by decide +kernel
theorem d_O_cutAfter_31 : decode b_O_cutAfter 31 = .ok (.iconst 1, 1) := by decide +kernel
theorem d_O_cutAfter_32 : decode b_O_cutAfter 32 = .ok (.ireturn, 1) := by decide +kernel
def m_O_cutAfter (N : Nat) (σ : SX) (a1 : Int32) : Option (Int32 × SX) :=
  (if a1 < 0 then some (0, σ) else (if 1000 < a1 then some (0, σ) else (bI (m_V_hasPower N σ) fun r15 σ15 => (if r15 = 0 then some (0, σ) else (bV (m_V_planCut N σ a1) fun σ28 => some (1, σ28))))))

set_option maxHeartbeats 4000000 in
set_option maxRecDepth 100000 in
theorem c_O_cutAfter (l : Launch) (dC : Nat → ClassId) (dI : Nat → Nat → Nat) (ad : Nat → Nat → Nat) (cs : Nat → ClassId) (sz N : Nat) (σ : SX) (a1 : Int32) {r0 : Int32} {σ0 : SX} (hM : m_O_cutAfter N σ a1 = some (r0, σ0)) : Met l y_O_cutAfter (wd y_O_cutAfter b_O_cutAfter 2 (some .boolean)) ({ frames := 1, cells := 0, slots := 0, locals := 21 }) (va_Pc [.ref (ad 0 0), .int a1] (preX dC dI ad cs sz σ)) (va_Qi (fun (r : Int32) (u : SX) => r = r0 ∧ u = σ0) (atX dC dI ad cs (va_A (wX ad cs σ) sz)) (va_A (wX ad cs σ) sz)) 0 0 (va_A (wX ad cs σ) sz) := by
  refine Met.ofW (cc := b_O_cutAfter) (maxL := 2) (ret := (some .boolean)) (by decide) rfl ?_
  intro p e s m args below meth c s₁ B hml hv
  obtain ⟨rfl, hsz, hP, hK, hD0, hN⟩ := hv
  have hx := B.exec
  have hb := B.bytes
  have hr := B.returns
  have hts := atoms_spec (ws := (wd y_O_cutAfter b_O_cutAfter 2 (some .boolean))) B.pre
  have htb : ∀ w ∈ tb, w.before _ s = true := fun w h => hts w (List.mem_cons_of_mem _ h)
  have hown : s.vm.findClass R_O = some m.cls := findClass_of_methodNamed B.named
  have hlocks := B.notSynchronized
  subst hsz
  have hD := hD0.self (sz := s.heap.size)
  generalize hAe : va_A (wX ad cs σ) s.heap.size = A at hD ⊢
  have hA : ∀ q : Nat, s.heap.size ≤ q → A q := fun q h => by rw [← hAe]; exact Or.inr h
  have hS : va_S A s.heap s.heap [] := va_S.rf
  have hP : va_P (dC, dI) classes (wX ad cs σ) s.heap := hP
  have hl := lv_entry ([.ref (ad 0 0), .int a1]) (n := 2) (Nat.le_of_ble_eq_true rfl)
  rw [lg_entry_eq]
  generalize (lg_sl ([.ref (ad 0 0), .int a1]) ++ List.replicate (2 - (lg_sl ([.ref (ad 0 0), .int a1])).length) Slot.unset).toArray = ls at hl ⊢
  have hl : lv_has ls 2 [(0, .ref (ad 0 0)), (1, .int a1)] := hl
  rw [m_O_cutAfter] at hM
  refine lv_iload_n hx hb d_O_cutAfter_0 rfl (lv_at hl 1 rfl) ?_
  refine lv_if_lt (tgt := 21) hx hb d_O_cutAfter_1 (by decide) (fun h1 => ?_) (fun h1 => ?_)
  · rw [if_pos h1] at hM
    refine lv_iconst (v := 0) hx hb d_O_cutAfter_21 (by decide) ?_
    have e9 := Prod.mk.inj (Option.some.inj hM)
    exact W.zret (ty := .boolean) (v := 0) hx hb hr rfl (fun t ht hW => ⟨⟨0, σ, rfl, e9, by rw [ht]; exact hP, va_K.moved hW.alike hK, hD⟩, hS.F ht⟩) hS.2.2 d_O_cutAfter_22
  · rw [if_neg h1] at hM
    refine lv_iload_n hx hb d_O_cutAfter_4 rfl (lv_at hl 1 rfl) ?_
    refine lv_sipush (v := 1000) hx hb d_O_cutAfter_5 (by decide) ?_
    refine lv_icmp_gt (tgt := 21) hx hb d_O_cutAfter_8 (by decide) (fun h8 => ?_) (fun h8 => ?_)
    · rw [if_pos h8] at hM
      refine lv_iconst (v := 0) hx hb d_O_cutAfter_21 (by decide) ?_
      have e9 := Prod.mk.inj (Option.some.inj hM)
      exact W.zret (ty := .boolean) (v := 0) hx hb hr rfl (fun t ht hW => ⟨⟨0, σ, rfl, e9, by rw [ht]; exact hP, va_K.moved hW.alike hK, hD⟩, hS.F ht⟩) hS.2.2 d_O_cutAfter_22
    · rw [if_neg h8] at hM
      refine lv_aload_n hx hb d_O_cutAfter_11 rfl (lv_at hl 0 rfl) ?_
      refine va_get (D := (dC, dI)) (ci := 0) (v := .ref (ad 5 0)) (C := R_O) (T := F_O) (N := 12) hx hb htb in_O hown hK hP 0 (g_O) rfl 4 (by decide) (htb _ k_152) (fun _ h9 => h9) rfl d_O_cutAfter_12 ?_
      obtain ⟨x15, y15, hq15, hM⟩ := bI_some hM
      refine va_calli (va_runV (As := []) (rest := []) ⟨hx, hb, hml, hown, hts⟩ (c_V_hasPower l dC dI ad cs _ N σ hq15) (cwV 0 hts (goodV k_213 k_214 k_215 k_4 k_216) rfl rfl rfl ⟨rfl, by decide, by decide, by decide +kernel⟩ ⟨Nat.le_of_ble_eq_true rfl, Nat.le_of_ble_eq_true rfl⟩) ⟨blindX, va_recv hK hP rfl (g_V), payX hP hK hD hN⟩ rfl rfl hl.1 rfl (lv_room (Nat.le_of_ble_eq_true rfl)) d_O_cutAfter_15 ⟨Nat.zero_le _, Nat.zero_le _⟩) hS (fun q h0 h => absurd h0 (Nat.not_lt.mpr h)) (fun q h => hA q (Nat.le_trans hS.1 h)) (fun r15 u t H locs ht hvm hpost hB hz1 hk1 hS => ?_)
      obtain ⟨e1, e2⟩ := hpost
      subst e1
      subst e2
      have hP := keepP hP hk1
      refine lv_if_ne (tgt := 23) hx hb d_O_cutAfter_18 (by decide) (fun h18 => ?_) (fun h18 => ?_)
      · rw [if_neg h18] at hM
        refine lv_aload_n hx hb d_O_cutAfter_23 rfl (lv_at hl 0 rfl) ?_
        refine va_get (D := (dC, dI)) (ci := 0) (v := .ref (ad 5 0)) (C := R_O) (T := F_O) (N := 12) hx hb htb in_O hown hK hP 0 (g_O) rfl 4 (by decide) (htb _ k_152) (fun _ h9 => h9) rfl d_O_cutAfter_24 ?_
        refine lv_iload_n hx hb d_O_cutAfter_27 rfl (lv_at hl 1 rfl) ?_
        have hF1 := free_all hD hS hA
        obtain ⟨y28, hq28, hM⟩ := bV_some hM
        refine va_callv (va_runV (As := [.int a1]) (rest := []) ⟨hx, hb, hml, hown, hts⟩ (c_V_planCut l dC dI ad cs _ N σ a1 hq28) (cwV 1 hts (goodV k_217 k_218 k_219 k_4 k_220) rfl rfl rfl ⟨rfl, by decide, by decide, by decide +kernel⟩ ⟨Nat.le_of_ble_eq_true rfl, Nat.le_of_ble_eq_true rfl⟩) ⟨blindX, va_recv hK hP rfl (g_V), payX hP hK hD hN⟩ rfl rfl hl.1 rfl (lv_room (Nat.le_of_ble_eq_true rfl)) d_O_cutAfter_28 ⟨Nat.zero_le _, Nat.zero_le _⟩) hS (fun q _ h => hF1 q h) hF1 (fun σ28 t H locs ht hvm hpost hB hz1 hk1 hS => ?_)
        subst hpost
        obtain ⟨hP1, hK1, hD1⟩ := hB
        rw [ht] at hP1
        have hP := hP1
        have hD := hD1.weaken (fun _ _ _ h => hF1 _ h)
        refine lv_iconst (v := 1) hx hb d_O_cutAfter_31 (by decide) ?_
        have e9 := Prod.mk.inj (Option.some.inj hM)
        exact W.zret (ty := .boolean) (v := 1) hx hb hr rfl (fun t ht hW => ⟨⟨1, σ28, rfl, e9, by rw [ht]; exact hP, va_K.moved hW.alike hK, hD⟩, hS.F ht⟩) hS.2.2 d_O_cutAfter_32
      · rw [if_pos h18] at hM
        refine lv_iconst (v := 0) hx hb d_O_cutAfter_21 (by decide) ?_
        have e9 := Prod.mk.inj (Option.some.inj hM)
        exact W.zret (ty := .boolean) (v := 0) hx hb hr rfl (fun t ht hW => ⟨⟨0, σ, rfl, e9, by rw [ht]; exact hP, va_K.moved hW.alike hK, hD⟩, hS.F ht⟩) hS.2.2 d_O_cutAfter_22

theorem d_V_switchOn_0 : decode b_V_switchOn 0 = .ok (.aload_n 0, 1) := by decide +kernel
theorem d_V_switchOn_1 : decode b_V_switchOn 1 = .ok (.iconst 1, 1) := by decide +kernel
theorem d_V_switchOn_2 : decode b_V_switchOn 2 = .ok (.putfield 13, 3) := by decide +kernel
theorem d_V_switchOn_5 : decode b_V_switchOn 5 = .ok (.return_, 1) := by decide +kernel
def m_V_switchOn (N : Nat) (σ : SX) : Option (SX) :=
  some (w1 σ 5 1 1)

set_option maxHeartbeats 4000000 in
set_option maxRecDepth 100000 in
theorem c_V_switchOn (l : Launch) (dC : Nat → ClassId) (dI : Nat → Nat → Nat) (ad : Nat → Nat → Nat) (cs : Nat → ClassId) (sz N : Nat) (σ : SX) {σ0 : SX} (hM : m_V_switchOn N σ = some σ0) : Met l y_V_switchOn (wd y_V_switchOn b_V_switchOn 1 none) ({ frames := 0, cells := 0, slots := 0, locals := 0 }) (va_Pc [.ref (ad 5 0)] (preX dC dI ad cs sz σ)) (va_Qv (fun (u : SX) => u = σ0) (atX dC dI ad cs (va_A (wX ad cs σ) sz)) (va_A (wX ad cs σ) sz)) 0 0 (va_A (wX ad cs σ) sz) := by
  refine Met.ofW (cc := b_V_switchOn) (maxL := 1) (ret := none) (by decide) rfl ?_
  intro p e s m args below meth c s₁ B hml hv
  obtain ⟨rfl, hsz, hP, hK, hD0, hN⟩ := hv
  have hx := B.exec
  have hb := B.bytes
  have hr := B.returns
  have hts := atoms_spec (ws := (wd y_V_switchOn b_V_switchOn 1 none)) B.pre
  have htb : ∀ w ∈ tb, w.before _ s = true := fun w h => hts w (List.mem_cons_of_mem _ h)
  have hown : s.vm.findClass R_V = some m.cls := findClass_of_methodNamed B.named
  have hlocks := B.notSynchronized
  subst hsz
  have hD := hD0.self (sz := s.heap.size)
  generalize hAe : va_A (wX ad cs σ) s.heap.size = A at hD ⊢
  have hA : ∀ q : Nat, s.heap.size ≤ q → A q := fun q h => by rw [← hAe]; exact Or.inr h
  have hS : va_S A s.heap s.heap [] := va_S.rf
  have hP : va_P (dC, dI) classes (wX ad cs σ) s.heap := hP
  have hl := lv_entry ([.ref (ad 5 0)]) (n := 1) (Nat.le_of_ble_eq_true rfl)
  rw [lg_entry_eq]
  generalize (lg_sl ([.ref (ad 5 0)]) ++ List.replicate (1 - (lg_sl ([.ref (ad 5 0)])).length) Slot.unset).toArray = ls at hl ⊢
  have hl : lv_has ls 1 [(0, .ref (ad 5 0))] := hl
  rw [m_V_switchOn] at hM
  refine lv_aload_n hx hb d_V_switchOn_0 rfl (lv_at hl 0 rfl) ?_
  refine lv_iconst (v := 1) hx hb d_V_switchOn_1 (by decide) ?_
  refine va_put (D := (dC, dI)) (ci := 4) (v := .int 1) (ty := .boolean) (C := R_V) (T := F_V) (N := 4) hx hb htb in_V ft_V ft_V_ok n_V hown hK hP hD hS 15 (g_V) rfl 1 (by decide) (htb _ k_72) (fun _ h9 => h9) rfl (by decide +kernel) rfl rfl (Nat.le_of_ble_eq_true rfl) d_V_switchOn_2 (fun H locs hP hD hS => ?_)
  have hP := P_eq (s_V_1) hP
  have hD := D_eq (s_V_1) hD
  have e9 := Option.some.inj hM
  exact W.vret hx hb hr (fun t ht hW => ⟨⟨(w1 σ 5 1 1), rfl, e9, by rw [ht]; exact hP, va_K.moved hW.alike hK, hD⟩, hS.F ht⟩) hS.2.2 d_V_switchOn_5

theorem d_O_resume_0 : decode b_O_resume 0 = .ok (.aload_n 0, 1) := by decide +kernel
theorem d_O_resume_1 : decode b_O_resume 1 = .ok (.getfield 26, 3) := by decide +kernel
theorem d_O_resume_4 : decode b_O_resume 4 = .ok (.invokevirtual 118, 3) := by decide +kernel
theorem d_O_resume_7 : decode b_O_resume 7 = .ok (.ifCond .eq 5, 3) := by decide +kernel
theorem d_O_resume_10 : decode b_O_resume 10 = .ok (.iconst 0, 1) := by decide +kernel
theorem d_O_resume_11 : decode b_O_resume 11 = .ok (.ireturn, 1) := by decide +kernel
theorem d_O_resume_12 : decode b_O_resume 12 = .ok (.aload_n 0, 1) := by decide +kernel
theorem d_O_resume_13 : decode b_O_resume 13 = .ok (.getfield 26, 3) := by decide +kernel
theorem d_O_resume_16 : decode b_O_resume 16 = .ok (.invokevirtual 137, 3) := by decide +kernel
theorem d_O_resume_19 : decode b_O_resume 19 = .ok (.iconst 1, 1) := by decide +kernel
theorem d_O_resume_20 : decode b_O_resume 20 = .ok (.ireturn, 1) := by decide +kernel
def m_O_resume (N : Nat) (σ : SX) : Option (Int32 × SX) :=
  (bI (m_V_hasPower N σ) fun r4 σ4 => (if r4 = 0 then (bV (m_V_switchOn N σ) fun σ16 => some (1, σ16)) else some (0, σ)))

set_option maxHeartbeats 4000000 in
set_option maxRecDepth 100000 in
theorem c_O_resume (l : Launch) (dC : Nat → ClassId) (dI : Nat → Nat → Nat) (ad : Nat → Nat → Nat) (cs : Nat → ClassId) (sz N : Nat) (σ : SX) {r0 : Int32} {σ0 : SX} (hM : m_O_resume N σ = some (r0, σ0)) : Met l y_O_resume (wd y_O_resume b_O_resume 1 (some .boolean)) ({ frames := 1, cells := 0, slots := 0, locals := 20 }) (va_Pc [.ref (ad 0 0)] (preX dC dI ad cs sz σ)) (va_Qi (fun (r : Int32) (u : SX) => r = r0 ∧ u = σ0) (atX dC dI ad cs (va_A (wX ad cs σ) sz)) (va_A (wX ad cs σ) sz)) 0 0 (va_A (wX ad cs σ) sz) := by
  refine Met.ofW (cc := b_O_resume) (maxL := 1) (ret := (some .boolean)) (by decide) rfl ?_
  intro p e s m args below meth c s₁ B hml hv
  obtain ⟨rfl, hsz, hP, hK, hD0, hN⟩ := hv
  have hx := B.exec
  have hb := B.bytes
  have hr := B.returns
  have hts := atoms_spec (ws := (wd y_O_resume b_O_resume 1 (some .boolean))) B.pre
  have htb : ∀ w ∈ tb, w.before _ s = true := fun w h => hts w (List.mem_cons_of_mem _ h)
  have hown : s.vm.findClass R_O = some m.cls := findClass_of_methodNamed B.named
  have hlocks := B.notSynchronized
  subst hsz
  have hD := hD0.self (sz := s.heap.size)
  generalize hAe : va_A (wX ad cs σ) s.heap.size = A at hD ⊢
  have hA : ∀ q : Nat, s.heap.size ≤ q → A q := fun q h => by rw [← hAe]; exact Or.inr h
  have hS : va_S A s.heap s.heap [] := va_S.rf
  have hP : va_P (dC, dI) classes (wX ad cs σ) s.heap := hP
  have hl := lv_entry ([.ref (ad 0 0)]) (n := 1) (Nat.le_of_ble_eq_true rfl)
  rw [lg_entry_eq]
  generalize (lg_sl ([.ref (ad 0 0)]) ++ List.replicate (1 - (lg_sl ([.ref (ad 0 0)])).length) Slot.unset).toArray = ls at hl ⊢
  have hl : lv_has ls 1 [(0, .ref (ad 0 0))] := hl
  rw [m_O_resume] at hM
  refine lv_aload_n hx hb d_O_resume_0 rfl (lv_at hl 0 rfl) ?_
  refine va_get (D := (dC, dI)) (ci := 0) (v := .ref (ad 5 0)) (C := R_O) (T := F_O) (N := 12) hx hb htb in_O hown hK hP 0 (g_O) rfl 4 (by decide) (htb _ k_152) (fun _ h9 => h9) rfl d_O_resume_1 ?_
  obtain ⟨x4, y4, hq4, hM⟩ := bI_some hM
  refine va_calli (va_runV (As := []) (rest := []) ⟨hx, hb, hml, hown, hts⟩ (c_V_hasPower l dC dI ad cs _ N σ hq4) (cwV 0 hts (goodV k_213 k_214 k_215 k_4 k_216) rfl rfl rfl ⟨rfl, by decide, by decide, by decide +kernel⟩ ⟨Nat.le_of_ble_eq_true rfl, Nat.le_of_ble_eq_true rfl⟩) ⟨blindX, va_recv hK hP rfl (g_V), payX hP hK hD hN⟩ rfl rfl hl.1 rfl (lv_room (Nat.le_of_ble_eq_true rfl)) d_O_resume_4 ⟨Nat.zero_le _, Nat.zero_le _⟩) hS (fun q h0 h => absurd h0 (Nat.not_lt.mpr h)) (fun q h => hA q (Nat.le_trans hS.1 h)) (fun r4 u t H locs ht hvm hpost hB hz1 hk1 hS => ?_)
  obtain ⟨e1, e2⟩ := hpost
  subst e1
  subst e2
  have hP := keepP hP hk1
  refine lv_if_eq (tgt := 12) hx hb d_O_resume_7 (by decide) (fun h7 => ?_) (fun h7 => ?_)
  · rw [if_pos h7] at hM
    refine lv_aload_n hx hb d_O_resume_12 rfl (lv_at hl 0 rfl) ?_
    refine va_get (D := (dC, dI)) (ci := 0) (v := .ref (ad 5 0)) (C := R_O) (T := F_O) (N := 12) hx hb htb in_O hown hK hP 0 (g_O) rfl 4 (by decide) (htb _ k_152) (fun _ h9 => h9) rfl d_O_resume_13 ?_
    have hF1 := free_all hD hS hA
    obtain ⟨y16, hq16, hM⟩ := bV_some hM
    refine va_callv (va_runV (As := []) (rest := []) ⟨hx, hb, hml, hown, hts⟩ (c_V_switchOn l dC dI ad cs _ N σ hq16) (cwV 0 hts (goodV k_225 k_226 k_227 k_4 k_228) rfl rfl rfl ⟨rfl, by decide, by decide, by decide +kernel⟩ ⟨Nat.le_of_ble_eq_true rfl, Nat.le_of_ble_eq_true rfl⟩) ⟨blindX, va_recv hK hP rfl (g_V), payX hP hK hD hN⟩ rfl rfl hl.1 rfl (lv_room (Nat.le_of_ble_eq_true rfl)) d_O_resume_16 ⟨Nat.zero_le _, Nat.zero_le _⟩) hS (fun q _ h => hF1 q h) hF1 (fun σ16 t H locs ht hvm hpost hB hz1 hk1 hS => ?_)
    subst hpost
    obtain ⟨hP1, hK1, hD1⟩ := hB
    rw [ht] at hP1
    have hP := hP1
    have hD := hD1.weaken (fun _ _ _ h => hF1 _ h)
    refine lv_iconst (v := 1) hx hb d_O_resume_19 (by decide) ?_
    have e9 := Prod.mk.inj (Option.some.inj hM)
    exact W.zret (ty := .boolean) (v := 1) hx hb hr rfl (fun t ht hW => ⟨⟨1, σ16, rfl, e9, by rw [ht]; exact hP, va_K.moved hW.alike hK, hD⟩, hS.F ht⟩) hS.2.2 d_O_resume_20
  · rw [if_neg h7] at hM
    refine lv_iconst (v := 0) hx hb d_O_resume_10 (by decide) ?_
    have e9 := Prod.mk.inj (Option.some.inj hM)
    exact W.zret (ty := .boolean) (v := 0) hx hb hr rfl (fun t ht hW => ⟨⟨0, σ, rfl, e9, by rw [ht]; exact hP, va_K.moved hW.alike hK, hD⟩, hS.F ht⟩) hS.2.2 d_O_resume_11

theorem d_O_phase_0 : decode b_O_phase 0 = .ok (.aload_n 0, 1) := by decide +kernel
theorem d_O_phase_1 : decode b_O_phase 1 = .ok (.getfield 26, 3) := by decide +kernel
theorem d_O_phase_4 : decode b_O_phase 4 = .ok (.invokevirtual 118, 3) := by decide +kernel
theorem d_O_phase_7 : decode b_O_phase 7 = .ok (.ifCond .eq 10, 3) := by decide +kernel
theorem d_O_phase_10 : decode b_O_phase 10 = .ok (.aload_n 0, 1) := by decide +kernel
theorem d_O_phase_11 : decode b_O_phase 11 = .ok (.getfield 53, 3) := by decide +kernel
theorem d_O_phase_14 : decode b_O_phase 14 = .ok (.goto 9, 3) := by decide +kernel
theorem d_O_phase_17 : decode b_O_phase 17 = .ok (.aload_n 0, 1) := by decide +kernel
theorem d_O_phase_18 : decode b_O_phase 18 = .ok (.getfield 53, 3) := by decide +kernel
theorem d_O_phase_21 : decode b_O_phase 21 = .ok (.iconst 4, 1) := by decide +kernel
theorem d_O_phase_22 : decode b_O_phase 22 = .ok (.iadd, 1) := by decide +kernel
theorem d_O_phase_23 : decode b_O_phase 23 = .ok (.ireturn, 1) := by decide +kernel
def m_O_phase (N : Nat) (σ : SX) : Option (Int32 × SX) :=
  (bI (m_V_hasPower N σ) fun r4 σ4 => (if r4 = 0 then some ((((σ 0).1 0) + 4), σ) else some (((σ 0).1 0), σ)))

set_option maxHeartbeats 4000000 in
set_option maxRecDepth 100000 in
theorem c_O_phase (l : Launch) (dC : Nat → ClassId) (dI : Nat → Nat → Nat) (ad : Nat → Nat → Nat) (cs : Nat → ClassId) (sz N : Nat) (σ : SX) {r0 : Int32} {σ0 : SX} (hM : m_O_phase N σ = some (r0, σ0)) : Met l y_O_phase (wd y_O_phase b_O_phase 1 (some .int)) ({ frames := 1, cells := 0, slots := 0, locals := 20 }) (va_Pc [.ref (ad 0 0)] (preX dC dI ad cs sz σ)) (va_Qi (fun (r : Int32) (_ : Unit) => r = r0 ∧ σ = σ0) (fun _ _ => True) (fun q => sz ≤ q)) 0 0 (fun q => sz ≤ q) := by
  refine Met.ofW (cc := b_O_phase) (maxL := 1) (ret := (some .int)) (by decide) rfl ?_
  intro p e s m args below meth c s₁ B hml hv
  obtain ⟨rfl, hsz, hP, hK, hD0, hN⟩ := hv
  have hx := B.exec
  have hb := B.bytes
  have hr := B.returns
  have hts := atoms_spec (ws := (wd y_O_phase b_O_phase 1 (some .int))) B.pre
  have htb : ∀ w ∈ tb, w.before _ s = true := fun w h => hts w (List.mem_cons_of_mem _ h)
  have hown : s.vm.findClass R_O = some m.cls := findClass_of_methodNamed B.named
  have hlocks := B.notSynchronized
  subst hsz
  have hD := hD0
  have hA : ∀ q : Nat, s.heap.size ≤ q → s.heap.size ≤ q := fun q h => h
  have hS : va_S (fun q => s.heap.size ≤ q) s.heap s.heap [] := va_S.rf
  have hP : va_P (dC, dI) classes (wX ad cs σ) s.heap := hP
  have hl := lv_entry ([.ref (ad 0 0)]) (n := 1) (Nat.le_of_ble_eq_true rfl)
  rw [lg_entry_eq]
  generalize (lg_sl ([.ref (ad 0 0)]) ++ List.replicate (1 - (lg_sl ([.ref (ad 0 0)])).length) Slot.unset).toArray = ls at hl ⊢
  have hl : lv_has ls 1 [(0, .ref (ad 0 0))] := hl
  rw [m_O_phase] at hM
  refine lv_aload_n hx hb d_O_phase_0 rfl (lv_at hl 0 rfl) ?_
  refine va_get (D := (dC, dI)) (ci := 0) (v := .ref (ad 5 0)) (C := R_O) (T := F_O) (N := 12) hx hb htb in_O hown hK hP 0 (g_O) rfl 4 (by decide) (htb _ k_152) (fun _ h9 => h9) rfl d_O_phase_1 ?_
  obtain ⟨x4, y4, hq4, hM⟩ := bI_some hM
  refine va_calli (va_runV (As := []) (rest := []) ⟨hx, hb, hml, hown, hts⟩ (c_V_hasPower l dC dI ad cs _ N σ hq4) (cwV 0 hts (goodV k_213 k_214 k_215 k_4 k_216) rfl rfl rfl ⟨rfl, by decide, by decide, by decide +kernel⟩ ⟨Nat.le_of_ble_eq_true rfl, Nat.le_of_ble_eq_true rfl⟩) ⟨blindX, va_recv hK hP rfl (g_V), payX hP hK hD hN⟩ rfl rfl hl.1 rfl (lv_room (Nat.le_of_ble_eq_true rfl)) d_O_phase_4 ⟨Nat.zero_le _, Nat.zero_le _⟩) hS (fun q h0 h => absurd h0 (Nat.not_lt.mpr h)) (fun q h => hA q (Nat.le_trans hS.1 h)) (fun r4 u t H locs ht hvm hpost hB hz1 hk1 hS => ?_)
  obtain ⟨e1, e2⟩ := hpost
  subst e1
  subst e2
  have hP := keepP hP hk1
  refine lv_if_eq (tgt := 17) hx hb d_O_phase_7 (by decide) (fun h7 => ?_) (fun h7 => ?_)
  · rw [if_pos h7] at hM
    refine lv_aload_n hx hb d_O_phase_17 rfl (lv_at hl 0 rfl) ?_
    refine va_get (D := (dC, dI)) (ci := 0) (v := .int ((σ 0).1 0)) (C := R_O) (T := F_O) (N := 12) hx hb htb in_O hown hK hP 0 (g_O) rfl 10 (by decide) (htb _ k_158) (fun _ h9 => h9) rfl d_O_phase_18 ?_
    refine lv_iconst (v := 4) hx hb d_O_phase_21 (by decide) ?_
    refine lv_iadd hx hb d_O_phase_22 ?_
    have e9 := Prod.mk.inj (Option.some.inj hM)
    exact W.iret (v := (((σ 0).1 0) + 4)) hx hb hr (fun t ht hW => ⟨⟨(((σ 0).1 0) + 4), (), rfl, e9, trivial⟩, hS.F ht⟩) hS.2.2 d_O_phase_23
  · rw [if_neg h7] at hM
    refine lv_aload_n hx hb d_O_phase_10 rfl (lv_at hl 0 rfl) ?_
    refine va_get (D := (dC, dI)) (ci := 0) (v := .int ((σ 0).1 0)) (C := R_O) (T := F_O) (N := 12) hx hb htb in_O hown hK hP 0 (g_O) rfl 10 (by decide) (htb _ k_158) (fun _ h9 => h9) rfl d_O_phase_11 ?_
    refine lv_goto (tgt := 23) hx hb d_O_phase_14 (by decide) ?_
    have e9 := Prod.mk.inj (Option.some.inj hM)
    exact W.iret (v := ((σ 0).1 0)) hx hb hr (fun t ht hW => ⟨⟨((σ 0).1 0), (), rfl, e9, trivial⟩, hS.F ht⟩) hS.2.2 d_O_phase_23
