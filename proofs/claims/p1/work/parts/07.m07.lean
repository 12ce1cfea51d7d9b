theorem d_P_height_0 : decode b_P_height 0 = .ok (.aload_n 0, 1) := by decide +kernel
theorem d_P_height_1 : decode b_P_height 1 = .ok (.getfield 15, 3) := by decide +kernel
theorem d_P_height_4 : decode b_P_height 4 = .ok (.ireturn, 1) := by decide +kernel
def m_P_height (N : Nat) (σ : SX) : Option (Int32 × SX) :=
  some (((σ 4).1 0), σ)

set_option maxHeartbeats 4000000 in
set_option maxRecDepth 100000 in
theorem c_P_height (l : Launch) (dC : Nat → ClassId) (dI : Nat → Nat → Nat) (ad : Nat → Nat → Nat) (cs : Nat → ClassId) (sz N : Nat) (σ : SX) {r0 : Int32} {σ0 : SX} (hM : m_P_height N σ = some (r0, σ0)) : Met l y_P_height (wd y_P_height b_P_height 1 (some .int)) ({ frames := 0, cells := 0, slots := 0, locals := 0 }) (va_Pc [.ref (ad 4 0)] (preX dC dI ad cs sz σ)) (va_Qi (fun (r : Int32) (_ : Unit) => r = r0 ∧ σ = σ0) (fun _ _ => True) (fun q => sz ≤ q)) 0 0 (fun q => sz ≤ q) := by
  refine Met.ofW (cc := b_P_height) (maxL := 1) (ret := (some .int)) (by decide) rfl ?_
  intro p e s m args below meth c s₁ B hml hv
  obtain ⟨rfl, hsz, hP, hK, hD0, hN⟩ := hv
  have hx := B.exec
  have hb := B.bytes
  have hr := B.returns
  have hts := atoms_spec (ws := (wd y_P_height b_P_height 1 (some .int))) B.pre
  have htb : ∀ w ∈ tb, w.before _ s = true := fun w h => hts w (List.mem_cons_of_mem _ h)
  have hown : s.vm.findClass R_P = some m.cls := findClass_of_methodNamed B.named
  have hlocks := B.notSynchronized
  subst hsz
  have hD := hD0
  have hA : ∀ q : Nat, s.heap.size ≤ q → s.heap.size ≤ q := fun q h => h
  have hS : va_S (fun q => s.heap.size ≤ q) s.heap s.heap [] := va_S.rf
  have hP : va_P (dC, dI) classes (wX ad cs σ) s.heap := hP
  have hl := lv_entry ([.ref (ad 4 0)]) (n := 1) (Nat.le_of_ble_eq_true rfl)
  rw [lg_entry_eq]
  generalize (lg_sl ([.ref (ad 4 0)]) ++ List.replicate (1 - (lg_sl ([.ref (ad 4 0)])).length) Slot.unset).toArray = ls at hl ⊢
  have hl : lv_has ls 1 [(0, .ref (ad 4 0))] := hl
  rw [m_P_height] at hM
  refine lv_aload_n hx hb d_P_height_0 rfl (lv_at hl 0 rfl) ?_
  refine va_get (D := (dC, dI)) (ci := 3) (v := .int ((σ 4).1 0)) (C := R_P) (T := F_P) (N := 3) hx hb htb in_P hown hK hP 13 (g_P) rfl 1 (by decide) (htb _ k_56) (fun _ h9 => h9) rfl d_P_height_1 ?_
  have e9 := Prod.mk.inj (Option.some.inj hM)
  exact W.iret (v := ((σ 4).1 0)) hx hb hr (fun t ht hW => ⟨⟨((σ 4).1 0), (), rfl, e9, trivial⟩, hS.F ht⟩) hS.2.2 d_P_height_4

theorem d_O_level_0 : decode b_O_level 0 = .ok (.aload_n 0, 1) := by decide +kernel
theorem d_O_level_1 : decode b_O_level 1 = .ok (.getfield 53, 3) := by decide +kernel
theorem d_O_level_4 : decode b_O_level 4 = .ok (.ifCond .eq 13, 3) := by decide +kernel
theorem d_O_level_7 : decode b_O_level 7 = .ok (.aload_n 0, 1) := by decide +kernel
theorem d_O_level_8 : decode b_O_level 8 = .ok (.getfield 10, 3) := by decide +kernel
theorem d_O_level_11 : decode b_O_level 11 = .ok (.invokevirtual 108, 3) := by decide +kernel
theorem d_O_level_14 : decode b_O_level 14 = .ok (.ifCond .ne 7, 3) := by decide +kernel
theorem d_O_level_17 : decode b_O_level 17 = .ok (.iconst 0, 1) := by decide +kernel
theorem d_O_level_18 : decode b_O_level 18 = .ok (.goto 10, 3) := by decide +kernel
theorem d_O_level_21 : decode b_O_level 21 = .ok (.aload_n 0, 1) := by decide +kernel
theorem d_O_level_22 : decode b_O_level 22 = .ok (.getfield 19, 3) := by decide +kernel
theorem d_O_level_25 : decode b_O_level 25 = .ok (.invokevirtual 140, 3) := by decide +kernel
theorem d_O_level_28 : decode b_O_level 28 = .ok (.ireturn, 1) := by decide +kernel
def m_O_level (N : Nat) (σ : SX) : Option (Int32 × SX) :=
  (if ((σ 0).1 0) = 0 then some (0, σ) else (bI (m_D_cardCount N σ) fun r11 σ11 => (if r11 = 0 then some (0, σ) else (bI (m_P_height N σ) fun r25 σ25 => some (r25, σ)))))

set_option maxHeartbeats 4000000 in
set_option maxRecDepth 100000 in
theorem c_O_level (l : Launch) (dC : Nat → ClassId) (dI : Nat → Nat → Nat) (ad : Nat → Nat → Nat) (cs : Nat → ClassId) (sz N : Nat) (σ : SX) {r0 : Int32} {σ0 : SX} (hM : m_O_level N σ = some (r0, σ0)) : Met l y_O_level (wd y_O_level b_O_level 1 (some .int)) ({ frames := 1, cells := 0, slots := 0, locals := 20 }) (va_Pc [.ref (ad 0 0)] (preX dC dI ad cs sz σ)) (va_Qi (fun (r : Int32) (_ : Unit) => r = r0 ∧ σ = σ0) (fun _ _ => True) (fun q => sz ≤ q)) 0 0 (fun q => sz ≤ q) := by
  refine Met.ofW (cc := b_O_level) (maxL := 1) (ret := (some .int)) (by decide) rfl ?_
  intro p e s m args below meth c s₁ B hml hv
  obtain ⟨rfl, hsz, hP, hK, hD0, hN⟩ := hv
  have hx := B.exec
  have hb := B.bytes
  have hr := B.returns
  have hts := atoms_spec (ws := (wd y_O_level b_O_level 1 (some .int))) B.pre
  have htb : ∀ w ∈ tb, w.before _ s = true := fun w h => hts w (List.mem_cons_of_mem _ h)
  have hown : s.vm.findClass R_O = some m.cls := findClass_of_methodNamed B.named
  have hlocks := B.notSynchronized
  subst hsz
  have hD := hD0
  have hA : ∀ q : Nat, s.heap.size ≤ q → s.heap.size ≤ q := fun q h => h
  have hS : va_S (fun q => s.heap.size ≤ q) s.heap s.heap [] := va_S.rf
  have hP : va_P (dC, dI) classes (wX ad cs σ) s.heap := hP
  have hl := lv_entry ([.ref (ad 0 0)]) (n := 1) (Nat.le_of_ble_eq_true rfl)
  rw [lg_entry_eq]
  generalize (lg_sl ([.ref (ad 0 0)]) ++ List.replicate (1 - (lg_sl ([.ref (ad 0 0)])).length) Slot.unset).toArray = ls at hl ⊢
  have hl : lv_has ls 1 [(0, .ref (ad 0 0))] := hl
  rw [m_O_level] at hM
  refine lv_aload_n hx hb d_O_level_0 rfl (lv_at hl 0 rfl) ?_
  refine va_get (D := (dC, dI)) (ci := 0) (v := .int ((σ 0).1 0)) (C := R_O) (T := F_O) (N := 12) hx hb htb in_O hown hK hP 0 (g_O) rfl 10 (by decide) (htb _ k_158) (fun _ h9 => h9) rfl d_O_level_1 ?_
  refine lv_if_eq (tgt := 17) hx hb d_O_level_4 (by decide) (fun h4 => ?_) (fun h4 => ?_)
  · rw [if_pos h4] at hM
    refine lv_iconst (v := 0) hx hb d_O_level_17 (by decide) ?_
    refine lv_goto (tgt := 28) hx hb d_O_level_18 (by decide) ?_
    have e9 := Prod.mk.inj (Option.some.inj hM)
    exact W.iret (v := 0) hx hb hr (fun t ht hW => ⟨⟨0, (), rfl, e9, trivial⟩, hS.F ht⟩) hS.2.2 d_O_level_28
  · rw [if_neg h4] at hM
    refine lv_aload_n hx hb d_O_level_7 rfl (lv_at hl 0 rfl) ?_
    refine va_get (D := (dC, dI)) (ci := 0) (v := .ref (ad 1 0)) (C := R_O) (T := F_O) (N := 12) hx hb htb in_O hown hK hP 0 (g_O) rfl 0 (by decide) (htb _ k_148) (fun _ h9 => h9) rfl d_O_level_8 ?_
    obtain ⟨x11, y11, hq11, hM⟩ := bI_some hM
    refine va_calli (va_runV (As := []) (rest := []) ⟨hx, hb, hml, hown, hts⟩ (c_D_cardCount l dC dI ad cs _ N σ hq11) (cwV 0 hts (goodV k_189 k_190 k_191 k_2 k_192) rfl rfl rfl ⟨rfl, by decide, by decide, by decide +kernel⟩ ⟨Nat.le_of_ble_eq_true rfl, Nat.le_of_ble_eq_true rfl⟩) ⟨blindX, va_recv hK hP rfl (g_D), payX hP hK hD hN⟩ rfl rfl hl.1 rfl (lv_room (Nat.le_of_ble_eq_true rfl)) d_O_level_11 ⟨Nat.zero_le _, Nat.zero_le _⟩) hS (fun q h0 h => absurd h0 (Nat.not_lt.mpr h)) (fun q h => hA q (Nat.le_trans hS.1 h)) (fun r11 u t H locs ht hvm hpost hB hz1 hk1 hS => ?_)
    obtain ⟨e1, e2⟩ := hpost
    subst e1
    subst e2
    have hP := keepP hP hk1
    refine lv_if_ne (tgt := 21) hx hb d_O_level_14 (by decide) (fun h14 => ?_) (fun h14 => ?_)
    · rw [if_neg h14] at hM
      refine lv_aload_n hx hb d_O_level_21 rfl (lv_at hl 0 rfl) ?_
      refine va_get (D := (dC, dI)) (ci := 0) (v := .ref (ad 4 0)) (C := R_O) (T := F_O) (N := 12) hx hb htb in_O hown hK hP 0 (g_O) rfl 3 (by decide) (htb _ k_151) (fun _ h9 => h9) rfl d_O_level_22 ?_
      obtain ⟨x25, y25, hq25, hM⟩ := bI_some hM
      refine va_calli (va_runV (As := []) (rest := []) ⟨hx, hb, hml, hown, hts⟩ (c_P_height l dC dI ad cs _ N σ hq25) (cwV 0 hts (goodV k_237 k_238 k_239 k_3 k_240) rfl rfl rfl ⟨rfl, by decide, by decide, by decide +kernel⟩ ⟨Nat.le_of_ble_eq_true rfl, Nat.le_of_ble_eq_true rfl⟩) ⟨blindX, va_recv hK hP rfl (g_P), payX hP hK hD hN⟩ rfl rfl hl.1 rfl (lv_room (Nat.le_of_ble_eq_true rfl)) d_O_level_25 ⟨Nat.zero_le _, Nat.zero_le _⟩) hS (fun q h0 h => absurd h0 (Nat.not_lt.mpr h)) (fun q h => hA q (Nat.le_trans hS.1 h)) (fun r25 u t H locs ht hvm hpost hB hz1 hk1 hS => ?_)
      obtain ⟨e1, e2⟩ := hpost
      subst e1
      subst e2
      have hP := keepP hP hk1
      have e9 := Prod.mk.inj (Option.some.inj hM)
      exact W.iret (v := r25) hx hb hr (fun t ht hW => ⟨⟨r25, (), rfl, e9, trivial⟩, hS.F ht⟩) hS.2.2 d_O_level_28
    · rw [if_pos h14] at hM
      refine lv_iconst (v := 0) hx hb d_O_level_17 (by decide) ?_
      refine lv_goto (tgt := 28) hx hb d_O_level_18 (by decide) ?_
      have e9 := Prod.mk.inj (Option.some.inj hM)
      exact W.iret (v := 0) hx hb hr (fun t ht hW => ⟨⟨0, (), rfl, e9, trivial⟩, hS.F ht⟩) hS.2.2 d_O_level_28

theorem d_O_isTape_0 : decode b_O_isTape 0 = .ok (.iload_n 0, 1) := by decide +kernel
theorem d_O_isTape_1 : decode b_O_isTape 1 = .ok (.ifCond .lt 12, 3) := by decide +kernel
theorem d_O_isTape_4 : decode b_O_isTape 4 = .ok (.iload_n 0, 1) := by decide +kernel
theorem d_O_isTape_5 : decode b_O_isTape 5 = .ok (.iconst 4, 1) := by decide +kernel
theorem d_O_isTape_6 : decode b_O_isTape 6 = .ok (.if_icmp .ge 7, 3) := by decide +kernel
theorem d_O_isTape_9 : decode b_O_isTape 9 = .ok (.iconst 1, 1) := by decide +kernel
theorem d_O_isTape_10 : decode b_O_isTape 10 = .ok (.goto 4, 3) := by decide +kernel
theorem d_O_isTape_13 : decode b_O_isTape 13 = .ok (.iconst 0, 1) := by decide +kernel
theorem d_O_isTape_14 : decode b_O_isTape 14 = .ok (.ireturn, 1) := by decide +kernel
def m_O_isTape (a0 : Int32) : Option Int32 :=
  (if a0 < 0 then some 0 else (if 4 ≤ a0 then some 0 else some 1))

set_option maxHeartbeats 4000000 in
set_option maxRecDepth 100000 in
theorem c_O_isTape (l : Launch) (sz : Nat) (a0 : Int32) {r0 : Int32} (hM : m_O_isTape a0 = some r0) : Met l y_O_isTape (wd y_O_isTape b_O_isTape 1 (some .boolean)) ({ frames := 0, cells := 0, slots := 0, locals := 0 }) (va_Pc [.int a0] (fun U => U.heap.size = sz)) (va_Qi (fun (r : Int32) (_ : Unit) => r = r0) (fun _ _ => True) (fun q => sz ≤ q)) 0 0 (fun q => sz ≤ q) := by
  refine Met.ofW (cc := b_O_isTape) (maxL := 1) (ret := (some .boolean)) (by decide) rfl ?_
  intro p e s m args below meth c s₁ B hml hv
  obtain ⟨rfl, hsz⟩ := hv
  have hx := B.exec
  have hb := B.bytes
  have hr := B.returns
  have hts := atoms_spec (ws := (wd y_O_isTape b_O_isTape 1 (some .boolean))) B.pre
  have htb : ∀ w ∈ tb, w.before _ s = true := fun w h => hts w (List.mem_cons_of_mem _ h)
  have hown : s.vm.findClass R_O = some m.cls := findClass_of_methodNamed B.named
  have hlocks := B.notSynchronized
  subst hsz
  have hS : va_S (fun q => s.heap.size ≤ q) s.heap s.heap [] := va_S.rf
  have hA : ∀ q : Nat, s.heap.size ≤ q → s.heap.size ≤ q := fun q h => h
  have hl := lv_entry ([.int a0]) (n := 1) (Nat.le_of_ble_eq_true rfl)
  rw [lg_entry_eq]
  generalize (lg_sl ([.int a0]) ++ List.replicate (1 - (lg_sl ([.int a0])).length) Slot.unset).toArray = ls at hl ⊢
  have hl : lv_has ls 1 [(0, .int a0)] := hl
  rw [m_O_isTape] at hM
  refine lv_iload_n hx hb d_O_isTape_0 rfl (lv_at hl 0 rfl) ?_
  refine lv_if_lt (tgt := 13) hx hb d_O_isTape_1 (by decide) (fun h1 => ?_) (fun h1 => ?_)
  · rw [if_pos h1] at hM
    refine lv_iconst (v := 0) hx hb d_O_isTape_13 (by decide) ?_
    have e9 := Option.some.inj hM
    exact W.zret (ty := .boolean) (v := 0) hx hb hr rfl (fun t ht hW => ⟨⟨0, (), rfl, e9, trivial⟩, hS.F ht⟩) hS.2.2 d_O_isTape_14
  · rw [if_neg h1] at hM
    refine lv_iload_n hx hb d_O_isTape_4 rfl (lv_at hl 0 rfl) ?_
    refine lv_iconst (v := 4) hx hb d_O_isTape_5 (by decide) ?_
    refine lv_icmp_ge (tgt := 13) hx hb d_O_isTape_6 (by decide) (fun h6 => ?_) (fun h6 => ?_)
    · rw [if_pos h6] at hM
      refine lv_iconst (v := 0) hx hb d_O_isTape_13 (by decide) ?_
      have e9 := Option.some.inj hM
      exact W.zret (ty := .boolean) (v := 0) hx hb hr rfl (fun t ht hW => ⟨⟨0, (), rfl, e9, trivial⟩, hS.F ht⟩) hS.2.2 d_O_isTape_14
    · rw [if_neg h6] at hM
      refine lv_iconst (v := 1) hx hb d_O_isTape_9 (by decide) ?_
      refine lv_goto (tgt := 14) hx hb d_O_isTape_10 (by decide) ?_
      have e9 := Option.some.inj hM
      exact W.zret (ty := .boolean) (v := 1) hx hb hr rfl (fun t ht hW => ⟨⟨1, (), rfl, e9, trivial⟩, hS.F ht⟩) hS.2.2 d_O_isTape_14

theorem d_T_runCount_0 : decode b_T_runCount 0 = .ok (.aload_n 0, 1) := by decide +kernel
theorem d_T_runCount_1 : decode b_T_runCount 1 = .ok (.getfield 22, 3) := by decide +kernel
theorem d_T_runCount_4 : decode b_T_runCount 4 = .ok (.ireturn, 1) := by decide +kernel
def m_T_runCount (N : Nat) (σ : SX) (i : Nat) : Option (Int32 × SX) :=
  some (((σ (7 + i)).1 1), σ)

set_option maxHeartbeats 4000000 in
set_option maxRecDepth 100000 in
theorem c_T_runCount (l : Launch) (dC : Nat → ClassId) (dI : Nat → Nat → Nat) (ad : Nat → Nat → Nat) (cs : Nat → ClassId) (sz N : Nat) (σ : SX) (i : Nat) (hi : i < 4) {r0 : Int32} {σ0 : SX} (hM : m_T_runCount N σ i = some (r0, σ0)) : Met l y_T_runCount (wd y_T_runCount b_T_runCount 1 (some .int)) ({ frames := 0, cells := 0, slots := 0, locals := 0 }) (va_Pc [.ref (ad (7 + i) 0)] (preX dC dI ad cs sz σ)) (va_Qi (fun (r : Int32) (_ : Unit) => r = r0 ∧ σ = σ0) (fun _ _ => True) (fun q => sz ≤ q)) 0 0 (fun q => sz ≤ q) := by
  refine Met.ofW (cc := b_T_runCount) (maxL := 1) (ret := (some .int)) (by decide) rfl ?_
  intro p e s m args below meth c s₁ B hml hv
  obtain ⟨rfl, hsz, hP, hK, hD0, hN⟩ := hv
  have hx := B.exec
  have hb := B.bytes
  have hr := B.returns
  have hts := atoms_spec (ws := (wd y_T_runCount b_T_runCount 1 (some .int))) B.pre
  have htb : ∀ w ∈ tb, w.before _ s = true := fun w h => hts w (List.mem_cons_of_mem _ h)
  have hown : s.vm.findClass R_T = some m.cls := findClass_of_methodNamed B.named
  have hlocks := B.notSynchronized
  subst hsz
  have hD := hD0
  have hA : ∀ q : Nat, s.heap.size ≤ q → s.heap.size ≤ q := fun q h => h
  have hS : va_S (fun q => s.heap.size ≤ q) s.heap s.heap [] := va_S.rf
  have hP : va_P (dC, dI) classes (wX ad cs σ) s.heap := hP
  have hl := lv_entry ([.ref (ad (7 + i) 0)]) (n := 1) (Nat.le_of_ble_eq_true rfl)
  rw [lg_entry_eq]
  generalize (lg_sl ([.ref (ad (7 + i) 0)]) ++ List.replicate (1 - (lg_sl ([.ref (ad (7 + i) 0)])).length) Slot.unset).toArray = ls at hl ⊢
  have hl : lv_has ls 1 [(0, .ref (ad (7 + i) 0))] := hl
  rw [m_T_runCount] at hM
  refine lv_aload_n hx hb d_T_runCount_0 rfl (lv_at hl 0 rfl) ?_
  refine va_get (D := (dC, dI)) (ci := 6) (v := .int ((σ (7 + i)).1 1)) (C := R_T) (T := F_T) (N := 6) hx hb htb in_T hown hK hP (19 + 3 * i) (g_T hi) rfl 3 (by decide) (htb _ k_132) (fun _ h9 => h9) rfl d_T_runCount_1 ?_
  have e9 := Prod.mk.inj (Option.some.inj hM)
  exact W.iret (v := ((σ (7 + i)).1 1)) hx hb hr (fun t ht hW => ⟨⟨((σ (7 + i)).1 1), (), rfl, e9, trivial⟩, hS.F ht⟩) hS.2.2 d_T_runCount_4

theorem d_O_runs_0 : decode b_O_runs 0 = .ok (.iload_n 1, 1) := by decide +kernel
theorem d_O_runs_1 : decode b_O_runs 1 = .ok (.invokestatic 127, 3) := by decide +kernel
theorem d_O_runs_4 : decode b_O_runs 4 = .ok (.ifCond .eq 15, 3) := by decide +kernel
theorem d_O_runs_7 : decode b_O_runs 7 = .ok (.aload_n 0, 1) := by decide +kernel
theorem d_O_runs_8 : decode b_O_runs 8 = .ok (.getfield 39, 3) := by decide +kernel
theorem d_O_runs_11 : decode b_O_runs 11 = .ok (.iload_n 1, 1) := by decide +kernel
theorem d_O_runs_12 : decode b_O_runs 12 = .ok (.aaload, 1) := by decide +kernel
theorem d_O_runs_13 : decode b_O_runs 13 = .ok (.invokevirtual 143, 3) := by decide +kernel
theorem d_O_runs_16 : decode b_O_runs 16 = .ok (.goto 4, 3) := by decide +kernel
theorem d_O_runs_19 : decode b_O_runs 19 = .ok (.iconst (-1), 1) := by decide +kernel
theorem d_O_runs_20 : decode b_O_runs 20 = .ok (.ireturn, 1) := by decide +kernel
def m_O_runs (N : Nat) (σ : SX) (a1 : Int32) : Option (Int32 × SX) :=
  (bP (m_O_isTape a1) fun r1 => (if r1 = 0 then some ((-1), σ) else (if inb a1 4 = true then (bI (m_T_runCount N σ a1.toNatClampNeg) fun r13 σ13 => some (r13, σ)) else none)))

set_option maxHeartbeats 4000000 in
set_option maxRecDepth 100000 in
theorem c_O_runs (l : Launch) (dC : Nat → ClassId) (dI : Nat → Nat → Nat) (ad : Nat → Nat → Nat) (cs : Nat → ClassId) (sz N : Nat) (σ : SX) (a1 : Int32) {r0 : Int32} {σ0 : SX} (hM : m_O_runs N σ a1 = some (r0, σ0)) : Met l y_O_runs (wd y_O_runs b_O_runs 2 (some .int)) ({ frames := 1, cells := 0, slots := 0, locals := 20 }) (va_Pc [.ref (ad 0 0), .int a1] (preX dC dI ad cs sz σ)) (va_Qi (fun (r : Int32) (_ : Unit) => r = r0 ∧ σ = σ0) (fun _ _ => True) (fun q => sz ≤ q)) 0 0 (fun q => sz ≤ q) := by
  refine Met.ofW (cc := b_O_runs) (maxL := 2) (ret := (some .int)) (by decide) rfl ?_
  intro p e s m args below meth c s₁ B hml hv
  obtain ⟨rfl, hsz, hP, hK, hD0, hN⟩ := hv
  have hx := B.exec
  have hb := B.bytes
  have hr := B.returns
  have hts := atoms_spec (ws := (wd y_O_runs b_O_runs 2 (some .int))) B.pre
  have htb : ∀ w ∈ tb, w.before _ s = true := fun w h => hts w (List.mem_cons_of_mem _ h)
  have hown : s.vm.findClass R_O = some m.cls := findClass_of_methodNamed B.named
  have hlocks := B.notSynchronized
  subst hsz
  have hD := hD0
  have hA : ∀ q : Nat, s.heap.size ≤ q → s.heap.size ≤ q := fun q h => h
  have hS : va_S (fun q => s.heap.size ≤ q) s.heap s.heap [] := va_S.rf
  have hP : va_P (dC, dI) classes (wX ad cs σ) s.heap := hP
  have hl := lv_entry ([.ref (ad 0 0), .int a1]) (n := 2) (Nat.le_of_ble_eq_true rfl)
  rw [lg_entry_eq]
  generalize (lg_sl ([.ref (ad 0 0), .int a1]) ++ List.replicate (2 - (lg_sl ([.ref (ad 0 0), .int a1])).length) Slot.unset).toArray = ls at hl ⊢
  have hl : lv_has ls 2 [(0, .ref (ad 0 0)), (1, .int a1)] := hl
  rw [m_O_runs] at hM
  refine lv_iload_n hx hb d_O_runs_0 rfl (lv_at hl 1 rfl) ?_
  obtain ⟨x1, hq1, hM⟩ := bP_some hM
  refine va_calli (va_runS (As := [.int a1]) (rest := []) ⟨hx, hb, hml, hown, hts⟩ (c_O_isTape l _ a1 hq1) (cwS 1 hts (goodS k_245 k_246 k_1 k_247) rfl rfl rfl ⟨rfl, by decide, by decide, by decide +kernel⟩ ⟨Nat.le_of_ble_eq_true rfl, Nat.le_of_ble_eq_true rfl⟩) ⟨blindS, payS⟩ rfl rfl hl.1 rfl (lv_room (Nat.le_of_ble_eq_true rfl)) d_O_runs_1 ⟨Nat.zero_le _, Nat.zero_le _⟩) hS (fun q h0 h => absurd h0 (Nat.not_lt.mpr h)) (fun q h => hA q (Nat.le_trans hS.1 h)) (fun r1 u t H locs ht hvm hpost hB hz1 hk1 hS => ?_)
  subst hpost
  have hP := keepP hP hk1
  refine lv_if_eq (tgt := 19) hx hb d_O_runs_4 (by decide) (fun h4 => ?_) (fun h4 => ?_)
  · rw [if_pos h4] at hM
    refine lv_iconst (v := (-1)) hx hb d_O_runs_19 (by decide) ?_
    have e9 := Prod.mk.inj (Option.some.inj hM)
    exact W.iret (v := (-1)) hx hb hr (fun t ht hW => ⟨⟨(-1), (), rfl, e9, trivial⟩, hS.F ht⟩) hS.2.2 d_O_runs_20
  · rw [if_neg h4] at hM
    refine lv_aload_n hx hb d_O_runs_7 rfl (lv_at hl 0 rfl) ?_
    refine va_get (D := (dC, dI)) (ci := 0) (v := .ref (ad 0 9)) (C := R_O) (T := F_O) (N := 12) hx hb htb in_O hown hK hP 0 (g_O) rfl 6 (by decide) (htb _ k_154) (fun _ h9 => h9) rfl d_O_runs_8 ?_
    refine lv_iload_n hx hb d_O_runs_11 rfl (lv_at hl 1 rfl) ?_
    have hg12 := gd_c hM
    have hM := gd_v hM
    refine va_aldq hx hb hK hP 18 2 (f := fun i => some (ad (7 + i) 0)) g_tapes rfl (inb_in hg12) d_O_runs_12 ?_
    refine W.eq (g2 := F0 m 13 ls [.ref (ad (7 + a1.toNatClampNeg) 0)]) rfl ?_
    obtain ⟨x13, y13, hq13, hM⟩ := bI_some hM
    refine va_calli (va_runV (As := []) (rest := []) ⟨hx, hb, hml, hown, hts⟩ (c_T_runCount l dC dI ad cs _ N σ a1.toNatClampNeg (inb_lt hg12) hq13) (cwV 0 hts (goodV k_248 k_249 k_250 k_7 k_251) rfl rfl rfl ⟨rfl, by decide, by decide, by decide +kernel⟩ ⟨Nat.le_of_ble_eq_true rfl, Nat.le_of_ble_eq_true rfl⟩) ⟨blindX, va_recv hK hP rfl (g_T (inb_lt hg12)), payX hP hK hD hN⟩ rfl rfl hl.1 rfl (lv_room (Nat.le_of_ble_eq_true rfl)) d_O_runs_13 ⟨Nat.zero_le _, Nat.zero_le _⟩) hS (fun q h0 h => absurd h0 (Nat.not_lt.mpr h)) (fun q h => hA q (Nat.le_trans hS.1 h)) (fun r13 u t H locs ht hvm hpost hB hz1 hk1 hS => ?_)
    obtain ⟨e1, e2⟩ := hpost
    subst e1
    subst e2
    have hP := keepP hP hk1
    refine lv_goto (tgt := 20) hx hb d_O_runs_16 (by decide) ?_
    have e9 := Prod.mk.inj (Option.some.inj hM)
    exact W.iret (v := r13) hx hb hr (fun t ht hW => ⟨⟨r13, (), rfl, e9, trivial⟩, hS.F ht⟩) hS.2.2 d_O_runs_20

theorem d_T_dummyCount_0 : decode b_T_dummyCount 0 = .ok (.aload_n 0, 1) := by decide +kernel
theorem d_T_dummyCount_1 : decode b_T_dummyCount 1 = .ok (.getfield 25, 3) := by decide +kernel
theorem d_T_dummyCount_4 : decode b_T_dummyCount 4 = .ok (.ireturn, 1) := by decide +kernel
def m_T_dummyCount (N : Nat) (σ : SX) (i : Nat) : Option (Int32 × SX) :=
  some (((σ (7 + i)).1 2), σ)

set_option maxHeartbeats 4000000 in
set_option maxRecDepth 100000 in
theorem c_T_dummyCount (l : Launch) (dC : Nat → ClassId) (dI : Nat → Nat → Nat) (ad : Nat → Nat → Nat) (cs : Nat → ClassId) (sz N : Nat) (σ : SX) (i : Nat) (hi : i < 4) {r0 : Int32} {σ0 : SX} (hM : m_T_dummyCount N σ i = some (r0, σ0)) : Met l y_T_dummyCount (wd y_T_dummyCount b_T_dummyCount 1 (some .int)) ({ frames := 0, cells := 0, slots := 0, locals := 0 }) (va_Pc [.ref (ad (7 + i) 0)] (preX dC dI ad cs sz σ)) (va_Qi (fun (r : Int32) (_ : Unit) => r = r0 ∧ σ = σ0) (fun _ _ => True) (fun q => sz ≤ q)) 0 0 (fun q => sz ≤ q) := by
  refine Met.ofW (cc := b_T_dummyCount) (maxL := 1) (ret := (some .int)) (by decide) rfl ?_
  intro p e s m args below meth c s₁ B hml hv
  obtain ⟨rfl, hsz, hP, hK, hD0, hN⟩ := hv
  have hx := B.exec
  have hb := B.bytes
  have hr := B.returns
  have hts := atoms_spec (ws := (wd y_T_dummyCount b_T_dummyCount 1 (some .int))) B.pre
  have htb : ∀ w ∈ tb, w.before _ s = true := fun w h => hts w (List.mem_cons_of_mem _ h)
  have hown : s.vm.findClass R_T = some m.cls := findClass_of_methodNamed B.named
  have hlocks := B.notSynchronized
  subst hsz
  have hD := hD0
  have hA : ∀ q : Nat, s.heap.size ≤ q → s.heap.size ≤ q := fun q h => h
  have hS : va_S (fun q => s.heap.size ≤ q) s.heap s.heap [] := va_S.rf
  have hP : va_P (dC, dI) classes (wX ad cs σ) s.heap := hP
  have hl := lv_entry ([.ref (ad (7 + i) 0)]) (n := 1) (Nat.le_of_ble_eq_true rfl)
  rw [lg_entry_eq]
  generalize (lg_sl ([.ref (ad (7 + i) 0)]) ++ List.replicate (1 - (lg_sl ([.ref (ad (7 + i) 0)])).length) Slot.unset).toArray = ls at hl ⊢
  have hl : lv_has ls 1 [(0, .ref (ad (7 + i) 0))] := hl
  rw [m_T_dummyCount] at hM
  refine lv_aload_n hx hb d_T_dummyCount_0 rfl (lv_at hl 0 rfl) ?_
  refine va_get (D := (dC, dI)) (ci := 6) (v := .int ((σ (7 + i)).1 2)) (C := R_T) (T := F_T) (N := 6) hx hb htb in_T hown hK hP (19 + 3 * i) (g_T hi) rfl 4 (by decide) (htb _ k_133) (fun _ h9 => h9) rfl d_T_dummyCount_1 ?_
  have e9 := Prod.mk.inj (Option.some.inj hM)
  exact W.iret (v := ((σ (7 + i)).1 2)) hx hb hr (fun t ht hW => ⟨⟨((σ (7 + i)).1 2), (), rfl, e9, trivial⟩, hS.F ht⟩) hS.2.2 d_T_dummyCount_4

theorem d_O_dummies_0 : decode b_O_dummies 0 = .ok (.iload_n 1, 1) := by decide +kernel
theorem d_O_dummies_1 : decode b_O_dummies 1 = .ok (.invokestatic 127, 3) := by decide +kernel
theorem d_O_dummies_4 : decode b_O_dummies 4 = .ok (.ifCond .eq 15, 3) := by decide +kernel
theorem d_O_dummies_7 : decode b_O_dummies 7 = .ok (.aload_n 0, 1) := by decide +kernel
theorem d_O_dummies_8 : decode b_O_dummies 8 = .ok (.getfield 39, 3) := by decide +kernel
theorem d_O_dummies_11 : decode b_O_dummies 11 = .ok (.iload_n 1, 1) := by decide +kernel
theorem d_O_dummies_12 : decode b_O_dummies 12 = .ok (.aaload, 1) := by decide +kernel
theorem d_O_dummies_13 : decode b_O_dummies 13 = .ok (.invokevirtual 146, 3) := by decide +kernel
theorem d_O_dummies_16 : decode b_O_dummies 16 = .ok (.goto 4, 3) := by decide +kernel
theorem d_O_dummies_19 : decode b_O_dummies 19 = .ok (.iconst (-1), 1) := by decide +kernel
theorem d_O_dummies_20 : decode b_O_dummies 20 = .ok (.ireturn, 1) := by decide +kernel
def m_O_dummies (N : Nat) (σ : SX) (a1 : Int32) : Option (Int32 × SX) :=
  (bP (m_O_isTape a1) fun r1 => (if r1 = 0 then some ((-1), σ) else (if inb a1 4 = true then (bI (m_T_dummyCount N σ a1.toNatClampNeg) fun r13 σ13 => some (r13, σ)) else none)))

set_option maxHeartbeats 4000000 in
set_option maxRecDepth 100000 in
theorem c_O_dummies (l : Launch) (dC : Nat → ClassId) (dI : Nat → Nat → Nat) (ad : Nat → Nat → Nat) (cs : Nat → ClassId) (sz N : Nat) (σ : SX) (a1 : Int32) {r0 : Int32} {σ0 : SX} (hM : m_O_dummies N σ a1 = some (r0, σ0)) : Met l y_O_dummies (wd y_O_dummies b_O_dummies 2 (some .int)) ({ frames := 1, cells := 0, slots := 0, locals := 20 }) (va_Pc [.ref (ad 0 0), .int a1] (preX dC dI ad cs sz σ)) (va_Qi (fun (r : Int32) (_ : Unit) => r = r0 ∧ σ = σ0) (fun _ _ => True) (fun q => sz ≤ q)) 0 0 (fun q => sz ≤ q) := by
  refine Met.ofW (cc := b_O_dummies) (maxL := 2) (ret := (some .int)) (by decide) rfl ?_
  intro p e s m args below meth c s₁ B hml hv
  obtain ⟨rfl, hsz, hP, hK, hD0, hN⟩ := hv
  have hx := B.exec
  have hb := B.bytes
  have hr := B.returns
  have hts := atoms_spec (ws := (wd y_O_dummies b_O_dummies 2 (some .int))) B.pre
  have htb : ∀ w ∈ tb, w.before _ s = true := fun w h => hts w (List.mem_cons_of_mem _ h)
  have hown : s.vm.findClass R_O = some m.cls := findClass_of_methodNamed B.named
  have hlocks := B.notSynchronized
  subst hsz
  have hD := hD0
  have hA : ∀ q : Nat, s.heap.size ≤ q → s.heap.size ≤ q := fun q h => h
  have hS : va_S (fun q => s.heap.size ≤ q) s.heap s.heap [] := va_S.rf
  have hP : va_P (dC, dI) classes (wX ad cs σ) s.heap := hP
  have hl := lv_entry ([.ref (ad 0 0), .int a1]) (n := 2) (Nat.le_of_ble_eq_true rfl)
  rw [lg_entry_eq]
  generalize (lg_sl ([.ref (ad 0 0), .int a1]) ++ List.replicate (2 - (lg_sl ([.ref (ad 0 0), .int a1])).length) Slot.unset).toArray = ls at hl ⊢
  have hl : lv_has ls 2 [(0, .ref (ad 0 0)), (1, .int a1)] := hl
  rw [m_O_dummies] at hM
  refine lv_iload_n hx hb d_O_dummies_0 rfl (lv_at hl 1 rfl) ?_
  obtain ⟨x1, hq1, hM⟩ := bP_some hM
  refine va_calli (va_runS (As := [.int a1]) (rest := []) ⟨hx, hb, hml, hown, hts⟩ (c_O_isTape l _ a1 hq1) (cwS 1 hts (goodS k_245 k_246 k_1 k_247) rfl rfl rfl ⟨rfl, by decide, by decide, by decide +kernel⟩ ⟨Nat.le_of_ble_eq_true rfl, Nat.le_of_ble_eq_true rfl⟩) ⟨blindS, payS⟩ rfl rfl hl.1 rfl (lv_room (Nat.le_of_ble_eq_true rfl)) d_O_dummies_1 ⟨Nat.zero_le _, Nat.zero_le _⟩) hS (fun q h0 h => absurd h0 (Nat.not_lt.mpr h)) (fun q h => hA q (Nat.le_trans hS.1 h)) (fun r1 u t H locs ht hvm hpost hB hz1 hk1 hS => ?_)
  subst hpost
  have hP := keepP hP hk1
  refine lv_if_eq (tgt := 19) hx hb d_O_dummies_4 (by decide) (fun h4 => ?_) (fun h4 => ?_)
  · rw [if_pos h4] at hM
    refine lv_iconst (v := (-1)) hx hb d_O_dummies_19 (by decide) ?_
    have e9 := Prod.mk.inj (Option.some.inj hM)
    exact W.iret (v := (-1)) hx hb hr (fun t ht hW => ⟨⟨(-1), (), rfl, e9, trivial⟩, hS.F ht⟩) hS.2.2 d_O_dummies_20
  · rw [if_neg h4] at hM
    refine lv_aload_n hx hb d_O_dummies_7 rfl (lv_at hl 0 rfl) ?_
    refine va_get (D := (dC, dI)) (ci := 0) (v := .ref (ad 0 9)) (C := R_O) (T := F_O) (N := 12) hx hb htb in_O hown hK hP 0 (g_O) rfl 6 (by decide) (htb _ k_154) (fun _ h9 => h9) rfl d_O_dummies_8 ?_
    refine lv_iload_n hx hb d_O_dummies_11 rfl (lv_at hl 1 rfl) ?_
    have hg12 := gd_c hM
    have hM := gd_v hM
    refine va_aldq hx hb hK hP 18 2 (f := fun i => some (ad (7 + i) 0)) g_tapes rfl (inb_in hg12) d_O_dummies_12 ?_
    refine W.eq (g2 := F0 m 13 ls [.ref (ad (7 + a1.toNatClampNeg) 0)]) rfl ?_
    obtain ⟨x13, y13, hq13, hM⟩ := bI_some hM
    refine va_calli (va_runV (As := []) (rest := []) ⟨hx, hb, hml, hown, hts⟩ (c_T_dummyCount l dC dI ad cs _ N σ a1.toNatClampNeg (inb_lt hg12) hq13) (cwV 0 hts (goodV k_256 k_257 k_258 k_7 k_259) rfl rfl rfl ⟨rfl, by decide, by decide, by decide +kernel⟩ ⟨Nat.le_of_ble_eq_true rfl, Nat.le_of_ble_eq_true rfl⟩) ⟨blindX, va_recv hK hP rfl (g_T (inb_lt hg12)), payX hP hK hD hN⟩ rfl rfl hl.1 rfl (lv_room (Nat.le_of_ble_eq_true rfl)) d_O_dummies_13 ⟨Nat.zero_le _, Nat.zero_le _⟩) hS (fun q h0 h => absurd h0 (Nat.not_lt.mpr h)) (fun q h => hA q (Nat.le_trans hS.1 h)) (fun r13 u t H locs ht hvm hpost hB hz1 hk1 hS => ?_)
    obtain ⟨e1, e2⟩ := hpost
    subst e1
    subst e2
    have hP := keepP hP hk1
    refine lv_goto (tgt := 20) hx hb d_O_dummies_16 (by decide) ?_
    have e9 := Prod.mk.inj (Option.some.inj hM)
    exact W.iret (v := r13) hx hb hr (fun t ht hW => ⟨⟨r13, (), rfl, e9, trivial⟩, hS.F ht⟩) hS.2.2 d_O_dummies_20

theorem d_O_role_0 : decode b_O_role 0 = .ok (.aload_n 0, 1) := by decide +kernel
theorem d_O_role_1 : decode b_O_role 1 = .ok (.getfield 53, 3) := by decide +kernel
theorem d_O_role_4 : decode b_O_role 4 = .ok (.ifCond .ne 5, 3) := by decide +kernel
theorem d_O_role_7 : decode b_O_role 7 = .ok (.iconst (-1), 1) := by decide +kernel
theorem d_O_role_8 : decode b_O_role 8 = .ok (.ireturn, 1) := by decide +kernel
theorem d_O_role_9 : decode b_O_role 9 = .ok (.iconst 0, 1) := by decide +kernel
theorem d_O_role_10 : decode b_O_role 10 = .ok (.istore_n 2, 1) := by decide +kernel
theorem d_O_role_11 : decode b_O_role 11 = .ok (.iload_n 2, 1) := by decide +kernel
theorem d_O_role_12 : decode b_O_role 12 = .ok (.iconst 4, 1) := by decide +kernel
theorem d_O_role_13 : decode b_O_role 13 = .ok (.if_icmp .ge 21, 3) := by decide +kernel
theorem d_O_role_16 : decode b_O_role 16 = .ok (.aload_n 0, 1) := by decide +kernel
theorem d_O_role_17 : decode b_O_role 17 = .ok (.getfield 43, 3) := by decide +kernel
theorem d_O_role_20 : decode b_O_role 20 = .ok (.iload_n 2, 1) := by decide +kernel
theorem d_O_role_21 : decode b_O_role 21 = .ok (.iaload, 1) := by decide +kernel
theorem d_O_role_22 : decode b_O_role 22 = .ok (.iload_n 1, 1) := by decide +kernel
theorem d_O_role_23 : decode b_O_role 23 = .ok (.if_icmp .ne 5, 3) := by decide +kernel
theorem d_O_role_26 : decode b_O_role 26 = .ok (.iload_n 2, 1) := by decide +kernel
theorem d_O_role_27 : decode b_O_role 27 = .ok (.ireturn, 1) := by decide +kernel
theorem d_O_role_28 : decode b_O_role 28 = .ok (.iinc 2 1, 3) := by decide +kernel
theorem d_O_role_31 : decode b_O_role 31 = .ok (.goto (-20), 3) := by decide +kernel
theorem d_O_role_34 : decode b_O_role 34 = .ok (.iconst (-1), 1) := by decide +kernel
theorem d_O_role_35 : decode b_O_role 35 = .ok (.ireturn, 1) := by decide +kernel
def m_O_role_11 (N : Nat) : Nat → SX → Int32 → Int32 → Option (Int32 × SX)
  | 0, _, _, _ => none
  | n11 + 1, σ, v1, v2 =>
    (if 4 ≤ v2 then some ((-1), σ) else (if inb v2 4 = true then (if ((σ 0).2 1 v2.toNatClampNeg) = v1 then some (v2, σ) else m_O_role_11 N n11 σ v1 (v2 + 1)) else none))

def m_O_role (N : Nat) (σ : SX) (a1 : Int32) : Option (Int32 × SX) :=
  (if ((σ 0).1 0) = 0 then some ((-1), σ) else m_O_role_11 N N σ a1 0)

set_option maxHeartbeats 4000000 in
set_option maxRecDepth 100000 in
theorem c_O_role (l : Launch) (dC : Nat → ClassId) (dI : Nat → Nat → Nat) (ad : Nat → Nat → Nat) (cs : Nat → ClassId) (sz N : Nat) (σ : SX) (a1 : Int32) {r0 : Int32} {σ0 : SX} (hM : m_O_role N σ a1 = some (r0, σ0)) : Met l y_O_role (wd y_O_role b_O_role 3 (some .int)) ({ frames := 0, cells := 0, slots := 0, locals := 0 }) (va_Pc [.ref (ad 0 0), .int a1] (preX dC dI ad cs sz σ)) (va_Qi (fun (r : Int32) (_ : Unit) => r = r0 ∧ σ = σ0) (fun _ _ => True) (fun q => sz ≤ q)) 0 0 (fun q => sz ≤ q) := by
  refine Met.ofW (cc := b_O_role) (maxL := 3) (ret := (some .int)) (by decide) rfl ?_
  intro p e s m args below meth c s₁ B hml hv
  obtain ⟨rfl, hsz, hP, hK, hD0, hN⟩ := hv
  have hx := B.exec
  have hb := B.bytes
  have hr := B.returns
  have hts := atoms_spec (ws := (wd y_O_role b_O_role 3 (some .int))) B.pre
  have htb : ∀ w ∈ tb, w.before _ s = true := fun w h => hts w (List.mem_cons_of_mem _ h)
  have hown : s.vm.findClass R_O = some m.cls := findClass_of_methodNamed B.named
  have hlocks := B.notSynchronized
  subst hsz
  have hD := hD0
  have hA : ∀ q : Nat, s.heap.size ≤ q → s.heap.size ≤ q := fun q h => h
  have hS : va_S (fun q => s.heap.size ≤ q) s.heap s.heap [] := va_S.rf
  have hP : va_P (dC, dI) classes (wX ad cs σ) s.heap := hP
  have hl := lv_entry ([.ref (ad 0 0), .int a1]) (n := 3) (Nat.le_of_ble_eq_true rfl)
  rw [lg_entry_eq]
  generalize (lg_sl ([.ref (ad 0 0), .int a1]) ++ List.replicate (3 - (lg_sl ([.ref (ad 0 0), .int a1])).length) Slot.unset).toArray = ls at hl ⊢
  have hl : lv_has ls 3 [(0, .ref (ad 0 0)), (1, .int a1)] := hl
  rw [m_O_role] at hM
  refine W_loop (pc := 11) (fun n11 H locs ls st => ∃ (v1 : Int32) (v2 : Int32), st = [] ∧ m_O_role_11 N n11 σ v1 v2 = some (r0, σ0) ∧ lv_has ls 3 [(0, .ref (ad 0 0)), (1, .int v1), (2, .int v2)] ∧ va_P (dC, dI) classes (wX ad cs σ) H ∧ va_D (fun _ => True) (wX ad cs σ) ∧ va_S (fun q => s.heap.size ≤ q) s.heap H locs) ?_ ?_ ?_
  · rintro H locs ls st ⟨v1, v2, -, hM, -⟩
    rw [m_O_role_11] at hM; cases hM
  · intro n11 K11 H locs ls st hI
    obtain ⟨v1, v2, rfl, hM, hl, hP, hD, hS⟩ := hI
    rw [m_O_role_11] at hM
    refine lv_iload_n hx hb d_O_role_11 rfl (lv_at hl 2 rfl) ?_
    refine lv_iconst (v := 4) hx hb d_O_role_12 (by decide) ?_
    refine lv_icmp_ge (tgt := 34) hx hb d_O_role_13 (by decide) (fun h13 => ?_) (fun h13 => ?_)
    · rw [if_pos h13] at hM
      refine lv_iconst (v := (-1)) hx hb d_O_role_34 (by decide) ?_
      have e9 := Prod.mk.inj (Option.some.inj hM)
      exact W.iret (v := (-1)) hx hb hr (fun t ht hW => ⟨⟨(-1), (), rfl, e9, trivial⟩, hS.F ht⟩) hS.2.2 d_O_role_35
    · rw [if_neg h13] at hM
      refine lv_aload_n hx hb d_O_role_16 rfl (lv_at hl 0 rfl) ?_
      refine va_get (D := (dC, dI)) (ci := 0) (v := .ref (ad 0 1)) (C := R_O) (T := F_O) (N := 12) hx hb htb in_O hown hK hP 0 (g_O) rfl 7 (by decide) (htb _ k_155) (fun _ h9 => h9) rfl d_O_role_17 ?_
      refine lv_iload_n hx hb d_O_role_20 rfl (lv_at hl 2 rfl) ?_
      have hg21 := gd_c hM
      have hM := gd_v hM
      refine va_iald hx hb hK hP 31 0 (g_O_a1) rfl (inb_in hg21) d_O_role_21 ?_
      refine lv_iload_n hx hb d_O_role_22 rfl (lv_at hl 1 rfl) ?_
      refine lv_icmp_ne (tgt := 28) hx hb d_O_role_23 (by decide) (fun h23 => ?_) (fun h23 => ?_)
      · rw [if_neg h23] at hM
        refine lv_iinc (k := 2) (v := (v2 + 1)) hx hb d_O_role_28 hl rfl rfl (by decide) (lv' := [(2, .int (v2 + 1)), (0, .ref (ad 0 0)), (1, .int v1)]) rfl (fun ls hl => ?_)
        refine lv_goto (tgt := 11) hx hb d_O_role_31 (by decide) ?_
        exact K11 _ _ _ _ ⟨v1, (v2 + 1), rfl, hM, lv_sub hl [1, 2, 0] rfl, hP, hD, hS⟩
      · rw [if_pos h23] at hM
        refine lv_iload_n hx hb d_O_role_26 rfl (lv_at hl 2 rfl) ?_
        have e9 := Prod.mk.inj (Option.some.inj hM)
        exact W.iret (v := v2) hx hb hr (fun t ht hW => ⟨⟨v2, (), rfl, e9, trivial⟩, hS.F ht⟩) hS.2.2 d_O_role_27
  intro K11
  refine lv_aload_n hx hb d_O_role_0 rfl (lv_at hl 0 rfl) ?_
  refine va_get (D := (dC, dI)) (ci := 0) (v := .int ((σ 0).1 0)) (C := R_O) (T := F_O) (N := 12) hx hb htb in_O hown hK hP 0 (g_O) rfl 10 (by decide) (htb _ k_158) (fun _ h9 => h9) rfl d_O_role_1 ?_
  refine lv_if_ne (tgt := 9) hx hb d_O_role_4 (by decide) (fun h4 => ?_) (fun h4 => ?_)
  · rw [if_neg h4] at hM
    refine lv_iconst (v := 0) hx hb d_O_role_9 (by decide) ?_
    refine lv_istore_n hx hb d_O_role_10 rfl hl (by decide) (lv' := [(2, .int 0), (0, .ref (ad 0 0)), (1, .int a1)]) rfl (fun ls hl => ?_)
    exact K11 N _ _ _ _ ⟨a1, 0, rfl, hM, lv_sub hl [1, 2, 0] rfl, hP, hD, hS⟩
  · rw [if_pos h4] at hM
    refine lv_iconst (v := (-1)) hx hb d_O_role_7 (by decide) ?_
    have e9 := Prod.mk.inj (Option.some.inj hM)
    exact W.iret (v := (-1)) hx hb hr (fun t ht hW => ⟨⟨(-1), (), rfl, e9, trivial⟩, hS.F ht⟩) hS.2.2 d_O_role_8

theorem d_T_runLength_0 : decode b_T_runLength 0 = .ok (.iload_n 1, 1) := by decide +kernel
theorem d_T_runLength_1 : decode b_T_runLength 1 = .ok (.ifCond .lt 20, 3) := by decide +kernel
theorem d_T_runLength_4 : decode b_T_runLength 4 = .ok (.iload_n 1, 1) := by decide +kernel
theorem d_T_runLength_5 : decode b_T_runLength 5 = .ok (.aload_n 0, 1) := by decide +kernel
theorem d_T_runLength_6 : decode b_T_runLength 6 = .ok (.getfield 22, 3) := by decide +kernel
theorem d_T_runLength_9 : decode b_T_runLength 9 = .ok (.if_icmp .ge 12, 3) := by decide +kernel
theorem d_T_runLength_12 : decode b_T_runLength 12 = .ok (.aload_n 0, 1) := by decide +kernel
theorem d_T_runLength_13 : decode b_T_runLength 13 = .ok (.getfield 15, 3) := by decide +kernel
theorem d_T_runLength_16 : decode b_T_runLength 16 = .ok (.iload_n 1, 1) := by decide +kernel
theorem d_T_runLength_17 : decode b_T_runLength 17 = .ok (.iaload, 1) := by decide +kernel
theorem d_T_runLength_18 : decode b_T_runLength 18 = .ok (.goto 4, 3) := by decide +kernel
theorem d_T_runLength_21 : decode b_T_runLength 21 = .ok (.iconst (-1), 1) := by decide +kernel
theorem d_T_runLength_22 : decode b_T_runLength 22 = .ok (.ireturn, 1) := by decide +kernel
def m_T_runLength (N : Nat) (σ : SX) (i : Nat) (a1 : Int32) : Option (Int32 × SX) :=
  (if a1 < 0 then some ((-1), σ) else (if ((σ (7 + i)).1 1) ≤ a1 then some ((-1), σ) else (if inb a1 150 = true then some (((σ (7 + i)).2 2 a1.toNatClampNeg), σ) else none)))

set_option maxHeartbeats 4000000 in
set_option maxRecDepth 100000 in
theorem c_T_runLength (l : Launch) (dC : Nat → ClassId) (dI : Nat → Nat → Nat) (ad : Nat → Nat → Nat) (cs : Nat → ClassId) (sz N : Nat) (σ : SX) (i : Nat) (hi : i < 4) (a1 : Int32) {r0 : Int32} {σ0 : SX} (hM : m_T_runLength N σ i a1 = some (r0, σ0)) : Met l y_T_runLength (wd y_T_runLength b_T_runLength 2 (some .int)) ({ frames := 0, cells := 0, slots := 0, locals := 0 }) (va_Pc [.ref (ad (7 + i) 0), .int a1] (preX dC dI ad cs sz σ)) (va_Qi (fun (r : Int32) (_ : Unit) => r = r0 ∧ σ = σ0) (fun _ _ => True) (fun q => sz ≤ q)) 0 0 (fun q => sz ≤ q) := by
  refine Met.ofW (cc := b_T_runLength) (maxL := 2) (ret := (some .int)) (by decide) rfl ?_
  intro p e s m args below meth c s₁ B hml hv
  obtain ⟨rfl, hsz, hP, hK, hD0, hN⟩ := hv
  have hx := B.exec
  have hb := B.bytes
  have hr := B.returns
  have hts := atoms_spec (ws := (wd y_T_runLength b_T_runLength 2 (some .int))) B.pre
  have htb : ∀ w ∈ tb, w.before _ s = true := fun w h => hts w (List.mem_cons_of_mem _ h)
  have hown : s.vm.findClass R_T = some m.cls := findClass_of_methodNamed B.named
  have hlocks := B.notSynchronized
  subst hsz
  have hD := hD0
  have hA : ∀ q : Nat, s.heap.size ≤ q → s.heap.size ≤ q := fun q h => h
  have hS : va_S (fun q => s.heap.size ≤ q) s.heap s.heap [] := va_S.rf
  have hP : va_P (dC, dI) classes (wX ad cs σ) s.heap := hP
  have hl := lv_entry ([.ref (ad (7 + i) 0), .int a1]) (n := 2) (Nat.le_of_ble_eq_true rfl)
  rw [lg_entry_eq]
  generalize (lg_sl ([.ref (ad (7 + i) 0), .int a1]) ++ List.replicate (2 - (lg_sl ([.ref (ad (7 + i) 0), .int a1])).length) Slot.unset).toArray = ls at hl ⊢
  have hl : lv_has ls 2 [(0, .ref (ad (7 + i) 0)), (1, .int a1)] := hl
  rw [m_T_runLength] at hM
  refine lv_iload_n hx hb d_T_runLength_0 rfl (lv_at hl 1 rfl) ?_
  refine lv_if_lt (tgt := 21) hx hb d_T_runLength_1 (by decide) (fun h1 => ?_) (fun h1 => ?_)
  · rw [if_pos h1] at hM
    refine lv_iconst (v := (-1)) hx hb d_T_runLength_21 (by decide) ?_
    have e9 := Prod.mk.inj (Option.some.inj hM)
    exact W.iret (v := (-1)) hx hb hr (fun t ht hW => ⟨⟨(-1), (), rfl, e9, trivial⟩, hS.F ht⟩) hS.2.2 d_T_runLength_22
  · rw [if_neg h1] at hM
    refine lv_iload_n hx hb d_T_runLength_4 rfl (lv_at hl 1 rfl) ?_
    refine lv_aload_n hx hb d_T_runLength_5 rfl (lv_at hl 0 rfl) ?_
    refine va_get (D := (dC, dI)) (ci := 6) (v := .int ((σ (7 + i)).1 1)) (C := R_T) (T := F_T) (N := 6) hx hb htb in_T hown hK hP (19 + 3 * i) (g_T hi) rfl 3 (by decide) (htb _ k_132) (fun _ h9 => h9) rfl d_T_runLength_6 ?_
    refine lv_icmp_ge (tgt := 21) hx hb d_T_runLength_9 (by decide) (fun h9 => ?_) (fun h9 => ?_)
    · rw [if_pos h9] at hM
      refine lv_iconst (v := (-1)) hx hb d_T_runLength_21 (by decide) ?_
      have e9 := Prod.mk.inj (Option.some.inj hM)
      exact W.iret (v := (-1)) hx hb hr (fun t ht hW => ⟨⟨(-1), (), rfl, e9, trivial⟩, hS.F ht⟩) hS.2.2 d_T_runLength_22
    · rw [if_neg h9] at hM
      refine lv_aload_n hx hb d_T_runLength_12 rfl (lv_at hl 0 rfl) ?_
      refine va_get (D := (dC, dI)) (ci := 6) (v := .ref (ad (7 + i) 2)) (C := R_T) (T := F_T) (N := 6) hx hb htb in_T hown hK hP (19 + 3 * i) (g_T hi) rfl 1 (by decide) (htb _ k_130) (fun _ h9 => h9) rfl d_T_runLength_13 ?_
      refine lv_iload_n hx hb d_T_runLength_16 rfl (lv_at hl 1 rfl) ?_
      have hg17 := gd_c hM
      have hM := gd_v hM
      refine va_iald hx hb hK hP (19 + 3 * i + 2) 0 (g_T_a2 hi) rfl (inb_in hg17) d_T_runLength_17 ?_
      refine lv_goto (tgt := 22) hx hb d_T_runLength_18 (by decide) ?_
      have e9 := Prod.mk.inj (Option.some.inj hM)
      exact W.iret (v := ((σ (7 + i)).2 2 a1.toNatClampNeg)) hx hb hr (fun t ht hW => ⟨⟨((σ (7 + i)).2 2 a1.toNatClampNeg), (), rfl, e9, trivial⟩, hS.F ht⟩) hS.2.2 d_T_runLength_22

theorem d_O_length_0 : decode b_O_length 0 = .ok (.iload_n 1, 1) := by decide +kernel
theorem d_O_length_1 : decode b_O_length 1 = .ok (.invokestatic 127, 3) := by decide +kernel
theorem d_O_length_4 : decode b_O_length 4 = .ok (.ifCond .eq 16, 3) := by decide +kernel
theorem d_O_length_7 : decode b_O_length 7 = .ok (.aload_n 0, 1) := by decide +kernel
theorem d_O_length_8 : decode b_O_length 8 = .ok (.getfield 39, 3) := by decide +kernel
theorem d_O_length_11 : decode b_O_length 11 = .ok (.iload_n 1, 1) := by decide +kernel
theorem d_O_length_12 : decode b_O_length 12 = .ok (.aaload, 1) := by decide +kernel
theorem d_O_length_13 : decode b_O_length 13 = .ok (.iload_n 2, 1) := by decide +kernel
theorem d_O_length_14 : decode b_O_length 14 = .ok (.invokevirtual 149, 3) := by decide +kernel
theorem d_O_length_17 : decode b_O_length 17 = .ok (.goto 4, 3) := by decide +kernel
theorem d_O_length_20 : decode b_O_length 20 = .ok (.iconst (-1), 1) := by decide +kernel
theorem d_O_length_21 : decode b_O_length 21 = .ok (.ireturn, 1) := by decide +kernel
def m_O_length (N : Nat) (σ : SX) (a1 : Int32) (a2 : Int32) : Option (Int32 × SX) :=
  (bP (m_O_isTape a1) fun r1 => (if r1 = 0 then some ((-1), σ) else (if inb a1 4 = true then (bI (m_T_runLength N σ a1.toNatClampNeg a2) fun r14 σ14 => some (r14, σ)) else none)))

set_option maxHeartbeats 4000000 in
set_option maxRecDepth 100000 in
theorem c_O_length (l : Launch) (dC : Nat → ClassId) (dI : Nat → Nat → Nat) (ad : Nat → Nat → Nat) (cs : Nat → ClassId) (sz N : Nat) (σ : SX) (a1 : Int32) (a2 : Int32) {r0 : Int32} {σ0 : SX} (hM : m_O_length N σ a1 a2 = some (r0, σ0)) : Met l y_O_length (wd y_O_length b_O_length 3 (some .int)) ({ frames := 1, cells := 0, slots := 0, locals := 21 }) (va_Pc [.ref (ad 0 0), .int a1, .int a2] (preX dC dI ad cs sz σ)) (va_Qi (fun (r : Int32) (_ : Unit) => r = r0 ∧ σ = σ0) (fun _ _ => True) (fun q => sz ≤ q)) 0 0 (fun q => sz ≤ q) := by
  refine Met.ofW (cc := b_O_length) (maxL := 3) (ret := (some .int)) (by decide) rfl ?_
  intro p e s m args below meth c s₁ B hml hv
  obtain ⟨rfl, hsz, hP, hK, hD0, hN⟩ := hv
  have hx := B.exec
  have hb := B.bytes
  have hr := B.returns
  have hts := atoms_spec (ws := (wd y_O_length b_O_length 3 (some .int))) B.pre
  have htb : ∀ w ∈ tb, w.before _ s = true := fun w h => hts w (List.mem_cons_of_mem _ h)
  have hown : s.vm.findClass R_O = some m.cls := findClass_of_methodNamed B.named
  have hlocks := B.notSynchronized
  subst hsz
  have hD := hD0
  have hA : ∀ q : Nat, s.heap.size ≤ q → s.heap.size ≤ q := fun q h => h
  have hS : va_S (fun q => s.heap.size ≤ q) s.heap s.heap [] := va_S.rf
  have hP : va_P (dC, dI) classes (wX ad cs σ) s.heap := hP
  have hl := lv_entry ([.ref (ad 0 0), .int a1, .int a2]) (n := 3) (Nat.le_of_ble_eq_true rfl)
  rw [lg_entry_eq]
  generalize (lg_sl ([.ref (ad 0 0), .int a1, .int a2]) ++ List.replicate (3 - (lg_sl ([.ref (ad 0 0), .int a1, .int a2])).length) Slot.unset).toArray = ls at hl ⊢
  have hl : lv_has ls 3 [(0, .ref (ad 0 0)), (1, .int a1), (2, .int a2)] := hl
  rw [m_O_length] at hM
  refine lv_iload_n hx hb d_O_length_0 rfl (lv_at hl 1 rfl) ?_
  obtain ⟨x1, hq1, hM⟩ := bP_some hM
  refine va_calli (va_runS (As := [.int a1]) (rest := []) ⟨hx, hb, hml, hown, hts⟩ (c_O_isTape l _ a1 hq1) (cwS 1 hts (goodS k_245 k_246 k_1 k_247) rfl rfl rfl ⟨rfl, by decide, by decide, by decide +kernel⟩ ⟨Nat.le_of_ble_eq_true rfl, Nat.le_of_ble_eq_true rfl⟩) ⟨blindS, payS⟩ rfl rfl hl.1 rfl (lv_room (Nat.le_of_ble_eq_true rfl)) d_O_length_1 ⟨Nat.zero_le _, Nat.zero_le _⟩) hS (fun q h0 h => absurd h0 (Nat.not_lt.mpr h)) (fun q h => hA q (Nat.le_trans hS.1 h)) (fun r1 u t H locs ht hvm hpost hB hz1 hk1 hS => ?_)
  subst hpost
  have hP := keepP hP hk1
  refine lv_if_eq (tgt := 20) hx hb d_O_length_4 (by decide) (fun h4 => ?_) (fun h4 => ?_)
  · rw [if_pos h4] at hM
    refine lv_iconst (v := (-1)) hx hb d_O_length_20 (by decide) ?_
    have e9 := Prod.mk.inj (Option.some.inj hM)
    exact W.iret (v := (-1)) hx hb hr (fun t ht hW => ⟨⟨(-1), (), rfl, e9, trivial⟩, hS.F ht⟩) hS.2.2 d_O_length_21
  · rw [if_neg h4] at hM
    refine lv_aload_n hx hb d_O_length_7 rfl (lv_at hl 0 rfl) ?_
    refine va_get (D := (dC, dI)) (ci := 0) (v := .ref (ad 0 9)) (C := R_O) (T := F_O) (N := 12) hx hb htb in_O hown hK hP 0 (g_O) rfl 6 (by decide) (htb _ k_154) (fun _ h9 => h9) rfl d_O_length_8 ?_
    refine lv_iload_n hx hb d_O_length_11 rfl (lv_at hl 1 rfl) ?_
    have hg12 := gd_c hM
    have hM := gd_v hM
    refine va_aldq hx hb hK hP 18 2 (f := fun i => some (ad (7 + i) 0)) g_tapes rfl (inb_in hg12) d_O_length_12 ?_
    refine W.eq (g2 := F0 m 13 ls [.ref (ad (7 + a1.toNatClampNeg) 0)]) rfl ?_
    refine lv_iload_n hx hb d_O_length_13 rfl (lv_at hl 2 rfl) ?_
    obtain ⟨x14, y14, hq14, hM⟩ := bI_some hM
    refine va_calli (va_runV (As := [.int a2]) (rest := []) ⟨hx, hb, hml, hown, hts⟩ (c_T_runLength l dC dI ad cs _ N σ a1.toNatClampNeg (inb_lt hg12) a2 hq14) (cwV 1 hts (goodV k_268 k_269 k_270 k_7 k_271) rfl rfl rfl ⟨rfl, by decide, by decide, by decide +kernel⟩ ⟨Nat.le_of_ble_eq_true rfl, Nat.le_of_ble_eq_true rfl⟩) ⟨blindX, va_recv hK hP rfl (g_T (inb_lt hg12)), payX hP hK hD hN⟩ rfl rfl hl.1 rfl (lv_room (Nat.le_of_ble_eq_true rfl)) d_O_length_14 ⟨Nat.zero_le _, Nat.zero_le _⟩) hS (fun q h0 h => absurd h0 (Nat.not_lt.mpr h)) (fun q h => hA q (Nat.le_trans hS.1 h)) (fun r14 u t H locs ht hvm hpost hB hz1 hk1 hS => ?_)
    obtain ⟨e1, e2⟩ := hpost
    subst e1
    subst e2
    have hP := keepP hP hk1
    refine lv_goto (tgt := 21) hx hb d_O_length_17 (by decide) ?_
    have e9 := Prod.mk.inj (Option.some.inj hM)
    exact W.iret (v := r14) hx hb hr (fun t ht hW => ⟨⟨r14, (), rfl, e9, trivial⟩, hS.F ht⟩) hS.2.2 d_O_length_21

theorem d_T_cardOfRun_0 : decode b_T_cardOfRun 0 = .ok (.iload_n 2, 1) := by decide +kernel
theorem d_T_cardOfRun_1 : decode b_T_cardOfRun 1 = .ok (.ifCond .lt 12, 3) := by decide +kernel
theorem d_T_cardOfRun_4 : decode b_T_cardOfRun 4 = .ok (.iload_n 2, 1) := by decide +kernel
theorem d_T_cardOfRun_5 : decode b_T_cardOfRun 5 = .ok (.aload_n 0, 1) := by decide +kernel
theorem d_T_cardOfRun_6 : decode b_T_cardOfRun 6 = .ok (.iload_n 1, 1) := by decide +kernel
theorem d_T_cardOfRun_7 : decode b_T_cardOfRun 7 = .ok (.invokevirtual 31, 3) := by decide +kernel
theorem d_T_cardOfRun_10 : decode b_T_cardOfRun 10 = .ok (.if_icmp .lt 5, 3) := by decide +kernel
theorem d_T_cardOfRun_13 : decode b_T_cardOfRun 13 = .ok (.iconst (-1), 1) := by decide +kernel
theorem d_T_cardOfRun_14 : decode b_T_cardOfRun 14 = .ok (.ireturn, 1) := by decide +kernel
theorem d_T_cardOfRun_15 : decode b_T_cardOfRun 15 = .ok (.iconst 0, 1) := by decide +kernel
theorem d_T_cardOfRun_16 : decode b_T_cardOfRun 16 = .ok (.istore_n 3, 1) := by decide +kernel
theorem d_T_cardOfRun_17 : decode b_T_cardOfRun 17 = .ok (.iconst 0, 1) := by decide +kernel
theorem d_T_cardOfRun_18 : decode b_T_cardOfRun 18 = .ok (.istore 4, 2) := by decide +kernel
theorem d_T_cardOfRun_20 : decode b_T_cardOfRun 20 = .ok (.iload 4, 2) := by decide +kernel
theorem d_T_cardOfRun_22 : decode b_T_cardOfRun 22 = .ok (.iload_n 1, 1) := by decide +kernel
theorem d_T_cardOfRun_23 : decode b_T_cardOfRun 23 = .ok (.if_icmp .ge 19, 3) := by decide +kernel
theorem d_T_cardOfRun_26 : decode b_T_cardOfRun 26 = .ok (.iload_n 3, 1) := by decide +kernel
theorem d_T_cardOfRun_27 : decode b_T_cardOfRun 27 = .ok (.aload_n 0, 1) := by decide +kernel
theorem d_T_cardOfRun_28 : decode b_T_cardOfRun 28 = .ok (.getfield 15, 3) := by decide +kernel
theorem d_T_cardOfRun_31 : decode b_T_cardOfRun 31 = .ok (.iload 4, 2) := by decide +kernel
theorem d_T_cardOfRun_33 : decode b_T_cardOfRun 33 = .ok (.iaload, 1) := by decide +kernel
theorem d_T_cardOfRun_34 : decode b_T_cardOfRun 34 = .ok (.iadd, 1) := by decide +kernel
theorem d_T_cardOfRun_35 : decode b_T_cardOfRun 35 = .ok (.istore_n 3, 1) := by decide +kernel
theorem d_T_cardOfRun_36 : decode b_T_cardOfRun 36 = .ok (.iinc 4 1, 3) := by decide +kernel
theorem d_T_cardOfRun_39 : decode b_T_cardOfRun 39 = .ok (.goto (-19), 3) := by decide +kernel
theorem d_T_cardOfRun_42 : decode b_T_cardOfRun 42 = .ok (.aload_n 0, 1) := by decide +kernel
theorem d_T_cardOfRun_43 : decode b_T_cardOfRun 43 = .ok (.getfield 9, 3) := by decide +kernel
theorem d_T_cardOfRun_46 : decode b_T_cardOfRun 46 = .ok (.iload_n 3, 1) := by decide +kernel
theorem d_T_cardOfRun_47 : decode b_T_cardOfRun 47 = .ok (.iload_n 2, 1) := by decide +kernel
theorem d_T_cardOfRun_48 : decode b_T_cardOfRun 48 = .ok (.iadd, 1) := by decide +kernel
theorem d_T_cardOfRun_49 : decode b_T_cardOfRun 49 = .ok (.iaload, 1) := by decide +kernel
theorem d_T_cardOfRun_50 : decode b_T_cardOfRun 50 = .ok (.ireturn, 1) := by decide +kernel
def m_T_cardOfRun_20 (N : Nat) (i : Nat) : Nat → SX → Int32 → Int32 → Int32 → Int32 → Option (Int32 × SX)
  | 0, _, _, _, _, _ => none
  | n20 + 1, σ, v1, v2, v3, v4 =>
    (if v1 ≤ v4 then (if inb (v3 + v2) 150 = true then some (((σ (7 + i)).2 1 (v3 + v2).toNatClampNeg), σ) else none) else (if inb v4 150 = true then m_T_cardOfRun_20 N i n20 σ v1 v2 (v3 + ((σ (7 + i)).2 2 v4.toNatClampNeg)) (v4 + 1) else none))

def m_T_cardOfRun (N : Nat) (σ : SX) (i : Nat) (a1 : Int32) (a2 : Int32) : Option (Int32 × SX) :=
  (if a2 < 0 then some ((-1), σ) else (bI (m_T_runLength N σ i a1) fun r7 σ7 => (if a2 < r7 then m_T_cardOfRun_20 N i N σ a1 a2 0 0 else some ((-1), σ))))

set_option maxHeartbeats 4000000 in
set_option maxRecDepth 100000 in
theorem c_T_cardOfRun (l : Launch) (dC : Nat → ClassId) (dI : Nat → Nat → Nat) (ad : Nat → Nat → Nat) (cs : Nat → ClassId) (sz N : Nat) (σ : SX) (i : Nat) (hi : i < 4) (a1 : Int32) (a2 : Int32) {r0 : Int32} {σ0 : SX} (hM : m_T_cardOfRun N σ i a1 a2 = some (r0, σ0)) : Met l y_T_cardOfRun (wd y_T_cardOfRun b_T_cardOfRun 5 (some .int)) ({ frames := 1, cells := 0, slots := 0, locals := 21 }) (va_Pc [.ref (ad (7 + i) 0), .int a1, .int a2] (preX dC dI ad cs sz σ)) (va_Qi (fun (r : Int32) (_ : Unit) => r = r0 ∧ σ = σ0) (fun _ _ => True) (fun q => sz ≤ q)) 0 0 (fun q => sz ≤ q) := by
  refine Met.ofW (cc := b_T_cardOfRun) (maxL := 5) (ret := (some .int)) (by decide) rfl ?_
  intro p e s m args below meth c s₁ B hml hv
  obtain ⟨rfl, hsz, hP, hK, hD0, hN⟩ := hv
  have hx := B.exec
  have hb := B.bytes
  have hr := B.returns
  have hts := atoms_spec (ws := (wd y_T_cardOfRun b_T_cardOfRun 5 (some .int))) B.pre
  have htb : ∀ w ∈ tb, w.before _ s = true := fun w h => hts w (List.mem_cons_of_mem _ h)
  have hown : s.vm.findClass R_T = some m.cls := findClass_of_methodNamed B.named
  have hlocks := B.notSynchronized
  subst hsz
  have hD := hD0
  have hA : ∀ q : Nat, s.heap.size ≤ q → s.heap.size ≤ q := fun q h => h
  have hS : va_S (fun q => s.heap.size ≤ q) s.heap s.heap [] := va_S.rf
  have hP : va_P (dC, dI) classes (wX ad cs σ) s.heap := hP
  have hl := lv_entry ([.ref (ad (7 + i) 0), .int a1, .int a2]) (n := 5) (Nat.le_of_ble_eq_true rfl)
  rw [lg_entry_eq]
  generalize (lg_sl ([.ref (ad (7 + i) 0), .int a1, .int a2]) ++ List.replicate (5 - (lg_sl ([.ref (ad (7 + i) 0), .int a1, .int a2])).length) Slot.unset).toArray = ls at hl ⊢
  have hl : lv_has ls 5 [(0, .ref (ad (7 + i) 0)), (1, .int a1), (2, .int a2)] := hl
  rw [m_T_cardOfRun] at hM
  refine W_loop (pc := 20) (fun n20 H locs ls st => ∃ (v1 : Int32) (v2 : Int32) (v3 : Int32) (v4 : Int32), st = [] ∧ m_T_cardOfRun_20 N i n20 σ v1 v2 v3 v4 = some (r0, σ0) ∧ lv_has ls 5 [(0, .ref (ad (7 + i) 0)), (1, .int v1), (2, .int v2), (3, .int v3), (4, .int v4)] ∧ va_P (dC, dI) classes (wX ad cs σ) H ∧ va_D (fun _ => True) (wX ad cs σ) ∧ va_S (fun q => s.heap.size ≤ q) s.heap H locs) ?_ ?_ ?_
  · rintro H locs ls st ⟨v1, v2, v3, v4, -, hM, -⟩
    rw [m_T_cardOfRun_20] at hM; cases hM
  · intro n20 K20 H locs ls st hI
    obtain ⟨v1, v2, v3, v4, rfl, hM, hl, hP, hD, hS⟩ := hI
    rw [m_T_cardOfRun_20] at hM
    refine lv_iload hx hb d_T_cardOfRun_20 (lv_at hl 4 rfl) ?_
    refine lv_iload_n hx hb d_T_cardOfRun_22 rfl (lv_at hl 1 rfl) ?_
    refine lv_icmp_ge (tgt := 42) hx hb d_T_cardOfRun_23 (by decide) (fun h23 => ?_) (fun h23 => ?_)
    · rw [if_pos h23] at hM
      refine lv_aload_n hx hb d_T_cardOfRun_42 rfl (lv_at hl 0 rfl) ?_
      refine va_get (D := (dC, dI)) (ci := 6) (v := .ref (ad (7 + i) 1)) (C := R_T) (T := F_T) (N := 6) hx hb htb in_T hown hK hP (19 + 3 * i) (g_T hi) rfl 0 (by decide) (htb _ k_129) (fun _ h9 => h9) rfl d_T_cardOfRun_43 ?_
      refine lv_iload_n hx hb d_T_cardOfRun_46 rfl (lv_at hl 3 rfl) ?_
      refine lv_iload_n hx hb d_T_cardOfRun_47 rfl (lv_at hl 2 rfl) ?_
      refine lv_iadd hx hb d_T_cardOfRun_48 ?_
      have hg49 := gd_c hM
      have hM := gd_v hM
      refine va_iald hx hb hK hP (19 + 3 * i + 1) 0 (g_T_a1 hi) rfl (inb_in hg49) d_T_cardOfRun_49 ?_
      have e9 := Prod.mk.inj (Option.some.inj hM)
      exact W.iret (v := ((σ (7 + i)).2 1 (v3 + v2).toNatClampNeg)) hx hb hr (fun t ht hW => ⟨⟨((σ (7 + i)).2 1 (v3 + v2).toNatClampNeg), (), rfl, e9, trivial⟩, hS.F ht⟩) hS.2.2 d_T_cardOfRun_50
    · rw [if_neg h23] at hM
      refine lv_iload_n hx hb d_T_cardOfRun_26 rfl (lv_at hl 3 rfl) ?_
      refine lv_aload_n hx hb d_T_cardOfRun_27 rfl (lv_at hl 0 rfl) ?_
      refine va_get (D := (dC, dI)) (ci := 6) (v := .ref (ad (7 + i) 2)) (C := R_T) (T := F_T) (N := 6) hx hb htb in_T hown hK hP (19 + 3 * i) (g_T hi) rfl 1 (by decide) (htb _ k_130) (fun _ h9 => h9) rfl d_T_cardOfRun_28 ?_
      refine lv_iload hx hb d_T_cardOfRun_31 (lv_at hl 4 rfl) ?_
      have hg33 := gd_c hM
      have hM := gd_v hM
      refine va_iald hx hb hK hP (19 + 3 * i + 2) 0 (g_T_a2 hi) rfl (inb_in hg33) d_T_cardOfRun_33 ?_
      refine lv_iadd hx hb d_T_cardOfRun_34 ?_
      refine lv_istore_n hx hb d_T_cardOfRun_35 rfl hl (by decide) (lv' := [(3, .int (v3 + ((σ (7 + i)).2 2 v4.toNatClampNeg))), (0, .ref (ad (7 + i) 0)), (1, .int v1), (2, .int v2), (4, .int v4)]) rfl (fun ls hl => ?_)
      refine lv_iinc (k := 4) (v := (v4 + 1)) hx hb d_T_cardOfRun_36 hl rfl rfl (by decide) (lv' := [(4, .int (v4 + 1)), (3, .int (v3 + ((σ (7 + i)).2 2 v4.toNatClampNeg))), (0, .ref (ad (7 + i) 0)), (1, .int v1), (2, .int v2)]) rfl (fun ls hl => ?_)
      refine lv_goto (tgt := 20) hx hb d_T_cardOfRun_39 (by decide) ?_
      exact K20 _ _ _ _ ⟨v1, v2, (v3 + ((σ (7 + i)).2 2 v4.toNatClampNeg)), (v4 + 1), rfl, hM, lv_sub hl [2, 3, 4, 1, 0] rfl, hP, hD, hS⟩
  intro K20
  refine lv_iload_n hx hb d_T_cardOfRun_0 rfl (lv_at hl 2 rfl) ?_
  refine lv_if_lt (tgt := 13) hx hb d_T_cardOfRun_1 (by decide) (fun h1 => ?_) (fun h1 => ?_)
  · rw [if_pos h1] at hM
    refine lv_iconst (v := (-1)) hx hb d_T_cardOfRun_13 (by decide) ?_
    have e9 := Prod.mk.inj (Option.some.inj hM)
    exact W.iret (v := (-1)) hx hb hr (fun t ht hW => ⟨⟨(-1), (), rfl, e9, trivial⟩, hS.F ht⟩) hS.2.2 d_T_cardOfRun_14
  · rw [if_neg h1] at hM
    refine lv_iload_n hx hb d_T_cardOfRun_4 rfl (lv_at hl 2 rfl) ?_
    refine lv_aload_n hx hb d_T_cardOfRun_5 rfl (lv_at hl 0 rfl) ?_
    refine lv_iload_n hx hb d_T_cardOfRun_6 rfl (lv_at hl 1 rfl) ?_
    obtain ⟨x7, y7, hq7, hM⟩ := bI_some hM
    refine va_calli (va_runV (As := [.int a1]) (rest := [.int a2]) ⟨hx, hb, hml, hown, hts⟩ (c_T_runLength l dC dI ad cs _ N σ i hi a1 hq7) (cwV 1 hts (goodV k_280 k_269 k_270 k_7 k_271) rfl rfl rfl ⟨rfl, by decide, by decide, by decide +kernel⟩ ⟨Nat.le_of_ble_eq_true rfl, Nat.le_of_ble_eq_true rfl⟩) ⟨blindX, va_recv hK hP rfl (g_T hi), payX hP hK hD hN⟩ rfl rfl hl.1 rfl (lv_room (Nat.le_of_ble_eq_true rfl)) d_T_cardOfRun_7 ⟨Nat.zero_le _, Nat.zero_le _⟩) hS (fun q h0 h => absurd h0 (Nat.not_lt.mpr h)) (fun q h => hA q (Nat.le_trans hS.1 h)) (fun r7 u t H locs ht hvm hpost hB hz1 hk1 hS => ?_)
    obtain ⟨e1, e2⟩ := hpost
    subst e1
    subst e2
    have hP := keepP hP hk1
    refine lv_icmp_lt (tgt := 15) hx hb d_T_cardOfRun_10 (by decide) (fun h10 => ?_) (fun h10 => ?_)
    · rw [if_pos h10] at hM
      refine lv_iconst (v := 0) hx hb d_T_cardOfRun_15 (by decide) ?_
      refine lv_istore_n hx hb d_T_cardOfRun_16 rfl hl (by decide) (lv' := [(3, .int 0), (0, .ref (ad (7 + i) 0)), (1, .int a1), (2, .int a2)]) rfl (fun ls hl => ?_)
      refine lv_iconst (v := 0) hx hb d_T_cardOfRun_17 (by decide) ?_
      refine lv_istore hx hb d_T_cardOfRun_18 hl (by decide) (lv' := [(4, .int 0), (3, .int 0), (0, .ref (ad (7 + i) 0)), (1, .int a1), (2, .int a2)]) rfl (fun ls hl => ?_)
      exact K20 N _ _ _ _ ⟨a1, a2, 0, 0, rfl, hM, lv_sub hl [2, 3, 4, 1, 0] rfl, hP, hD, hS⟩
    · rw [if_neg h10] at hM
      refine lv_iconst (v := (-1)) hx hb d_T_cardOfRun_13 (by decide) ?_
      have e9 := Prod.mk.inj (Option.some.inj hM)
      exact W.iret (v := (-1)) hx hb hr (fun t ht hW => ⟨⟨(-1), (), rfl, e9, trivial⟩, hS.F ht⟩) hS.2.2 d_T_cardOfRun_14
