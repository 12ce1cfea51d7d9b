theorem d_O_level_0 : decode b_O_level 0 = .ok (.aload_n 0, 1) := by decide +kernel
theorem d_O_level_1 : decode b_O_level 1 = .ok (.getfield 53, 3) := by decide +kernel
theorem d_O_level_4 : decode b_O_level 4 = .ok (.ifCond .eq 13, 3) := by decide +kernel
theorem d_O_level_7 : decode b_O_level 7 = .ok (.aload_n 0, 1) := by decide +kernel
theorem d_O_level_8 : decode b_O_level 8 = .ok (.getfield 10, 3) := by decide +kernel
theorem d_O_level_11 : decode b_O_level 11 = .ok (.invokevirtual 108, 3) := by decide +kernel
theorem d_O_level_14 : decode b_O_level 14 = .ok (.ifCond .ne 7, 3) := by decide +kernel
theorem d_O_level_17 : decode b_O_level 17 = .ok (.iconst 0, 1) := by decide +kernel
theorem d_O_level_18 : decode b_O_level 18 = .ok (.goto 10, 3) := by decide +kernel
theorem d_O_level_21 : decode b_O_level 21 = .ok (.aload_n 0, 1) := by decide +kernel
theorem d_O_level_22 : decode b_O_level 22 = .ok (.getfield 19, 3) := by decide +kernel
theorem d_O_level_25 : decode b_O_level 25 = .ok (.invokevirtual 140, 3) := by decide +kernel
theorem d_O_level_28 : decode b_O_level 28 = .ok (.ireturn, 1) := by decide +kernel
def m_O_level (N : Nat) (σ : SX) : Option (Int32 × SX) :=
  (if ((σ 0).1 0) = 0 then some (0, σ) else (bI (m_D_cardCount N σ) fun r11 σ11 => (if r11 = 0 then some (0, σ) else (bI (m_P_height N σ) fun r25 σ25 => some (r25, σ)))))

set_option maxHeartbeats 4000000 in
set_option maxRecDepth 100000 in
theorem c_O_level (l : Launch) (dC : Nat → ClassId) (dI : Nat → Nat → Nat) (ad : Nat → Nat → Nat) (cs : Nat → ClassId) (sz N : Nat) (σ : SX) {r0 : Int32} {σ0 : SX} (hM : m_O_level N σ = some (r0, σ0)) : Met l y_O_level (wd y_O_level b_O_level 1 (some .int)) ({ frames := 1, cells := 0, slots := 0, locals := 20 }) (va_Pc [.ref (ad 0 0)] (preX dC dI ad cs sz σ)) (va_Qi (fun (r : Int32) (_ : Unit) => r = r0 ∧ σ = σ0) (fun _ _ => True) (fun q => sz ≤ q)) 0 0 (fun q => sz ≤ q) := by
  refine Met.ofW (cc := b_O_level) (maxL := 1) (ret := (some .int)) (by decide) rfl ?_
  intro p e s m args below meth c s₁ B hml hv
  obtain ⟨rfl, hsz, hP, hK, hD0, hN⟩ := hv
  have hx := B.exec
  have hb := B.bytes
  have hr := B.returns
  have hts := atoms_spec (ws := (wd y_O_level b_O_level 1 (some .int))) B.pre
  have htb : ∀ w ∈ tb, w.before _ s = true := fun w h => hts w (List.mem_cons_of_mem _ h)
  have hown : s.vm.findClass R_O = some m.cls := findClass_of_methodNamed B.named
  have hlocks := B.notSynchronized
  subst hsz
  have hD := hD0
  have hA : ∀ q : Nat, s.heap.size ≤ q → s.heap.size ≤ q := fun q h => h
  have hS : va_S (fun q => s.heap.size ≤ q) s.heap s.heap [] := va_S.rf
  have hP : va_P (dC, dI) classes (wX ad cs σ) s.heap := hP
  have hl := lv_entry ([.ref (ad 0 0)]) (n := 1) (Nat.le_of_ble_eq_true rfl)
  rw [lg_entry_eq]
  generalize (lg_sl ([.ref (ad 0 0)]) ++ List.replicate (1 - (lg_sl ([.ref (ad 0 0)])).length) Slot.unset).toArray = ls at hl ⊢
  have hl : lv_has ls 1 [(0, .ref (ad 0 0))] := hl
  rw [m_O_level] at hM
  refine lv_aload_n hx hb d_O_level_0 rfl (lv_at hl 0 rfl) ?_
  refine va_get (D := (dC, dI)) (ci := 0) (v := .int ((σ 0).1 0)) (C := R_O) (T := F_O) (N := 12) hx hb htb in_O hown hK hP 0 (g_O) rfl 10 (by decide) (htb _ k_158) (fun _ h9 => h9) rfl d_O_level_1 ?_
  refine lv_if_eq (tgt := 17) hx hb d_O_level_4 (by decide) (fun h4 => ?_) (fun h4 => ?_)
  · rw [if_pos h4] at hM
    refine lv_iconst (v := 0) hx hb d_O_level_17 (by decide) ?_
    refine lv_goto (tgt := 28) hx hb d_O_level_18 (by decide) ?_
    have e9 := Prod.mk.inj (Option.some.inj hM)
    exact W.iret (v := 0) hx hb hr (fun t ht hW => ⟨⟨0, (), rfl, e9, trivial⟩, hS.F ht⟩) hS.2.2 d_O_level_28
  · rw [if_neg h4] at hM
    refine lv_aload_n hx hb d_O_level_7 rfl (lv_at hl 0 rfl) ?_
    refine va_get (D := (dC, dI)) (ci := 0) (v := .ref (ad 1 0)) (C := R_O) (T := F_O) (N := 12) hx hb htb in_O hown hK hP 0 (g_O) rfl 0 (by decide) (htb _ k_148) (fun _ h9 => h9) rfl d_O_level_8 ?_
    obtain ⟨x11, y11, hq11, hM⟩ := bI_some hM
    refine va_calli (va_runV (As := []) (rest := []) ⟨hx, hb, hml, hown, hts⟩ (c_D_cardCount l dC dI ad cs _ N σ hq11) (cwV 0 hts (goodV k_189 k_190 k_191 k_2 k_192) rfl rfl rfl ⟨rfl, by decide, by decide, by decide +kernel⟩ ⟨Nat.le_of_ble_eq_true rfl, Nat.le_of_ble_eq_true rfl⟩) ⟨blindX, va_recv hK hP rfl (g_D), payX hP hK hD hN⟩ rfl rfl hl.1 rfl (lv_room (Nat.le_of_ble_eq_true rfl)) d_O_level_11 ⟨Nat.zero_le _, Nat.zero_le _⟩) hS (fun q h0 h => absurd h0 (Nat.not_lt.mpr h)) (fun q h => hA q (Nat.le_trans hS.1 h)) (fun r11 u t H locs ht hvm hpost hB hz1 hk1 hS => ?_)
    obtain ⟨e1, e2⟩ := hpost
    subst e1
    subst e2
    have hP := keepP hP hk1
    refine lv_if_ne (tgt := 21) hx hb d_O_level_14 (by decide) (fun h14 => ?_) (fun h14 => ?_)
    · rw [if_neg h14] at hM
      refine lv_aload_n hx hb d_O_level_21 rfl (lv_at hl 0 rfl) ?_
      refine va_get (D := (dC, dI)) (ci := 0) (v := .ref (ad 4 0)) (C := R_O) (T := F_O) (N := 12) hx hb htb in_O hown hK hP 0 (g_O) rfl 3 (by decide) (htb _ k_151) (fun _ h9 => h9) rfl d_O_level_22 ?_
      obtain ⟨x25, y25, hq25, hM⟩ := bI_some hM
      refine va_calli (va_runV (As := []) (rest := []) ⟨hx, hb, hml, hown, hts⟩ (c_P_height l dC dI ad cs _ N σ hq25) (cwV 0 hts (goodV k_237 k_238 k_239 k_3 k_240) rfl rfl rfl ⟨rfl, by decide, by decide, by decide +kernel⟩ ⟨Nat.le_of_ble_eq_true rfl, Nat.le_of_ble_eq_true rfl⟩) ⟨blindX, va_recv hK hP rfl (g_P), payX hP hK hD hN⟩ rfl rfl hl.1 rfl (lv_room (Nat.le_of_ble_eq_true rfl)) d_O_level_25 ⟨Nat.zero_le _, Nat.zero_le _⟩) hS (fun q h0 h => absurd h0 (Nat.not_lt.mpr h)) (fun q h => hA q (Nat.le_trans hS.1 h)) (fun r25 u t H locs ht hvm hpost hB hz1 hk1 hS => ?_)
      obtain ⟨e1, e2⟩ := hpost
      subst e1
      subst e2
      have hP := keepP hP hk1
      have e9 := Prod.mk.inj (Option.some.inj hM)
      exact W.iret (v := r25) hx hb hr (fun t ht hW => ⟨⟨r25, (), rfl, e9, trivial⟩, hS.F ht⟩) hS.2.2 d_O_level_28
    · rw [if_pos h14] at hM
      refine lv_iconst (v := 0) hx hb d_O_level_17 (by decide) ?_
      refine lv_goto (tgt := 28) hx hb d_O_level_18 (by decide) ?_
      have e9 := Prod.mk.inj (Option.some.inj hM)
      exact W.iret (v := 0) hx hb hr (fun t ht hW => ⟨⟨0, (), rfl, e9, trivial⟩, hS.F ht⟩) hS.2.2 d_O_level_28

theorem d_T_runCount_0 : decode b_T_runCount 0 = .ok (.aload_n 0, 1) := by decide +kernel
theorem d_T_runCount_1 : decode b_T_runCount 1 = .ok (.getfield 22, 3) := by decide +kernel
theorem d_T_runCount_4 : decode b_T_runCount 4 = .ok (.ireturn, 1) := by decide +kernel
def m_T_runCount (N : Nat) (σ : SX) (i : Nat) : Option (Int32 × SX) :=
  some (((σ (7 + i)).1 1), σ)

set_option maxHeartbeats 4000000 in
set_option maxRecDepth 100000 in
theorem c_T_runCount (l : Launch) (dC : Nat → ClassId) (dI : Nat → Nat → Nat) (ad : Nat → Nat → Nat) (cs : Nat → ClassId) (sz N : Nat) (σ : SX) (i : Nat) (hi : i < 4) {r0 : Int32} {σ0 : SX} (hM : m_T_runCount N σ i = some (r0, σ0)) : Met l y_T_runCount (wd y_T_runCount b_T_runCount 1 (some .int)) ({ frames := 0, cells := 0, slots := 0, locals := 0 }) (va_Pc [.ref (ad (7 + i) 0)] (preX dC dI ad cs sz σ)) (va_Qi (fun (r : Int32) (_ : Unit) => r = r0 ∧ σ = σ0) (fun _ _ => True) (fun q => sz ≤ q)) 0 0 (fun q => sz ≤ q) := by
  refine Met.ofW (cc := b_T_runCount) (maxL := 1) (ret := (some .int)) (by decide) rfl ?_
  intro p e s m args below meth c s₁ B hml hv
  obtain ⟨rfl, hsz, hP, hK, hD0, hN⟩ := hv
  have hx := B.exec
  have hb := B.bytes
  have hr := B.returns
  have hts := atoms_spec (ws := (wd y_T_runCount b_T_runCount 1 (some .int))) B.pre
  have htb : ∀ w ∈ tb, w.before _ s = true := fun w h => hts w (List.mem_cons_of_mem _ h)
  have hown : s.vm.findClass R_T = some m.cls := findClass_of_methodNamed B.named
  have hlocks := B.notSynchronized
  subst hsz
  have hD := hD0
  have hA : ∀ q : Nat, s.heap.size ≤ q → s.heap.size ≤ q := fun q h => h
  have hS : va_S (fun q => s.heap.size ≤ q) s.heap s.heap [] := va_S.rf
  have hP : va_P (dC, dI) classes (wX ad cs σ) s.heap := hP
  have hl := lv_entry ([.ref (ad (7 + i) 0)]) (n := 1) (Nat.le_of_ble_eq_true rfl)
  rw [lg_entry_eq]
  generalize (lg_sl ([.ref (ad (7 + i) 0)]) ++ List.replicate (1 - (lg_sl ([.ref (ad (7 + i) 0)])).length) Slot.unset).toArray = ls at hl ⊢
  have hl : lv_has ls 1 [(0, .ref (ad (7 + i) 0))] := hl
  rw [m_T_runCount] at hM
  refine lv_aload_n hx hb d_T_runCount_0 rfl (lv_at hl 0 rfl) ?_
  refine va_get (D := (dC, dI)) (ci := 6) (v := .int ((σ (7 + i)).1 1)) (C := R_T) (T := F_T) (N := 6) hx hb htb in_T hown hK hP (19 + 3 * i) (g_T hi) rfl 3 (by decide) (htb _ k_132) (fun _ h9 => h9) rfl d_T_runCount_1 ?_
  have e9 := Prod.mk.inj (Option.some.inj hM)
  exact W.iret (v := ((σ (7 + i)).1 1)) hx hb hr (fun t ht hW => ⟨⟨((σ (7 + i)).1 1), (), rfl, e9, trivial⟩, hS.F ht⟩) hS.2.2 d_T_runCount_4

theorem d_O_runs_0 : decode b_O_runs 0 = .ok (.iload_n 1, 1) := by decide +kernel
theorem d_O_runs_1 : decode b_O_runs 1 = .ok (.invokestatic 127, 3) := by decide +kernel
theorem d_O_runs_4 : decode b_O_runs 4 = .ok (.ifCond .eq 15, 3) := by decide +kernel
theorem d_O_runs_7 : decode b_O_runs 7 = .ok (.aload_n 0, 1) := by decide +kernel
theorem d_O_runs_8 : decode b_O_runs 8 = .ok (.getfield 39, 3) := by decide +kernel
theorem d_O_runs_11 : decode b_O_runs 11 = .ok (.iload_n 1, 1) := by decide +kernel
theorem d_O_runs_12 : decode b_O_runs 12 = .ok (.aaload, 1) := by decide +kernel
theorem d_O_runs_13 : decode b_O_runs 13 = .ok (.invokevirtual 143, 3) := by decide +kernel
theorem d_O_runs_16 : decode b_O_runs 16 = .ok (.goto 4, 3) := by decide +kernel
theorem d_O_runs_19 : decode b_O_runs 19 = .ok (.iconst (-1), 1) := by decide +kernel
theorem d_O_runs_20 : decode b_O_runs 20 = .ok (.ireturn, 1) := by decide +kernel
def m_O_runs (N : Nat) (σ : SX) (a1 : Int32) : Option (Int32 × SX) :=
  (bP (m_O_isTape a1) fun r1 => (if r1 = 0 then some ((-1), σ) else (if inb a1 4 = true then (bI (m_T_runCount N σ a1.toNatClampNeg) fun r13 σ13 => some (r13, σ)) else none)))

set_option maxHeartbeats 4000000 in
set_option maxRecDepth 100000 in
theorem c_O_runs (l : Launch) (dC : Nat → ClassId) (dI : Nat → Nat → Nat) (ad : Nat → Nat → Nat) (cs : Nat → ClassId) (sz N : Nat) (σ : SX) (a1 : Int32) {r0 : Int32} {σ0 : SX} (hM : m_O_runs N σ a1 = some (r0, σ0)) : Met l y_O_runs (wd y_O_runs b_O_runs 2 (some .int)) ({ frames := 1, cells := 0, slots := 0, locals := 20 }) (va_Pc [.ref (ad 0 0), .int a1] (preX dC dI ad cs sz σ)) (va_Qi (fun (r : Int32) (_ : Unit) => r = r0 ∧ σ = σ0) (fun _ _ => True) (fun q => sz ≤ q)) 0 0 (fun q => sz ≤ q) := by
  refine Met.ofW (cc := b_O_runs) (maxL := 2) (ret := (some .int)) (by decide) rfl ?_
  intro p e s m args below meth c s₁ B hml hv
  obtain ⟨rfl, hsz, hP, hK, hD0, hN⟩ := hv
  have hx := B.exec
  have hb := B.bytes
  have hr := B.returns
  have hts := atoms_spec (ws := (wd y_O_runs b_O_runs 2 (some .int))) B.pre
  have htb : ∀ w ∈ tb, w.before _ s = true := fun w h => hts w (List.mem_cons_of_mem _ h)
  have hown : s.vm.findClass R_O = some m.cls := findClass_of_methodNamed B.named
  have hlocks := B.notSynchronized
  subst hsz
  have hD := hD0
  have hA : ∀ q : Nat, s.heap.size ≤ q → s.heap.size ≤ q := fun q h => h
  have hS : va_S (fun q => s.heap.size ≤ q) s.heap s.heap [] := va_S.rf
  have hP : va_P (dC, dI) classes (wX ad cs σ) s.heap := hP
  have hl := lv_entry ([.ref (ad 0 0), .int a1]) (n := 2) (Nat.le_of_ble_eq_true rfl)
  rw [lg_entry_eq]
  generalize (lg_sl ([.ref (ad 0 0), .int a1]) ++ List.replicate (2 - (lg_sl ([.ref (ad 0 0), .int a1])).length) Slot.unset).toArray = ls at hl ⊢
  have hl : lv_has ls 2 [(0, .ref (ad 0 0)), (1, .int a1)] := hl
  rw [m_O_runs] at hM
  refine lv_iload_n hx hb d_O_runs_0 rfl (lv_at hl 1 rfl) ?_
  obtain ⟨x1, hq1, hM⟩ := bP_some hM
  refine va_calli (va_runS (As := [.int a1]) (rest := []) ⟨hx, hb, hml, hown, hts⟩ (c_O_isTape l _ a1 hq1) (cwS 1 hts (goodS k_245 k_246 k_1 k_247) rfl rfl rfl ⟨rfl, by decide, by decide, by decide +kernel⟩ ⟨Nat.le_of_ble_eq_true rfl, Nat.le_of_ble_eq_true rfl⟩) ⟨blindS, payS⟩ rfl rfl hl.1 rfl (lv_room (Nat.le_of_ble_eq_true rfl)) d_O_runs_1 ⟨Nat.zero_le _, Nat.zero_le _⟩) hS (fun q h0 h => absurd h0 (Nat.not_lt.mpr h)) (fun q h => hA q (Nat.le_trans hS.1 h)) (fun r1 u t H locs ht hvm hpost hB hz1 hk1 hS => ?_)
  subst hpost
  have hP := keepP hP hk1
  refine lv_if_eq (tgt := 19) hx hb d_O_runs_4 (by decide) (fun h4 => ?_) (fun h4 => ?_)
  · rw [if_pos h4] at hM
    refine lv_iconst (v := (-1)) hx hb d_O_runs_19 (by decide) ?_
    have e9 := Prod.mk.inj (Option.some.inj hM)
    exact W.iret (v := (-1)) hx hb hr (fun t ht hW => ⟨⟨(-1), (), rfl, e9, trivial⟩, hS.F ht⟩) hS.2.2 d_O_runs_20
  · rw [if_neg h4] at hM
    refine lv_aload_n hx hb d_O_runs_7 rfl (lv_at hl 0 rfl) ?_
    refine va_get (D := (dC, dI)) (ci := 0) (v := .ref (ad 0 9)) (C := R_O) (T := F_O) (N := 12) hx hb htb in_O hown hK hP 0 (g_O) rfl 6 (by decide) (htb _ k_154) (fun _ h9 => h9) rfl d_O_runs_8 ?_
    refine lv_iload_n hx hb d_O_runs_11 rfl (lv_at hl 1 rfl) ?_
    have hg12 := gd_c hM
    have hM := gd_v hM
    refine va_aldq hx hb hK hP 18 2 (f := fun i => some (ad (7 + i) 0)) g_tapes rfl (inb_in hg12) d_O_runs_12 ?_
    refine W.eq (g2 := F0 m 13 ls [.ref (ad (7 + a1.toNatClampNeg) 0)]) rfl ?_
    obtain ⟨x13, y13, hq13, hM⟩ := bI_some hM
    refine va_calli (va_runV (As := []) (rest := []) ⟨hx, hb, hml, hown, hts⟩ (c_T_runCount l dC dI ad cs _ N σ a1.toNatClampNeg (inb_lt hg12) hq13) (cwV 0 hts (goodV k_248 k_249 k_250 k_7 k_251) rfl rfl rfl ⟨rfl, by decide, by decide, by decide +kernel⟩ ⟨Nat.le_of_ble_eq_true rfl, Nat.le_of_ble_eq_true rfl⟩) ⟨blindX, va_recv hK hP rfl (g_T (inb_lt hg12)), payX hP hK hD hN⟩ rfl rfl hl.1 rfl (lv_room (Nat.le_of_ble_eq_true rfl)) d_O_runs_13 ⟨Nat.zero_le _, Nat.zero_le _⟩) hS (fun q h0 h => absurd h0 (Nat.not_lt.mpr h)) (fun q h => hA q (Nat.le_trans hS.1 h)) (fun r13 u t H locs ht hvm hpost hB hz1 hk1 hS => ?_)
    obtain ⟨e1, e2⟩ := hpost
    subst e1
    subst e2
    have hP := keepP hP hk1
    refine lv_goto (tgt := 20) hx hb d_O_runs_16 (by decide) ?_
    have e9 := Prod.mk.inj (Option.some.inj hM)
    exact W.iret (v := r13) hx hb hr (fun t ht hW => ⟨⟨r13, (), rfl, e9, trivial⟩, hS.F ht⟩) hS.2.2 d_O_runs_20

theorem d_O_dummies_0 : decode b_O_dummies 0 = .ok (.iload_n 1, 1) := by decide +kernel
theorem d_O_dummies_1 : decode b_O_dummies 1 = .ok (.invokestatic 127, 3) := by decide +kernel
theorem d_O_dummies_4 : decode b_O_dummies 4 = .ok (.ifCond .eq 15, 3) := by decide +kernel
theorem d_O_dummies_7 : decode b_O_dummies 7 = .ok (.aload_n 0, 1) := by decide +kernel
theorem d_O_dummies_8 : decode b_O_dummies 8 = .ok (.getfield 39, 3) := by decide +kernel
theorem d_O_dummies_11 : decode b_O_dummies 11 = .ok (.iload_n 1, 1) := by decide +kernel
theorem d_O_dummies_12 : decode b_O_dummies 12 = .ok (.aaload, 1) := by decide +kernel
theorem d_O_dummies_13 : decode b_O_dummies 13 = .ok (.invokevirtual 146, 3) := by decide +kernel
theorem d_O_dummies_16 : decode b_O_dummies 16 = .ok (.goto 4, 3) := by decide +kernel
theorem d_O_dummies_19 : decode b_O_dummies 19 = .ok (.iconst (-1), 1) := by decide +kernel
theorem d_O_dummies_20 : decode b_O_dummies 20 = .ok (.ireturn, 1) := by decide +kernel
def m_O_dummies (N : Nat) (σ : SX) (a1 : Int32) : Option (Int32 × SX) :=
  (bP (m_O_isTape a1) fun r1 => (if r1 = 0 then some ((-1), σ) else (if inb a1 4 = true then (bI (m_T_dummyCount N σ a1.toNatClampNeg) fun r13 σ13 => some (r13, σ)) else none)))

set_option maxHeartbeats 4000000 in
set_option maxRecDepth 100000 in
theorem c_O_dummies (l : Launch) (dC : Nat → ClassId) (dI : Nat → Nat → Nat) (ad : Nat → Nat → Nat) (cs : Nat → ClassId) (sz N : Nat) (σ : SX) (a1 : Int32) {r0 : Int32} {σ0 : SX} (hM : m_O_dummies N σ a1 = some (r0, σ0)) : Met l y_O_dummies (wd y_O_dummies b_O_dummies 2 (some .int)) ({ frames := 1, cells := 0, slots := 0, locals := 20 }) (va_Pc [.ref (ad 0 0), .int a1] (preX dC dI ad cs sz σ)) (va_Qi (fun (r : Int32) (_ : Unit) => r = r0 ∧ σ = σ0) (fun _ _ => True) (fun q => sz ≤ q)) 0 0 (fun q => sz ≤ q) := by
  refine Met.ofW (cc := b_O_dummies) (maxL := 2) (ret := (some .int)) (by decide) rfl ?_
  intro p e s m args below meth c s₁ B hml hv
  obtain ⟨rfl, hsz, hP, hK, hD0, hN⟩ := hv
  have hx := B.exec
  have hb := B.bytes
  have hr := B.returns
  have hts := atoms_spec (ws := (wd y_O_dummies b_O_dummies 2 (some .int))) B.pre
  have htb : ∀ w ∈ tb, w.before _ s = true := fun w h => hts w (List.mem_cons_of_mem _ h)
  have hown : s.vm.findClass R_O = some m.cls := findClass_of_methodNamed B.named
  have hlocks := B.notSynchronized
  subst hsz
  have hD := hD0
  have hA : ∀ q : Nat, s.heap.size ≤ q → s.heap.size ≤ q := fun q h => h
  have hS : va_S (fun q => s.heap.size ≤ q) s.heap s.heap [] := va_S.rf
  have hP : va_P (dC, dI) classes (wX ad cs σ) s.heap := hP
  have hl := lv_entry ([.ref (ad 0 0), .int a1]) (n := 2) (Nat.le_of_ble_eq_true rfl)
  rw [lg_entry_eq]
  generalize (lg_sl ([.ref (ad 0 0), .int a1]) ++ List.replicate (2 - (lg_sl ([.ref (ad 0 0), .int a1])).length) Slot.unset).toArray = ls at hl ⊢
  have hl : lv_has ls 2 [(0, .ref (ad 0 0)), (1, .int a1)] := hl
  rw [m_O_dummies] at hM
  refine lv_iload_n hx hb d_O_dummies_0 rfl (lv_at hl 1 rfl) ?_
  obtain ⟨x1, hq1, hM⟩ := bP_some hM
  refine va_calli (va_runS (As := [.int a1]) (rest := []) ⟨hx, hb, hml, hown, hts⟩ (c_O_isTape l _ a1 hq1) (cwS 1 hts (goodS k_245 k_246 k_1 k_247) rfl rfl rfl ⟨rfl, by decide, by decide, by decide +kernel⟩ ⟨Nat.le_of_ble_eq_true rfl, Nat.le_of_ble_eq_true rfl⟩) ⟨blindS, payS⟩ rfl rfl hl.1 rfl (lv_room (Nat.le_of_ble_eq_true rfl)) d_O_dummies_1 ⟨Nat.zero_le _, Nat.zero_le _⟩) hS (fun q h0 h => absurd h0 (Nat.not_lt.mpr h)) (fun q h => hA q (Nat.le_trans hS.1 h)) (fun r1 u t H locs ht hvm hpost hB hz1 hk1 hS => ?_)
  subst hpost
  have hP := keepP hP hk1
  refine lv_if_eq (tgt := 19) hx hb d_O_dummies_4 (by decide) (fun h4 => ?_) (fun h4 => ?_)
  · rw [if_pos h4] at hM
    refine lv_iconst (v := (-1)) hx hb d_O_dummies_19 (by decide) ?_
    have e9 := Prod.mk.inj (Option.some.inj hM)
    exact W.iret (v := (-1)) hx hb hr (fun t ht hW => ⟨⟨(-1), (), rfl, e9, trivial⟩, hS.F ht⟩) hS.2.2 d_O_dummies_20
  · rw [if_neg h4] at hM
    refine lv_aload_n hx hb d_O_dummies_7 rfl (lv_at hl 0 rfl) ?_
    refine va_get (D := (dC, dI)) (ci := 0) (v := .ref (ad 0 9)) (C := R_O) (T := F_O) (N := 12) hx hb htb in_O hown hK hP 0 (g_O) rfl 6 (by decide) (htb _ k_154) (fun _ h9 => h9) rfl d_O_dummies_8 ?_
    refine lv_iload_n hx hb d_O_dummies_11 rfl (lv_at hl 1 rfl) ?_
    have hg12 := gd_c hM
    have hM := gd_v hM
    refine va_aldq hx hb hK hP 18 2 (f := fun i => some (ad (7 + i) 0)) g_tapes rfl (inb_in hg12) d_O_dummies_12 ?_
    refine W.eq (g2 := F0 m 13 ls [.ref (ad (7 + a1.toNatClampNeg) 0)]) rfl ?_
    obtain ⟨x13, y13, hq13, hM⟩ := bI_some hM
    refine va_calli (va_runV (As := []) (rest := []) ⟨hx, hb, hml, hown, hts⟩ (c_T_dummyCount l dC dI ad cs _ N σ a1.toNatClampNeg (inb_lt hg12) hq13) (cwV 0 hts (goodV k_256 k_257 k_258 k_7 k_259) rfl rfl rfl ⟨rfl, by decide, by decide, by decide +kernel⟩ ⟨Nat.le_of_ble_eq_true rfl, Nat.le_of_ble_eq_true rfl⟩) ⟨blindX, va_recv hK hP rfl (g_T (inb_lt hg12)), payX hP hK hD hN⟩ rfl rfl hl.1 rfl (lv_room (Nat.le_of_ble_eq_true rfl)) d_O_dummies_13 ⟨Nat.zero_le _, Nat.zero_le _⟩) hS (fun q h0 h => absurd h0 (Nat.not_lt.mpr h)) (fun q h => hA q (Nat.le_trans hS.1 h)) (fun r13 u t H locs ht hvm hpost hB hz1 hk1 hS => ?_)
    obtain ⟨e1, e2⟩ := hpost
    subst e1
    subst e2
    have hP := keepP hP hk1
    refine lv_goto (tgt := 20) hx hb d_O_dummies_16 (by decide) ?_
    have e9 := Prod.mk.inj (Option.some.inj hM)
    exact W.iret (v := r13) hx hb hr (fun t ht hW => ⟨⟨r13, (), rfl, e9, trivial⟩, hS.F ht⟩) hS.2.2 d_O_dummies_20

theorem d_O_role_0 : decode b_O_role 0 = .ok (.aload_n 0, 1) := by decide +kernel
theorem d_O_role_1 : decode b_O_role 1 = .ok (.getfield 53, 3) := by decide +kernel
theorem d_O_role_4 : decode b_O_role 4 = .ok (.ifCond .ne 5, 3) := by decide +kernel
theorem d_O_role_7 : decode b_O_role 7 = .ok (.iconst (-1), 1) := by decide +kernel
theorem d_O_role_8 : decode b_O_role 8 = .ok (.ireturn, 1) := by decide +kernel
theorem d_O_role_9 : decode b_O_role 9 = .ok (.iconst 0, 1) := by decide +kernel
theorem d_O_role_10 : decode b_O_role 10 = .ok (.istore_n 2, 1) := by decide +kernel
theorem d_O_role_11 : decode b_O_role 11 = .ok (.iload_n 2, 1) := by decide +kernel
theorem d_O_role_12 : decode b_O_role 12 = .ok (.iconst 4, 1) := by decide +kernel
theorem d_O_role_13 : decode b_O_role 13 = .ok (.if_icmp .ge 21, 3) := by decide +kernel
theorem d_O_role_16 : decode b_O_role 16 = .ok (.aload_n 0, 1) := by decide +kernel
theorem d_O_role_17 : decode b_O_role 17 = .ok (.getfield 43, 3) := by decide +kernel
theorem d_O_role_20 : decode b_O_role 20 = .ok (.iload_n 2, 1) := by decide +kernel
theorem d_O_role_21 : decode b_O_role 21 = .ok (.iaload, 1) := by decide +kernel
theorem d_O_role_22 : decode b_O_role 22 = .ok (.iload_n 1, 1) := by decide +kernel
theorem d_O_role_23 : decode b_O_role 23 = .ok (.if_icmp .ne 5, 3) := by decide +kernel
theorem d_O_role_26 : decode b_O_role 26 = .ok (.iload_n 2, 1) := by decide +kernel
theorem d_O_role_27 : decode b_O_role 27 = .ok (.ireturn, 1) := by decide +kernel
theorem d_O_role_28 : decode b_O_role 28 = .ok (.iinc 2 1, 3) := by decide +kernel
theorem d_O_role_31 : decode b_O_role 31 = .ok (.goto (-20), 3) := by decide +kernel
theorem d_O_role_34 : decode b_O_role 34 = .ok (.iconst (-1), 1) := by decide +kernel
theorem d_O_role_35 : decode b_O_role 35 = .ok (.ireturn, 1) := by decide +kernel
def m_O_role_11 (N : Nat) : Nat → SX → Int32 → Int32 → Option (Int32 × SX)
  | 0, _, _, _ => none
  | n11 + 1, σ, v1, v2 =>
    (if 4 ≤ v2 then some ((-1), σ) else (if inb v2 4 = true then (if ((σ 0).2 1 v2.toNatClampNeg) = v1 then some (v2, σ) else m_O_role_11 N n11 σ v1 (v2 + 1)) else none))

def m_O_role (N : Nat) (σ : SX) (a1 : Int32) : Option (Int32 × SX) :=
  (if ((σ 0).1 0) = 0 then some ((-1), σ) else m_O_role_11 N N σ a1 0)

set_option maxHeartbeats 4000000 in
set_option maxRecDepth 100000 in
theorem c_O_role (l : Launch) (dC : Nat → ClassId) (dI : Nat → Nat → Nat) (ad : Nat → Nat → Nat) (cs : Nat → ClassId) (sz N : Nat) (σ : SX) (a1 : Int32) {r0 : Int32} {σ0 : SX} (hM : m_O_role N σ a1 = some (r0, σ0)) : Met l y_O_role (wd y_O_role b_O_role 3 (some .int)) ({ frames := 0, cells := 0, slots := 0, locals := 0 }) (va_Pc [.ref (ad 0 0), .int a1] (preX dC dI ad cs sz σ)) (va_Qi (fun (r : Int32) (_ : Unit) => r = r0 ∧ σ = σ0) (fun _ _ => True) (fun q => sz ≤ q)) 0 0 (fun q => sz ≤ q) := by
  refine Met.ofW (cc := b_O_role) (maxL := 3) (ret := (some .int)) (by decide) rfl ?_
  intro p e s m args below meth c s₁ B hml hv
  obtain ⟨rfl, hsz, hP, hK, hD0, hN⟩ := hv
  have hx := B.exec
  have hb := B.bytes
  have hr := B.returns
  have hts := atoms_spec (ws := (wd y_O_role b_O_role 3 (some .int))) B.pre
  have htb : ∀ w ∈ tb, w.before _ s = true := fun w h => hts w (List.mem_cons_of_mem _ h)
  have hown : s.vm.findClass R_O = some m.cls := findClass_of_methodNamed B.named
  have hlocks := B.notSynchronized
  subst hsz
  have hD := hD0
  have hA : ∀ q : Nat, s.heap.size ≤ q → s.heap.size ≤ q := fun q h => h
  have hS : va_S (fun q => s.heap.size ≤ q) s.heap s.heap [] := va_S.rf
  have hP : va_P (dC, dI) classes (wX ad cs σ) s.heap := hP
  have hl := lv_entry ([.ref (ad 0 0), .int a1]) (n := 3) (Nat.le_of_ble_eq_true rfl)
  rw [lg_entry_eq]
  generalize (lg_sl ([.ref (ad 0 0), .int a1]) ++ List.replicate (3 - (lg_sl ([.ref (ad 0 0), .int a1])).length) Slot.unset).toArray = ls at hl ⊢
  have hl : lv_has ls 3 [(0, .ref (ad 0 0)), (1, .int a1)] := hl
  rw [m_O_role] at hM
  refine W_loop (pc := 11) (fun n11 H locs ls st => ∃ (v1 : Int32) (v2 : Int32), st = [] ∧ m_O_role_11 N n11 σ v1 v2 = some (r0, σ0) ∧ lv_has ls 3 [(0, .ref (ad 0 0)), (1, .int v1), (2, .int v2)] ∧ va_P (dC, dI) classes (wX ad cs σ) H ∧ va_D (fun _ => True) (wX ad cs σ) ∧ va_S (fun q => s.heap.size ≤ q) s.heap H locs) ?_ ?_ ?_
  · rintro H locs ls st ⟨v1, v2, -, hM, -⟩
    rw [m_O_role_11] at hM; cases hM
  · intro n11 K11 H locs ls st hI
    obtain ⟨v1, v2, rfl, hM, hl, hP, hD, hS⟩ := hI
    rw [m_O_role_11] at hM
    refine lv_iload_n hx hb d_O_role_11 rfl (lv_at hl 2 rfl) ?_
    refine lv_iconst (v := 4) hx hb d_O_role_12 (by decide) ?_
    refine lv_icmp_ge (tgt := 34) hx hb d_O_role_13 (by decide) (fun h13 => ?_) (fun h13 => ?_)
    · rw [if_pos h13] at hM
      refine lv_iconst (v := (-1)) hx hb d_O_role_34 (by decide) ?_
      have e9 := Prod.mk.inj (Option.some.inj hM)
      exact W.iret (v := (-1)) hx hb hr (fun t ht hW => ⟨⟨(-1), (), rfl, e9, trivial⟩, hS.F ht⟩) hS.2.2 d_O_role_35
    · rw [if_neg h13] at hM
      refine lv_aload_n hx hb d_O_role_16 rfl (lv_at hl 0 rfl) ?_
      refine va_get (D := (dC, dI)) (ci := 0) (v := .ref (ad 0 1)) (C := R_O) (T := F_O) (N := 12) hx hb htb in_O hown hK hP 0 (g_O) rfl 7 (by decide) (htb _ k_155) (fun _ h9 => h9) rfl d_O_role_17 ?_
      refine lv_iload_n hx hb d_O_role_20 rfl (lv_at hl 2 rfl) ?_
      have hg21 := gd_c hM
      have hM := gd_v hM
      refine va_iald hx hb hK hP 31 0 (g_O_a1) rfl (inb_in hg21) d_O_role_21 ?_
      refine lv_iload_n hx hb d_O_role_22 rfl (lv_at hl 1 rfl) ?_
      refine lv_icmp_ne (tgt := 28) hx hb d_O_role_23 (by decide) (fun h23 => ?_) (fun h23 => ?_)
      · rw [if_neg h23] at hM
        refine lv_iinc (k := 2) (v := (v2 + 1)) hx hb d_O_role_28 hl rfl rfl (by decide) (lv' := [(2, .int (v2 + 1)), (0, .ref (ad 0 0)), (1, .int v1)]) rfl (fun ls hl => ?_)
        refine lv_goto (tgt := 11) hx hb d_O_role_31 (by decide) ?_
        exact K11 _ _ _ _ ⟨v1, (v2 + 1), rfl, hM, lv_sub hl [1, 2, 0] rfl, hP, hD, hS⟩
      · rw [if_pos h23] at hM
        refine lv_iload_n hx hb d_O_role_26 rfl (lv_at hl 2 rfl) ?_
        have e9 := Prod.mk.inj (Option.some.inj hM)
        exact W.iret (v := v2) hx hb hr (fun t ht hW => ⟨⟨v2, (), rfl, e9, trivial⟩, hS.F ht⟩) hS.2.2 d_O_role_27
  intro K11
  refine lv_aload_n hx hb d_O_role_0 rfl (lv_at hl 0 rfl) ?_
  refine va_get (D := (dC, dI)) (ci := 0) (v := .int ((σ 0).1 0)) (C := R_O) (T := F_O) (N := 12) hx hb htb in_O hown hK hP 0 (g_O) rfl 10 (by decide) (htb _ k_158) (fun _ h9 => h9) rfl d_O_role_1 ?_
  refine lv_if_ne (tgt := 9) hx hb d_O_role_4 (by decide) (fun h4 => ?_) (fun h4 => ?_)
  · rw [if_neg h4] at hM
    refine lv_iconst (v := 0) hx hb d_O_role_9 (by decide) ?_
    refine lv_istore_n hx hb d_O_role_10 rfl hl (by decide) (lv' := [(2, .int 0), (0, .ref (ad 0 0)), (1, .int a1)]) rfl (fun ls hl => ?_)
    exact K11 N _ _ _ _ ⟨a1, 0, rfl, hM, lv_sub hl [1, 2, 0] rfl, hP, hD, hS⟩
  · rw [if_pos h4] at hM
    refine lv_iconst (v := (-1)) hx hb d_O_role_7 (by decide) ?_
    have e9 := Prod.mk.inj (Option.some.inj hM)
    exact W.iret (v := (-1)) hx hb hr (fun t ht hW => ⟨⟨(-1), (), rfl, e9, trivial⟩, hS.F ht⟩) hS.2.2 d_O_role_8

theorem d_O_length_0 : decode b_O_length 0 = .ok (.iload_n 1, 1) := by decide +kernel
theorem d_O_length_1 : decode b_O_length 1 = .ok (.invokestatic 127, 3) := by decide +kernel
theorem d_O_length_4 : decode b_O_length 4 = .ok (.ifCond .eq 16, 3) := by decide +kernel
theorem d_O_length_7 : decode b_O_length 7 = .ok (.aload_n 0, 1) := by decide +kernel
theorem d_O_length_8 : decode b_O_length 8 = .ok (.getfield 39, 3) := by decide +kernel
theorem d_O_length_11 : decode b_O_length 11 = .ok (.iload_n 1, 1) := by decide +kernel
theorem d_O_length_12 : decode b_O_length 12 = .ok (.aaload, 1) := by decide +kernel
theorem d_O_length_13 : decode b_O_length 13 = .ok (.iload_n 2, 1) := by decide +kernel
theorem d_O_length_14 : decode b_O_length 14 = .ok (.invokevirtual 149, 3) := by decide +kernel
theorem d_O_length_17 : decode b_O_length 17 = .ok (.goto 4, 3) := by decide +kernel
theorem d_O_length_20 : decode b_O_length 20 = .ok (.iconst (-1), 1) := by decide +kernel
theorem d_O_length_21 : decode b_O_length 21 = .ok (.ireturn, 1) := by decide +kernel
def m_O_length (N : Nat) (σ : SX) (a1 : Int32) (a2 : Int32) : Option (Int32 × SX) :=
  (bP (m_O_isTape a1) fun r1 => (if r1 = 0 then some ((-1), σ) else (if inb a1 4 = true then (bI (m_T_runLength N σ a1.toNatClampNeg a2) fun r14 σ14 => some (r14, σ)) else none)))

set_option maxHeartbeats 4000000 in
set_option maxRecDepth 100000 in
theorem c_O_length (l : Launch) (dC : Nat → ClassId) (dI : Nat → Nat → Nat) (ad : Nat → Nat → Nat) (cs : Nat → ClassId) (sz N : Nat) (σ : SX) (a1 : Int32) (a2 : Int32) {r0 : Int32} {σ0 : SX} (hM : m_O_length N σ a1 a2 = some (r0, σ0)) : Met l y_O_length (wd y_O_length b_O_length 3 (some .int)) ({ frames := 1, cells := 0, slots := 0, locals := 21 }) (va_Pc [.ref (ad 0 0), .int a1, .int a2] (preX dC dI ad cs sz σ)) (va_Qi (fun (r : Int32) (_ : Unit) => r = r0 ∧ σ = σ0) (fun _ _ => True) (fun q => sz ≤ q)) 0 0 (fun q => sz ≤ q) := by
  refine Met.ofW (cc := b_O_length) (maxL := 3) (ret := (some .int)) (by decide) rfl ?_
  intro p e s m args below meth c s₁ B hml hv
  obtain ⟨rfl, hsz, hP, hK, hD0, hN⟩ := hv
  have hx := B.exec
  have hb := B.bytes
  have hr := B.returns
  have hts := atoms_spec (ws := (wd y_O_length b_O_length 3 (some .int))) B.pre
  have htb : ∀ w ∈ tb, w.before _ s = true := fun w h => hts w (List.mem_cons_of_mem _ h)
  have hown : s.vm.findClass R_O = some m.cls := findClass_of_methodNamed B.named
  have hlocks := B.notSynchronized
  subst hsz
  have hD := hD0
  have hA : ∀ q : Nat, s.heap.size ≤ q → s.heap.size ≤ q := fun q h => h
  have hS : va_S (fun q => s.heap.size ≤ q) s.heap s.heap [] := va_S.rf
  have hP : va_P (dC, dI) classes (wX ad cs σ) s.heap := hP
  have hl := lv_entry ([.ref (ad 0 0), .int a1, .int a2]) (n := 3) (Nat.le_of_ble_eq_true rfl)
  rw [lg_entry_eq]
  generalize (lg_sl ([.ref (ad 0 0), .int a1, .int a2]) ++ List.replicate (3 - (lg_sl ([.ref (ad 0 0), .int a1, .int a2])).length) Slot.unset).toArray = ls at hl ⊢
  have hl : lv_has ls 3 [(0, .ref (ad 0 0)), (1, .int a1), (2, .int a2)] := hl
  rw [m_O_length] at hM
  refine lv_iload_n hx hb d_O_length_0 rfl (lv_at hl 1 rfl) ?_
  obtain ⟨x1, hq1, hM⟩ := bP_some hM
  refine va_calli (va_runS (As := [.int a1]) (rest := []) ⟨hx, hb, hml, hown, hts⟩ (c_O_isTape l _ a1 hq1) (cwS 1 hts (goodS k_245 k_246 k_1 k_247) rfl rfl rfl ⟨rfl, by decide, by decide, by decide +kernel⟩ ⟨Nat.le_of_ble_eq_true rfl, Nat.le_of_ble_eq_true rfl⟩) ⟨blindS, payS⟩ rfl rfl hl.1 rfl (lv_room (Nat.le_of_ble_eq_true rfl)) d_O_length_1 ⟨Nat.zero_le _, Nat.zero_le _⟩) hS (fun q h0 h => absurd h0 (Nat.not_lt.mpr h)) (fun q h => hA q (Nat.le_trans hS.1 h)) (fun r1 u t H locs ht hvm hpost hB hz1 hk1 hS => ?_)
  subst hpost
  have hP := keepP hP hk1
  refine lv_if_eq (tgt := 20) hx hb d_O_length_4 (by decide) (fun h4 => ?_) (fun h4 => ?_)
  · rw [if_pos h4] at hM
    refine lv_iconst (v := (-1)) hx hb d_O_length_20 (by decide) ?_
    have e9 := Prod.mk.inj (Option.some.inj hM)
    exact W.iret (v := (-1)) hx hb hr (fun t ht hW => ⟨⟨(-1), (), rfl, e9, trivial⟩, hS.F ht⟩) hS.2.2 d_O_length_21
  · rw [if_neg h4] at hM
    refine lv_aload_n hx hb d_O_length_7 rfl (lv_at hl 0 rfl) ?_
    refine va_get (D := (dC, dI)) (ci := 0) (v := .ref (ad 0 9)) (C := R_O) (T := F_O) (N := 12) hx hb htb in_O hown hK hP 0 (g_O) rfl 6 (by decide) (htb _ k_154) (fun _ h9 => h9) rfl d_O_length_8 ?_
    refine lv_iload_n hx hb d_O_length_11 rfl (lv_at hl 1 rfl) ?_
    have hg12 := gd_c hM
    have hM := gd_v hM
    refine va_aldq hx hb hK hP 18 2 (f := fun i => some (ad (7 + i) 0)) g_tapes rfl (inb_in hg12) d_O_length_12 ?_
    refine W.eq (g2 := F0 m 13 ls [.ref (ad (7 + a1.toNatClampNeg) 0)]) rfl ?_
    refine lv_iload_n hx hb d_O_length_13 rfl (lv_at hl 2 rfl) ?_
    obtain ⟨x14, y14, hq14, hM⟩ := bI_some hM
    refine va_calli (va_runV (As := [.int a2]) (rest := []) ⟨hx, hb, hml, hown, hts⟩ (c_T_runLength l dC dI ad cs _ N σ a1.toNatClampNeg (inb_lt hg12) a2 hq14) (cwV 1 hts (goodV k_268 k_269 k_270 k_7 k_271) rfl rfl rfl ⟨rfl, by decide, by decide, by decide +kernel⟩ ⟨Nat.le_of_ble_eq_true rfl, Nat.le_of_ble_eq_true rfl⟩) ⟨blindX, va_recv hK hP rfl (g_T (inb_lt hg12)), payX hP hK hD hN⟩ rfl rfl hl.1 rfl (lv_room (Nat.le_of_ble_eq_true rfl)) d_O_length_14 ⟨Nat.zero_le _, Nat.zero_le _⟩) hS (fun q h0 h => absurd h0 (Nat.not_lt.mpr h)) (fun q h => hA q (Nat.le_trans hS.1 h)) (fun r14 u t H locs ht hvm hpost hB hz1 hk1 hS => ?_)
    obtain ⟨e1, e2⟩ := hpost
    subst e1
    subst e2
    have hP := keepP hP hk1
    refine lv_goto (tgt := 21) hx hb d_O_length_17 (by decide) ?_
    have e9 := Prod.mk.inj (Option.some.inj hM)
    exact W.iret (v := r14) hx hb hr (fun t ht hW => ⟨⟨r14, (), rfl, e9, trivial⟩, hS.F ht⟩) hS.2.2 d_O_length_21

theorem d_O_at_0 : decode b_O_at 0 = .ok (.iload_n 1, 1) := by decide +kernel
theorem d_O_at_1 : decode b_O_at 1 = .ok (.invokestatic 127, 3) := by decide +kernel
theorem d_O_at_4 : decode b_O_at 4 = .ok (.ifCond .eq 17, 3) := by decide +kernel
theorem d_O_at_7 : decode b_O_at 7 = .ok (.aload_n 0, 1) := by decide +kernel
theorem d_O_at_8 : decode b_O_at 8 = .ok (.getfield 39, 3) := by decide +kernel
theorem d_O_at_11 : decode b_O_at 11 = .ok (.iload_n 1, 1) := by decide +kernel
theorem d_O_at_12 : decode b_O_at 12 = .ok (.aaload, 1) := by decide +kernel
theorem d_O_at_13 : decode b_O_at 13 = .ok (.iload_n 2, 1) := by decide +kernel
theorem d_O_at_14 : decode b_O_at 14 = .ok (.iload_n 3, 1) := by decide +kernel
theorem d_O_at_15 : decode b_O_at 15 = .ok (.invokevirtual 152, 3) := by decide +kernel
theorem d_O_at_18 : decode b_O_at 18 = .ok (.goto 4, 3) := by decide +kernel
theorem d_O_at_21 : decode b_O_at 21 = .ok (.iconst (-1), 1) := by decide +kernel
theorem d_O_at_22 : decode b_O_at 22 = .ok (.ireturn, 1) := by decide +kernel
def m_O_at (N : Nat) (σ : SX) (a1 : Int32) (a2 : Int32) (a3 : Int32) : Option (Int32 × SX) :=
  (bP (m_O_isTape a1) fun r1 => (if r1 = 0 then some ((-1), σ) else (if inb a1 4 = true then (bI (m_T_cardOfRun N σ a1.toNatClampNeg a2 a3) fun r15 σ15 => some (r15, σ)) else none)))

set_option maxHeartbeats 4000000 in
set_option maxRecDepth 100000 in
theorem c_O_at (l : Launch) (dC : Nat → ClassId) (dI : Nat → Nat → Nat) (ad : Nat → Nat → Nat) (cs : Nat → ClassId) (sz N : Nat) (σ : SX) (a1 : Int32) (a2 : Int32) (a3 : Int32) {r0 : Int32} {σ0 : SX} (hM : m_O_at N σ a1 a2 a3 = some (r0, σ0)) : Met l y_O_at (wd y_O_at b_O_at 4 (some .int)) ({ frames := 2, cells := 0, slots := 0, locals := 45 }) (va_Pc [.ref (ad 0 0), .int a1, .int a2, .int a3] (preX dC dI ad cs sz σ)) (va_Qi (fun (r : Int32) (_ : Unit) => r = r0 ∧ σ = σ0) (fun _ _ => True) (fun q => sz ≤ q)) 0 0 (fun q => sz ≤ q) := by
  refine Met.ofW (cc := b_O_at) (maxL := 4) (ret := (some .int)) (by decide) rfl ?_
  intro p e s m args below meth c s₁ B hml hv
  obtain ⟨rfl, hsz, hP, hK, hD0, hN⟩ := hv
  have hx := B.exec
  have hb := B.bytes
  have hr := B.returns
  have hts := atoms_spec (ws := (wd y_O_at b_O_at 4 (some .int))) B.pre
  have htb : ∀ w ∈ tb, w.before _ s = true := fun w h => hts w (List.mem_cons_of_mem _ h)
  have hown : s.vm.findClass R_O = some m.cls := findClass_of_methodNamed B.named
  have hlocks := B.notSynchronized
  subst hsz
  have hD := hD0
  have hA : ∀ q : Nat, s.heap.size ≤ q → s.heap.size ≤ q := fun q h => h
  have hS : va_S (fun q => s.heap.size ≤ q) s.heap s.heap [] := va_S.rf
  have hP : va_P (dC, dI) classes (wX ad cs σ) s.heap := hP
  have hl := lv_entry ([.ref (ad 0 0), .int a1, .int a2, .int a3]) (n := 4) (Nat.le_of_ble_eq_true rfl)
  rw [lg_entry_eq]
  generalize (lg_sl ([.ref (ad 0 0), .int a1, .int a2, .int a3]) ++ List.replicate (4 - (lg_sl ([.ref (ad 0 0), .int a1, .int a2, .int a3])).length) Slot.unset).toArray = ls at hl ⊢
  have hl : lv_has ls 4 [(0, .ref (ad 0 0)), (1, .int a1), (2, .int a2), (3, .int a3)] := hl
  rw [m_O_at] at hM
  refine lv_iload_n hx hb d_O_at_0 rfl (lv_at hl 1 rfl) ?_
  obtain ⟨x1, hq1, hM⟩ := bP_some hM
  refine va_calli (va_runS (As := [.int a1]) (rest := []) ⟨hx, hb, hml, hown, hts⟩ (c_O_isTape l _ a1 hq1) (cwS 1 hts (goodS k_245 k_246 k_1 k_247) rfl rfl rfl ⟨rfl, by decide, by decide, by decide +kernel⟩ ⟨Nat.le_of_ble_eq_true rfl, Nat.le_of_ble_eq_true rfl⟩) ⟨blindS, payS⟩ rfl rfl hl.1 rfl (lv_room (Nat.le_of_ble_eq_true rfl)) d_O_at_1 ⟨Nat.zero_le _, Nat.zero_le _⟩) hS (fun q h0 h => absurd h0 (Nat.not_lt.mpr h)) (fun q h => hA q (Nat.le_trans hS.1 h)) (fun r1 u t H locs ht hvm hpost hB hz1 hk1 hS => ?_)
  subst hpost
  have hP := keepP hP hk1
  refine lv_if_eq (tgt := 21) hx hb d_O_at_4 (by decide) (fun h4 => ?_) (fun h4 => ?_)
  · rw [if_pos h4] at hM
    refine lv_iconst (v := (-1)) hx hb d_O_at_21 (by decide) ?_
    have e9 := Prod.mk.inj (Option.some.inj hM)
    exact W.iret (v := (-1)) hx hb hr (fun t ht hW => ⟨⟨(-1), (), rfl, e9, trivial⟩, hS.F ht⟩) hS.2.2 d_O_at_22
  · rw [if_neg h4] at hM
    refine lv_aload_n hx hb d_O_at_7 rfl (lv_at hl 0 rfl) ?_
    refine va_get (D := (dC, dI)) (ci := 0) (v := .ref (ad 0 9)) (C := R_O) (T := F_O) (N := 12) hx hb htb in_O hown hK hP 0 (g_O) rfl 6 (by decide) (htb _ k_154) (fun _ h9 => h9) rfl d_O_at_8 ?_
    refine lv_iload_n hx hb d_O_at_11 rfl (lv_at hl 1 rfl) ?_
    have hg12 := gd_c hM
    have hM := gd_v hM
    refine va_aldq hx hb hK hP 18 2 (f := fun i => some (ad (7 + i) 0)) g_tapes rfl (inb_in hg12) d_O_at_12 ?_
    refine W.eq (g2 := F0 m 13 ls [.ref (ad (7 + a1.toNatClampNeg) 0)]) rfl ?_
    refine lv_iload_n hx hb d_O_at_13 rfl (lv_at hl 2 rfl) ?_
    refine lv_iload_n hx hb d_O_at_14 rfl (lv_at hl 3 rfl) ?_
    obtain ⟨x15, y15, hq15, hM⟩ := bI_some hM
    refine va_calli (va_runV (As := [.int a2, .int a3]) (rest := []) ⟨hx, hb, hml, hown, hts⟩ (c_T_cardOfRun l dC dI ad cs _ N σ a1.toNatClampNeg (inb_lt hg12) a2 a3 hq15) (cwV 2 hts (goodV k_276 k_277 k_278 k_7 k_279) rfl rfl rfl ⟨rfl, by decide, by decide, by decide +kernel⟩ ⟨Nat.le_of_ble_eq_true rfl, Nat.le_of_ble_eq_true rfl⟩) ⟨blindX, va_recv hK hP rfl (g_T (inb_lt hg12)), payX hP hK hD hN⟩ rfl rfl hl.1 rfl (lv_room (Nat.le_of_ble_eq_true rfl)) d_O_at_15 ⟨Nat.zero_le _, Nat.zero_le _⟩) hS (fun q h0 h => absurd h0 (Nat.not_lt.mpr h)) (fun q h => hA q (Nat.le_trans hS.1 h)) (fun r15 u t H locs ht hvm hpost hB hz1 hk1 hS => ?_)
    obtain ⟨e1, e2⟩ := hpost
    subst e1
    subst e2
    have hP := keepP hP hk1
    refine lv_goto (tgt := 22) hx hb d_O_at_18 (by decide) ?_
    have e9 := Prod.mk.inj (Option.some.inj hM)
    exact W.iret (v := r15) hx hb hr (fun t ht hW => ⟨⟨r15, (), rfl, e9, trivial⟩, hS.F ht⟩) hS.2.2 d_O_at_22

theorem d_S_holds_0 : decode b_S_holds 0 = .ok (.iconst 0, 1) := by decide +kernel
theorem d_S_holds_1 : decode b_S_holds 1 = .ok (.istore_n 2, 1) := by decide +kernel
theorem d_S_holds_2 : decode b_S_holds 2 = .ok (.iload_n 2, 1) := by decide +kernel
theorem d_S_holds_3 : decode b_S_holds 3 = .ok (.aload_n 0, 1) := by decide +kernel
theorem d_S_holds_4 : decode b_S_holds 4 = .ok (.getfield 19, 3) := by decide +kernel
theorem d_S_holds_7 : decode b_S_holds 7 = .ok (.if_icmp .ge 21, 3) := by decide +kernel
theorem d_S_holds_10 : decode b_S_holds 10 = .ok (.aload_n 0, 1) := by decide +kernel
theorem d_S_holds_11 : decode b_S_holds 11 = .ok (.getfield 9, 3) := by decide +kernel
theorem d_S_holds_14 : decode b_S_holds 14 = .ok (.iload_n 2, 1) := by decide +kernel
theorem d_S_holds_15 : decode b_S_holds 15 = .ok (.iaload, 1) := by decide +kernel
theorem d_S_holds_16 : decode b_S_holds 16 = .ok (.iload_n 1, 1) := by decide +kernel
theorem d_S_holds_17 : decode b_S_holds 17 = .ok (.if_icmp .ne 5, 3) := by decide +kernel
theorem d_S_holds_20 : decode b_S_holds 20 = .ok (.iconst 1, 1) := by decide +kernel
theorem d_S_holds_21 : decode b_S_holds 21 = .ok (.ireturn, 1) := by decide +kernel
theorem d_S_holds_22 : decode b_S_holds 22 = .ok (.iinc 2 1, 3) := by decide +kernel
theorem d_S_holds_25 : decode b_S_holds 25 = .ok (.goto (-23), 3) := by decide +kernel
theorem d_S_holds_28 : decode b_S_holds 28 = .ok (.iconst 0, 1) := by decide +kernel
theorem d_S_holds_29 : decode b_S_holds 29 = .ok (.ireturn, 1) := by decide +kernel
def m_S_holds_2 (N : Nat) (j : Nat) : Nat → SX → Int32 → Int32 → Option (Int32 × SX)
  | 0, _, _, _ => none
  | n2 + 1, σ, v1, v2 =>
    (if ((σ j).1 1) ≤ v2 then some (0, σ) else (if inb v2 8 = true then (if ((σ j).2 1 v2.toNatClampNeg) = v1 then some (1, σ) else m_S_holds_2 N j n2 σ v1 (v2 + 1)) else none))

def m_S_holds (N : Nat) (σ : SX) (j : Nat) (a1 : Int32) : Option (Int32 × SX) :=
  m_S_holds_2 N j N σ a1 0

set_option maxHeartbeats 4000000 in
set_option maxRecDepth 100000 in
theorem c_S_holds (l : Launch) (dC : Nat → ClassId) (dI : Nat → Nat → Nat) (ad : Nat → Nat → Nat) (cs : Nat → ClassId) (sz N : Nat) (σ : SX) (j : Nat) (hj : j = 2 ∨ j = 3) (a1 : Int32) {r0 : Int32} {σ0 : SX} (hM : m_S_holds N σ j a1 = some (r0, σ0)) : Met l y_S_holds (wd y_S_holds b_S_holds 3 (some .boolean)) ({ frames := 0, cells := 0, slots := 0, locals := 0 }) (va_Pc [.ref (ad j 0), .int a1] (preX dC dI ad cs sz σ)) (va_Qi (fun (r : Int32) (_ : Unit) => r = r0 ∧ σ = σ0) (fun _ _ => True) (fun q => sz ≤ q)) 0 0 (fun q => sz ≤ q) := by
  refine Met.ofW (cc := b_S_holds) (maxL := 3) (ret := (some .boolean)) (by decide) rfl ?_
  intro p e s m args below meth c s₁ B hml hv
  obtain ⟨rfl, hsz, hP, hK, hD0, hN⟩ := hv
  have hx := B.exec
  have hb := B.bytes
  have hr := B.returns
  have hts := atoms_spec (ws := (wd y_S_holds b_S_holds 3 (some .boolean))) B.pre
  have htb : ∀ w ∈ tb, w.before _ s = true := fun w h => hts w (List.mem_cons_of_mem _ h)
  have hown : s.vm.findClass R_S = some m.cls := findClass_of_methodNamed B.named
  have hlocks := B.notSynchronized
  subst hsz
  have hD := hD0
  have hA : ∀ q : Nat, s.heap.size ≤ q → s.heap.size ≤ q := fun q h => h
  have hS : va_S (fun q => s.heap.size ≤ q) s.heap s.heap [] := va_S.rf
  have hP : va_P (dC, dI) classes (wX ad cs σ) s.heap := hP
  have hl := lv_entry ([.ref (ad j 0), .int a1]) (n := 3) (Nat.le_of_ble_eq_true rfl)
  rw [lg_entry_eq]
  generalize (lg_sl ([.ref (ad j 0), .int a1]) ++ List.replicate (3 - (lg_sl ([.ref (ad j 0), .int a1])).length) Slot.unset).toArray = ls at hl ⊢
  have hl : lv_has ls 3 [(0, .ref (ad j 0)), (1, .int a1)] := hl
  rw [m_S_holds] at hM
  refine W_loop (pc := 2) (fun n2 H locs ls st => ∃ (v1 : Int32) (v2 : Int32), st = [] ∧ m_S_holds_2 N j n2 σ v1 v2 = some (r0, σ0) ∧ lv_has ls 3 [(0, .ref (ad j 0)), (1, .int v1), (2, .int v2)] ∧ va_P (dC, dI) classes (wX ad cs σ) H ∧ va_D (fun _ => True) (wX ad cs σ) ∧ va_S (fun q => s.heap.size ≤ q) s.heap H locs) ?_ ?_ ?_
  · rintro H locs ls st ⟨v1, v2, -, hM, -⟩
    rw [m_S_holds_2] at hM; cases hM
  · intro n2 K2 H locs ls st hI
    obtain ⟨v1, v2, rfl, hM, hl, hP, hD, hS⟩ := hI
    rw [m_S_holds_2] at hM
    refine lv_iload_n hx hb d_S_holds_2 rfl (lv_at hl 2 rfl) ?_
    refine lv_aload_n hx hb d_S_holds_3 rfl (lv_at hl 0 rfl) ?_
    refine va_get (D := (dC, dI)) (ci := 2) (v := .int ((σ j).1 1)) (C := R_S) (T := F_S) (N := 5) hx hb htb in_S hown hK hP (3 * j + 1) (g_S hj) rfl 3 (by decide) (htb _ k_110) (fun _ h9 => h9) rfl d_S_holds_4 ?_
    refine lv_icmp_ge (tgt := 28) hx hb d_S_holds_7 (by decide) (fun h7 => ?_) (fun h7 => ?_)
    · rw [if_pos h7] at hM
      refine lv_iconst (v := 0) hx hb d_S_holds_28 (by decide) ?_
      have e9 := Prod.mk.inj (Option.some.inj hM)
      exact W.zret (ty := .boolean) (v := 0) hx hb hr rfl (fun t ht hW => ⟨⟨0, (), rfl, e9, trivial⟩, hS.F ht⟩) hS.2.2 d_S_holds_29
    · rw [if_neg h7] at hM
      refine lv_aload_n hx hb d_S_holds_10 rfl (lv_at hl 0 rfl) ?_
      refine va_get (D := (dC, dI)) (ci := 2) (v := .ref (ad j 1)) (C := R_S) (T := F_S) (N := 5) hx hb htb in_S hown hK hP (3 * j + 1) (g_S hj) rfl 1 (by decide) (htb _ k_108) (fun _ h9 => h9) rfl d_S_holds_11 ?_
      refine lv_iload_n hx hb d_S_holds_14 rfl (lv_at hl 2 rfl) ?_
      have hg15 := gd_c hM
      have hM := gd_v hM
      refine va_iald hx hb hK hP (3 * j + 2) 0 (g_S_a1 hj) rfl (inb_in hg15) d_S_holds_15 ?_
      refine lv_iload_n hx hb d_S_holds_16 rfl (lv_at hl 1 rfl) ?_
      refine lv_icmp_ne (tgt := 22) hx hb d_S_holds_17 (by decide) (fun h17 => ?_) (fun h17 => ?_)
      · rw [if_neg h17] at hM
        refine lv_iinc (k := 2) (v := (v2 + 1)) hx hb d_S_holds_22 hl rfl rfl (by decide) (lv' := [(2, .int (v2 + 1)), (0, .ref (ad j 0)), (1, .int v1)]) rfl (fun ls hl => ?_)
        refine lv_goto (tgt := 2) hx hb d_S_holds_25 (by decide) ?_
        exact K2 _ _ _ _ ⟨v1, (v2 + 1), rfl, hM, lv_sub hl [1, 2, 0] rfl, hP, hD, hS⟩
      · rw [if_pos h17] at hM
        refine lv_iconst (v := 1) hx hb d_S_holds_20 (by decide) ?_
        have e9 := Prod.mk.inj (Option.some.inj hM)
        exact W.zret (ty := .boolean) (v := 1) hx hb hr rfl (fun t ht hW => ⟨⟨1, (), rfl, e9, trivial⟩, hS.F ht⟩) hS.2.2 d_S_holds_21
  intro K2
  refine lv_iconst (v := 0) hx hb d_S_holds_0 (by decide) ?_
  refine lv_istore_n hx hb d_S_holds_1 rfl hl (by decide) (lv' := [(2, .int 0), (0, .ref (ad j 0)), (1, .int a1)]) rfl (fun ls hl => ?_)
  exact K2 N _ _ _ _ ⟨a1, 0, rfl, hM, lv_sub hl [1, 2, 0] rfl, hP, hD, hS⟩

theorem d_O_memory_0 : decode b_O_memory 0 = .ok (.aload_n 0, 1) := by decide +kernel
theorem d_O_memory_1 : decode b_O_memory 1 = .ok (.getfield 65, 3) := by decide +kernel
theorem d_O_memory_4 : decode b_O_memory 4 = .ok (.iload_n 1, 1) := by decide +kernel
theorem d_O_memory_5 : decode b_O_memory 5 = .ok (.invokevirtual 155, 3) := by decide +kernel
theorem d_O_memory_8 : decode b_O_memory 8 = .ok (.ireturn, 1) := by decide +kernel
def m_O_memory (N : Nat) (σ : SX) (a1 : Int32) : Option (Int32 × SX) :=
  (bI (m_S_holds N σ 2 a1) fun r5 σ5 => (if isB r5 = true then some (r5, σ) else none))

set_option maxHeartbeats 4000000 in
set_option maxRecDepth 100000 in
theorem c_O_memory (l : Launch) (dC : Nat → ClassId) (dI : Nat → Nat → Nat) (ad : Nat → Nat → Nat) (cs : Nat → ClassId) (sz N : Nat) (σ : SX) (a1 : Int32) {r0 : Int32} {σ0 : SX} (hM : m_O_memory N σ a1 = some (r0, σ0)) : Met l y_O_memory (wd y_O_memory b_O_memory 2 (some .boolean)) ({ frames := 1, cells := 0, slots := 0, locals := 22 }) (va_Pc [.ref (ad 0 0), .int a1] (preX dC dI ad cs sz σ)) (va_Qi (fun (r : Int32) (_ : Unit) => r = r0 ∧ σ = σ0) (fun _ _ => True) (fun q => sz ≤ q)) 0 0 (fun q => sz ≤ q) := by
  refine Met.ofW (cc := b_O_memory) (maxL := 2) (ret := (some .boolean)) (by decide) rfl ?_
  intro p e s m args below meth c s₁ B hml hv
  obtain ⟨rfl, hsz, hP, hK, hD0, hN⟩ := hv
  have hx := B.exec
  have hb := B.bytes
  have hr := B.returns
  have hts := atoms_spec (ws := (wd y_O_memory b_O_memory 2 (some .boolean))) B.pre
  have htb : ∀ w ∈ tb, w.before _ s = true := fun w h => hts w (List.mem_cons_of_mem _ h)
  have hown : s.vm.findClass R_O = some m.cls := findClass_of_methodNamed B.named
  have hlocks := B.notSynchronized
  subst hsz
  have hD := hD0
  have hA : ∀ q : Nat, s.heap.size ≤ q → s.heap.size ≤ q := fun q h => h
  have hS : va_S (fun q => s.heap.size ≤ q) s.heap s.heap [] := va_S.rf
  have hP : va_P (dC, dI) classes (wX ad cs σ) s.heap := hP
  have hl := lv_entry ([.ref (ad 0 0), .int a1]) (n := 2) (Nat.le_of_ble_eq_true rfl)
  rw [lg_entry_eq]
  generalize (lg_sl ([.ref (ad 0 0), .int a1]) ++ List.replicate (2 - (lg_sl ([.ref (ad 0 0), .int a1])).length) Slot.unset).toArray = ls at hl ⊢
  have hl : lv_has ls 2 [(0, .ref (ad 0 0)), (1, .int a1)] := hl
  rw [m_O_memory] at hM
  refine lv_aload_n hx hb d_O_memory_0 rfl (lv_at hl 0 rfl) ?_
  refine va_get (D := (dC, dI)) (ci := 0) (v := .ref (ad 2 0)) (C := R_O) (T := F_O) (N := 12) hx hb htb in_O hown hK hP 0 (g_O) rfl 1 (by decide) (htb _ k_149) (fun _ h9 => h9) rfl d_O_memory_1 ?_
  refine lv_iload_n hx hb d_O_memory_4 rfl (lv_at hl 1 rfl) ?_
  obtain ⟨x5, y5, hq5, hM⟩ := bI_some hM
  refine va_calli (va_runV (As := [.int a1]) (rest := []) ⟨hx, hb, hml, hown, hts⟩ (c_S_holds l dC dI ad cs _ N σ 2 (Or.inl rfl) a1 hq5) (cwV 1 hts (goodV k_285 k_286 k_287 k_6 k_288) rfl rfl rfl ⟨rfl, by decide, by decide, by decide +kernel⟩ ⟨Nat.le_of_ble_eq_true rfl, Nat.le_of_ble_eq_true rfl⟩) ⟨blindX, va_recv hK hP rfl (g_S (Or.inl rfl)), payX hP hK hD hN⟩ rfl rfl hl.1 rfl (lv_room (Nat.le_of_ble_eq_true rfl)) d_O_memory_5 ⟨Nat.zero_le _, Nat.zero_le _⟩) hS (fun q h0 h => absurd h0 (Nat.not_lt.mpr h)) (fun q h => hA q (Nat.le_trans hS.1 h)) (fun r5 u t H locs ht hvm hpost hB hz1 hk1 hS => ?_)
  obtain ⟨e1, e2⟩ := hpost
  subst e1
  subst e2
  have hP := keepP hP hk1
  have hz8 := gd_c hM
  have hM := gd_v hM
  have e9 := Prod.mk.inj (Option.some.inj hM)
  exact W.zret (ty := .boolean) (v := r5) hx hb hr (isB_n hz8) (fun t ht hW => ⟨⟨r5, (), rfl, e9, trivial⟩, hS.F ht⟩) hS.2.2 d_O_memory_8

theorem d_V_total_0 : decode b_V_total 0 = .ok (.aload_n 0, 1) := by decide +kernel
theorem d_V_total_1 : decode b_V_total 1 = .ok (.getfield 7, 3) := by decide +kernel
theorem d_V_total_4 : decode b_V_total 4 = .ok (.ireturn, 1) := by decide +kernel
def m_V_total (N : Nat) (σ : SX) : Option (Int32 × SX) :=
  some (((σ 5).1 0), σ)

set_option maxHeartbeats 4000000 in
set_option maxRecDepth 100000 in
theorem c_V_total (l : Launch) (dC : Nat → ClassId) (dI : Nat → Nat → Nat) (ad : Nat → Nat → Nat) (cs : Nat → ClassId) (sz N : Nat) (σ : SX) {r0 : Int32} {σ0 : SX} (hM : m_V_total N σ = some (r0, σ0)) : Met l y_V_total (wd y_V_total b_V_total 1 (some .int)) ({ frames := 0, cells := 0, slots := 0, locals := 0 }) (va_Pc [.ref (ad 5 0)] (preX dC dI ad cs sz σ)) (va_Qi (fun (r : Int32) (_ : Unit) => r = r0 ∧ σ = σ0) (fun _ _ => True) (fun q => sz ≤ q)) 0 0 (fun q => sz ≤ q) := by
  refine Met.ofW (cc := b_V_total) (maxL := 1) (ret := (some .int)) (by decide) rfl ?_
  intro p e s m args below meth c s₁ B hml hv
  obtain ⟨rfl, hsz, hP, hK, hD0, hN⟩ := hv
  have hx := B.exec
  have hb := B.bytes
  have hr := B.returns
  have hts := atoms_spec (ws := (wd y_V_total b_V_total 1 (some .int))) B.pre
  have htb : ∀ w ∈ tb, w.before _ s = true := fun w h => hts w (List.mem_cons_of_mem _ h)
  have hown : s.vm.findClass R_V = some m.cls := findClass_of_methodNamed B.named
  have hlocks := B.notSynchronized
  subst hsz
  have hD := hD0
  have hA : ∀ q : Nat, s.heap.size ≤ q → s.heap.size ≤ q := fun q h => h
  have hS : va_S (fun q => s.heap.size ≤ q) s.heap s.heap [] := va_S.rf
  have hP : va_P (dC, dI) classes (wX ad cs σ) s.heap := hP
  have hl := lv_entry ([.ref (ad 5 0)]) (n := 1) (Nat.le_of_ble_eq_true rfl)
  rw [lg_entry_eq]
  generalize (lg_sl ([.ref (ad 5 0)]) ++ List.replicate (1 - (lg_sl ([.ref (ad 5 0)])).length) Slot.unset).toArray = ls at hl ⊢
  have hl : lv_has ls 1 [(0, .ref (ad 5 0))] := hl
  rw [m_V_total] at hM
  refine lv_aload_n hx hb d_V_total_0 rfl (lv_at hl 0 rfl) ?_
  refine va_get (D := (dC, dI)) (ci := 4) (v := .int ((σ 5).1 0)) (C := R_V) (T := F_V) (N := 4) hx hb htb in_V hown hK hP 15 (g_V) rfl 0 (by decide) (htb _ k_71) (fun _ h9 => h9) rfl d_V_total_1 ?_
  have e9 := Prod.mk.inj (Option.some.inj hM)
  exact W.iret (v := ((σ 5).1 0)) hx hb hr (fun t ht hW => ⟨⟨((σ 5).1 0), (), rfl, e9, trivial⟩, hS.F ht⟩) hS.2.2 d_V_total_4

theorem d_O_written_0 : decode b_O_written 0 = .ok (.aload_n 0, 1) := by decide +kernel
theorem d_O_written_1 : decode b_O_written 1 = .ok (.getfield 26, 3) := by decide +kernel
theorem d_O_written_4 : decode b_O_written 4 = .ok (.invokevirtual 158, 3) := by decide +kernel
theorem d_O_written_7 : decode b_O_written 7 = .ok (.ireturn, 1) := by decide +kernel
def m_O_written (N : Nat) (σ : SX) : Option (Int32 × SX) :=
  (bI (m_V_total N σ) fun r4 σ4 => some (r4, σ))

set_option maxHeartbeats 4000000 in
set_option maxRecDepth 100000 in
theorem c_O_written (l : Launch) (dC : Nat → ClassId) (dI : Nat → Nat → Nat) (ad : Nat → Nat → Nat) (cs : Nat → ClassId) (sz N : Nat) (σ : SX) {r0 : Int32} {σ0 : SX} (hM : m_O_written N σ = some (r0, σ0)) : Met l y_O_written (wd y_O_written b_O_written 1 (some .int)) ({ frames := 1, cells := 0, slots := 0, locals := 20 }) (va_Pc [.ref (ad 0 0)] (preX dC dI ad cs sz σ)) (va_Qi (fun (r : Int32) (_ : Unit) => r = r0 ∧ σ = σ0) (fun _ _ => True) (fun q => sz ≤ q)) 0 0 (fun q => sz ≤ q) := by
  refine Met.ofW (cc := b_O_written) (maxL := 1) (ret := (some .int)) (by decide) rfl ?_
  intro p e s m args below meth c s₁ B hml hv
  obtain ⟨rfl, hsz, hP, hK, hD0, hN⟩ := hv
  have hx := B.exec
  have hb := B.bytes
  have hr := B.returns
  have hts := atoms_spec (ws := (wd y_O_written b_O_written 1 (some .int))) B.pre
  have htb : ∀ w ∈ tb, w.before _ s = true := fun w h => hts w (List.mem_cons_of_mem _ h)
  have hown : s.vm.findClass R_O = some m.cls := findClass_of_methodNamed B.named
  have hlocks := B.notSynchronized
  subst hsz
  have hD := hD0
  have hA : ∀ q : Nat, s.heap.size ≤ q → s.heap.size ≤ q := fun q h => h
  have hS : va_S (fun q => s.heap.size ≤ q) s.heap s.heap [] := va_S.rf
  have hP : va_P (dC, dI) classes (wX ad cs σ) s.heap := hP
  have hl := lv_entry ([.ref (ad 0 0)]) (n := 1) (Nat.le_of_ble_eq_true rfl)
  rw [lg_entry_eq]
  generalize (lg_sl ([.ref (ad 0 0)]) ++ List.replicate (1 - (lg_sl ([.ref (ad 0 0)])).length) Slot.unset).toArray = ls at hl ⊢
  have hl : lv_has ls 1 [(0, .ref (ad 0 0))] := hl
  rw [m_O_written] at hM
  refine lv_aload_n hx hb d_O_written_0 rfl (lv_at hl 0 rfl) ?_
  refine va_get (D := (dC, dI)) (ci := 0) (v := .ref (ad 5 0)) (C := R_O) (T := F_O) (N := 12) hx hb htb in_O hown hK hP 0 (g_O) rfl 4 (by decide) (htb _ k_152) (fun _ h9 => h9) rfl d_O_written_1 ?_
  obtain ⟨x4, y4, hq4, hM⟩ := bI_some hM
  refine va_calli (va_runV (As := []) (rest := []) ⟨hx, hb, hml, hown, hts⟩ (c_V_total l dC dI ad cs _ N σ hq4) (cwV 0 hts (goodV k_293 k_294 k_295 k_4 k_296) rfl rfl rfl ⟨rfl, by decide, by decide, by decide +kernel⟩ ⟨Nat.le_of_ble_eq_true rfl, Nat.le_of_ble_eq_true rfl⟩) ⟨blindX, va_recv hK hP rfl (g_V), payX hP hK hD hN⟩ rfl rfl hl.1 rfl (lv_room (Nat.le_of_ble_eq_true rfl)) d_O_written_4 ⟨Nat.zero_le _, Nat.zero_le _⟩) hS (fun q h0 h => absurd h0 (Nat.not_lt.mpr h)) (fun q h => hA q (Nat.le_trans hS.1 h)) (fun r4 u t H locs ht hvm hpost hB hz1 hk1 hS => ?_)
  obtain ⟨e1, e2⟩ := hpost
  subst e1
  subst e2
  have hP := keepP hP hk1
  have e9 := Prod.mk.inj (Option.some.inj hM)
  exact W.iret (v := r4) hx hb hr (fun t ht hW => ⟨⟨r4, (), rfl, e9, trivial⟩, hS.F ht⟩) hS.2.2 d_O_written_7

theorem d_O_broken_0 : decode b_O_broken 0 = .ok (.aload_n 0, 1) := by decide +kernel
theorem d_O_broken_1 : decode b_O_broken 1 = .ok (.getfield 57, 3) := by decide +kernel
theorem d_O_broken_4 : decode b_O_broken 4 = .ok (.ireturn, 1) := by decide +kernel
def m_O_broken (N : Nat) (σ : SX) : Option (Int32 × SX) :=
  some (((σ 0).1 1), σ)

set_option maxHeartbeats 4000000 in
set_option maxRecDepth 100000 in
theorem c_O_broken (l : Launch) (dC : Nat → ClassId) (dI : Nat → Nat → Nat) (ad : Nat → Nat → Nat) (cs : Nat → ClassId) (sz N : Nat) (σ : SX) {r0 : Int32} {σ0 : SX} (hM : m_O_broken N σ = some (r0, σ0)) : Met l y_O_broken (wd y_O_broken b_O_broken 1 (some .int)) ({ frames := 0, cells := 0, slots := 0, locals := 0 }) (va_Pc [.ref (ad 0 0)] (preX dC dI ad cs sz σ)) (va_Qi (fun (r : Int32) (_ : Unit) => r = r0 ∧ σ = σ0) (fun _ _ => True) (fun q => sz ≤ q)) 0 0 (fun q => sz ≤ q) := by
  refine Met.ofW (cc := b_O_broken) (maxL := 1) (ret := (some .int)) (by decide) rfl ?_
  intro p e s m args below meth c s₁ B hml hv
  obtain ⟨rfl, hsz, hP, hK, hD0, hN⟩ := hv
  have hx := B.exec
  have hb := B.bytes
  have hr := B.returns
  have hts := atoms_spec (ws := (wd y_O_broken b_O_broken 1 (some .int))) B.pre
  have htb : ∀ w ∈ tb, w.before _ s = true := fun w h => hts w (List.mem_cons_of_mem _ h)
  have hown : s.vm.findClass R_O = some m.cls := findClass_of_methodNamed B.named
  have hlocks := B.notSynchronized
  subst hsz
  have hD := hD0
  have hA : ∀ q : Nat, s.heap.size ≤ q → s.heap.size ≤ q := fun q h => h
  have hS : va_S (fun q => s.heap.size ≤ q) s.heap s.heap [] := va_S.rf
  have hP : va_P (dC, dI) classes (wX ad cs σ) s.heap := hP
  have hl := lv_entry ([.ref (ad 0 0)]) (n := 1) (Nat.le_of_ble_eq_true rfl)
  rw [lg_entry_eq]
  generalize (lg_sl ([.ref (ad 0 0)]) ++ List.replicate (1 - (lg_sl ([.ref (ad 0 0)])).length) Slot.unset).toArray = ls at hl ⊢
  have hl : lv_has ls 1 [(0, .ref (ad 0 0))] := hl
  rw [m_O_broken] at hM
  refine lv_aload_n hx hb d_O_broken_0 rfl (lv_at hl 0 rfl) ?_
  refine va_get (D := (dC, dI)) (ci := 0) (v := .int ((σ 0).1 1)) (C := R_O) (T := F_O) (N := 12) hx hb htb in_O hown hK hP 0 (g_O) rfl 11 (by decide) (htb _ k_159) (fun _ h9 => h9) rfl d_O_broken_1 ?_
  have e9 := Prod.mk.inj (Option.some.inj hM)
  exact W.iret (v := ((σ 0).1 1)) hx hb hr (fun t ht hW => ⟨⟨((σ 0).1 1), (), rfl, e9, trivial⟩, hS.F ht⟩) hS.2.2 d_O_broken_4
