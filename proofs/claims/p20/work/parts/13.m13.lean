theorem d_T_useFault_0 : decode b_T_useFault 0 = .ok (.aload_n 0, 1) := by decide +kernel
theorem d_T_useFault_1 : decode b_T_useFault 1 = .ok (.getfield 28, 3) := by decide +kernel
theorem d_T_useFault_4 : decode b_T_useFault 4 = .ok (.ifCond .ne 5, 3) := by decide +kernel
theorem d_T_useFault_7 : decode b_T_useFault 7 = .ok (.iconst 0, 1) := by decide +kernel
theorem d_T_useFault_8 : decode b_T_useFault 8 = .ok (.ireturn, 1) := by decide +kernel
theorem d_T_useFault_9 : decode b_T_useFault 9 = .ok (.aload_n 0, 1) := by decide +kernel
theorem d_T_useFault_10 : decode b_T_useFault 10 = .ok (.dup, 1) := by decide +kernel
theorem d_T_useFault_11 : decode b_T_useFault 11 = .ok (.getfield 28, 3) := by decide +kernel
theorem d_T_useFault_14 : decode b_T_useFault 14 = .ok (.iconst 1, 1) := by decide +kernel
theorem d_T_useFault_15 : decode b_T_useFault 15 = .ok (.isub, 1) := by decide +kernel
theorem d_T_useFault_16 : decode b_T_useFault 16 = .ok (.putfield 28, 3) := by decide +kernel
theorem d_T_useFault_19 : decode b_T_useFault 19 = .ok (.iconst 1, 1) := by decide +kernel
theorem d_T_useFault_20 : decode b_T_useFault 20 = .ok (.ireturn, 1) := by decide +kernel
def m_T_useFault (N : Nat) (σ : SX) (i : Nat) : Option (Int32 × SX) :=
  (if ((σ (7 + i)).1 3) = 0 then some (0, σ) else some (1, (w1 σ (7 + i) 3 (((σ (7 + i)).1 3) - 1))))

set_option maxHeartbeats 4000000 in
set_option maxRecDepth 100000 in
theorem c_T_useFault (l : Launch) (dC : Nat → ClassId) (dI : Nat → Nat → Nat) (ad : Nat → Nat → Nat) (cs : Nat → ClassId) (sz N : Nat) (σ : SX) (i : Nat) (hi : i < 4) {r0 : Int32} {σ0 : SX} (hM : m_T_useFault N σ i = some (r0, σ0)) : Met l y_T_useFault (wd y_T_useFault b_T_useFault 1 (some .boolean)) ({ frames := 0, cells := 0, slots := 0, locals := 0 }) (va_Pc [.ref (ad (7 + i) 0)] (preX dC dI ad cs sz σ)) (va_Qi (fun (r : Int32) (u : SX) => r = r0 ∧ u = σ0) (atX dC dI ad cs (va_A (wX ad cs σ) sz)) (va_A (wX ad cs σ) sz)) 0 0 (va_A (wX ad cs σ) sz) := by
  refine Met.ofW (cc := b_T_useFault) (maxL := 1) (ret := (some .boolean)) (by decide) rfl ?_
  intro p e s m args below meth c s₁ B hml hv
  obtain ⟨rfl, hsz, hP, hK, hD0, hN⟩ := hv
  have hx := B.exec
  have hb := B.bytes
  have hr := B.returns
  have hts := atoms_spec (ws := (wd y_T_useFault b_T_useFault 1 (some .boolean))) B.pre
  have htb : ∀ w ∈ tb, w.before _ s = true := fun w h => hts w (List.mem_cons_of_mem _ h)
  have hown : s.vm.findClass R_T = some m.cls := findClass_of_methodNamed B.named
  have hlocks := B.notSynchronized
  subst hsz
  have hD := hD0.self (sz := s.heap.size)
  generalize hAe : va_A (wX ad cs σ) s.heap.size = A at hD ⊢
  have hA : ∀ q : Nat, s.heap.size ≤ q → A q := fun q h => by rw [← hAe]; exact Or.inr h
  have hS : va_S A s.heap s.heap [] := va_S.rf
  have hP : va_P (dC, dI) classes (wX ad cs σ) s.heap := hP
  have hl := lv_entry ([.ref (ad (7 + i) 0)]) (n := 1) (Nat.le_of_ble_eq_true rfl)
  rw [lg_entry_eq]
  generalize (lg_sl ([.ref (ad (7 + i) 0)]) ++ List.replicate (1 - (lg_sl ([.ref (ad (7 + i) 0)])).length) Slot.unset).toArray = ls at hl ⊢
  have hl : lv_has ls 1 [(0, .ref (ad (7 + i) 0))] := hl
  rw [m_T_useFault] at hM
  refine lv_aload_n hx hb d_T_useFault_0 rfl (lv_at hl 0 rfl) ?_
  refine va_get (D := (dC, dI)) (ci := 6) (v := .int ((σ (7 + i)).1 3)) (C := R_T) (T := F_T) (N := 6) hx hb htb in_T hown hK hP (19 + 3 * i) (g_T hi) rfl 5 (by decide) (htb _ k_134) (fun _ h9 => h9) rfl d_T_useFault_1 ?_
  refine lv_if_ne (tgt := 9) hx hb d_T_useFault_4 (by decide) (fun h4 => ?_) (fun h4 => ?_)
  · rw [if_neg h4] at hM
    refine lv_aload_n hx hb d_T_useFault_9 rfl (lv_at hl 0 rfl) ?_
    refine lv_dup hx hb d_T_useFault_10 rfl ?_
    refine va_get (D := (dC, dI)) (ci := 6) (v := .int ((σ (7 + i)).1 3)) (C := R_T) (T := F_T) (N := 6) hx hb htb in_T hown hK hP (19 + 3 * i) (g_T hi) rfl 5 (by decide) (htb _ k_134) (fun _ h9 => h9) rfl d_T_useFault_11 ?_
    refine lv_iconst (v := 1) hx hb d_T_useFault_14 (by decide) ?_
    refine lv_isub hx hb d_T_useFault_15 ?_
    refine va_put (D := (dC, dI)) (ci := 6) (v := .int (((σ (7 + i)).1 3) - 1)) (ty := .int) (C := R_T) (T := F_T) (N := 6) hx hb htb in_T ft_T ft_T_ok n_T hown hK hP hD hS (19 + 3 * i) (g_T hi) rfl 5 (by decide) (htb _ k_134) (fun _ h9 => h9) rfl (by decide +kernel) rfl rfl (Nat.le_of_ble_eq_true rfl) d_T_useFault_16 (fun H locs hP hD hS => ?_)
    have hP := P_eq (s_T_3 hi) hP
    have hD := D_eq (s_T_3 hi) hD
    refine lv_iconst (v := 1) hx hb d_T_useFault_19 (by decide) ?_
    have e9 := Prod.mk.inj (Option.some.inj hM)
    exact W.zret (ty := .boolean) (v := 1) hx hb hr rfl (fun t ht hW => ⟨⟨1, (w1 σ (7 + i) 3 (((σ (7 + i)).1 3) - 1)), rfl, e9, by rw [ht]; exact hP, va_K.moved hW.alike hK, hD⟩, hS.F ht⟩) hS.2.2 d_T_useFault_20
  · rw [if_pos h4] at hM
    refine lv_iconst (v := 0) hx hb d_T_useFault_7 (by decide) ?_
    have e9 := Prod.mk.inj (Option.some.inj hM)
    exact W.zret (ty := .boolean) (v := 0) hx hb hr rfl (fun t ht hW => ⟨⟨0, σ, rfl, e9, by rw [ht]; exact hP, va_K.moved hW.alike hK, hD⟩, hS.F ht⟩) hS.2.2 d_T_useFault_8

theorem d_O_sourcesCanBeRead_0 : decode b_O_sourcesCanBeRead 0 = .ok (.iconst 1, 1) := by decide +kernel
theorem d_O_sourcesCanBeRead_1 : decode b_O_sourcesCanBeRead 1 = .ok (.istore_n 1, 1) := by decide +kernel
theorem d_O_sourcesCanBeRead_2 : decode b_O_sourcesCanBeRead 2 = .ok (.iconst 0, 1) := by decide +kernel
theorem d_O_sourcesCanBeRead_3 : decode b_O_sourcesCanBeRead 3 = .ok (.istore_n 2, 1) := by decide +kernel
theorem d_O_sourcesCanBeRead_4 : decode b_O_sourcesCanBeRead 4 = .ok (.iload_n 2, 1) := by decide +kernel
theorem d_O_sourcesCanBeRead_5 : decode b_O_sourcesCanBeRead 5 = .ok (.iconst 3, 1) := by decide +kernel
theorem d_O_sourcesCanBeRead_6 : decode b_O_sourcesCanBeRead 6 = .ok (.if_icmp .ge 31, 3) := by decide +kernel
theorem d_O_sourcesCanBeRead_9 : decode b_O_sourcesCanBeRead 9 = .ok (.aload_n 0, 1) := by decide +kernel
theorem d_O_sourcesCanBeRead_10 : decode b_O_sourcesCanBeRead 10 = .ok (.iload_n 2, 1) := by decide +kernel
theorem d_O_sourcesCanBeRead_11 : decode b_O_sourcesCanBeRead 11 = .ok (.invokevirtual 161, 3) := by decide +kernel
theorem d_O_sourcesCanBeRead_14 : decode b_O_sourcesCanBeRead 14 = .ok (.astore_n 3, 1) := by decide +kernel
theorem d_O_sourcesCanBeRead_15 : decode b_O_sourcesCanBeRead 15 = .ok (.aload_n 3, 1) := by decide +kernel
theorem d_O_sourcesCanBeRead_16 : decode b_O_sourcesCanBeRead 16 = .ok (.invokevirtual 232, 3) := by decide +kernel
theorem d_O_sourcesCanBeRead_19 : decode b_O_sourcesCanBeRead 19 = .ok (.ifCond .ne 12, 3) := by decide +kernel
theorem d_O_sourcesCanBeRead_22 : decode b_O_sourcesCanBeRead 22 = .ok (.aload_n 3, 1) := by decide +kernel
theorem d_O_sourcesCanBeRead_23 : decode b_O_sourcesCanBeRead 23 = .ok (.invokevirtual 235, 3) := by decide +kernel
theorem d_O_sourcesCanBeRead_26 : decode b_O_sourcesCanBeRead 26 = .ok (.ifCond .eq 5, 3) := by decide +kernel
theorem d_O_sourcesCanBeRead_29 : decode b_O_sourcesCanBeRead 29 = .ok (.iconst 0, 1) := by decide +kernel
theorem d_O_sourcesCanBeRead_30 : decode b_O_sourcesCanBeRead 30 = .ok (.istore_n 1, 1) := by decide +kernel
theorem d_O_sourcesCanBeRead_31 : decode b_O_sourcesCanBeRead 31 = .ok (.iinc 2 1, 3) := by decide +kernel
theorem d_O_sourcesCanBeRead_34 : decode b_O_sourcesCanBeRead 34 = .ok (.goto (-30), 3) := by decide +kernel
theorem d_O_sourcesCanBeRead_37 : decode b_O_sourcesCanBeRead 37 = .ok (.iload_n 1, 1) := by decide +kernel
theorem d_O_sourcesCanBeRead_38 : decode b_O_sourcesCanBeRead 38 = .ok (.ireturn, 1) := by decide +kernel
def m_O_sourcesCanBeRead_4 (N : Nat) : Nat → SX → Int32 → Int32 → Option (Int32 × SX)
  | 0, _, _, _ => none
  | n4 + 1, σ, v1, v2 =>
    (if 3 ≤ v2 then (if isB v1 = true then some (v1, σ) else none) else (bR (m_O_tapeInRole N σ v2) fun x11 σ11 => (bI (m_T_hasDummy N σ x11) fun r16 σ16 => (if r16 = 0 then (bI (m_T_useFault N σ x11) fun r23 σ23 => (if r23 = 0 then m_O_sourcesCanBeRead_4 N n4 σ23 v1 (v2 + 1) else m_O_sourcesCanBeRead_4 N n4 σ23 0 (v2 + 1))) else m_O_sourcesCanBeRead_4 N n4 σ v1 (v2 + 1)))))

def m_O_sourcesCanBeRead (N : Nat) (σ : SX) : Option (Int32 × SX) :=
  m_O_sourcesCanBeRead_4 N N σ 1 0

set_option maxHeartbeats 4000000 in
set_option maxRecDepth 100000 in
theorem c_O_sourcesCanBeRead (l : Launch) (dC : Nat → ClassId) (dI : Nat → Nat → Nat) (ad : Nat → Nat → Nat) (cs : Nat → ClassId) (sz N : Nat) (σ : SX) {r0 : Int32} {σ0 : SX} (hM : m_O_sourcesCanBeRead N σ = some (r0, σ0)) : Met l y_O_sourcesCanBeRead (wd y_O_sourcesCanBeRead b_O_sourcesCanBeRead 4 (some .boolean)) ({ frames := 1, cells := 0, slots := 0, locals := 21 }) (va_Pc [.ref (ad 0 0)] (preX dC dI ad cs sz σ)) (va_Qi (fun (r : Int32) (u : SX) => r = r0 ∧ u = σ0) (atX dC dI ad cs (va_A (wX ad cs σ) sz)) (va_A (wX ad cs σ) sz)) 0 0 (va_A (wX ad cs σ) sz) := by
  refine Met.ofW (cc := b_O_sourcesCanBeRead) (maxL := 4) (ret := (some .boolean)) (by decide) rfl ?_
  intro p e s m args below meth c s₁ B hml hv
  obtain ⟨rfl, hsz, hP, hK, hD0, hN⟩ := hv
  have hx := B.exec
  have hb := B.bytes
  have hr := B.returns
  have hts := atoms_spec (ws := (wd y_O_sourcesCanBeRead b_O_sourcesCanBeRead 4 (some .boolean))) B.pre
  have htb : ∀ w ∈ tb, w.before _ s = true := fun w h => hts w (List.mem_cons_of_mem _ h)
  have hown : s.vm.findClass R_O = some m.cls := findClass_of_methodNamed B.named
  have hlocks := B.notSynchronized
  subst hsz
  have hD := hD0.self (sz := s.heap.size)
  generalize hAe : va_A (wX ad cs σ) s.heap.size = A at hD ⊢
  have hA : ∀ q : Nat, s.heap.size ≤ q → A q := fun q h => by rw [← hAe]; exact Or.inr h
  have hS : va_S A s.heap s.heap [] := va_S.rf
  have hP : va_P (dC, dI) classes (wX ad cs σ) s.heap := hP
  have hl := lv_entry ([.ref (ad 0 0)]) (n := 4) (Nat.le_of_ble_eq_true rfl)
  rw [lg_entry_eq]
  generalize (lg_sl ([.ref (ad 0 0)]) ++ List.replicate (4 - (lg_sl ([.ref (ad 0 0)])).length) Slot.unset).toArray = ls at hl ⊢
  have hl : lv_has ls 4 [(0, .ref (ad 0 0))] := hl
  rw [m_O_sourcesCanBeRead] at hM
  refine W_loop (pc := 4) (fun n4 H locs ls st => ∃ (σ : SX) (v1 : Int32) (v2 : Int32), st = [] ∧ m_O_sourcesCanBeRead_4 N n4 σ v1 v2 = some (r0, σ0) ∧ lv_has ls 4 [(0, .ref (ad 0 0)), (1, .int v1), (2, .int v2)] ∧ va_P (dC, dI) classes (wX ad cs σ) H ∧ va_D A (wX ad cs σ) ∧ va_S A s.heap H locs) ?_ ?_ ?_
  · rintro H locs ls st ⟨σ, v1, v2, -, hM, -⟩
    rw [m_O_sourcesCanBeRead_4] at hM; cases hM
  · intro n4 K4 H locs ls st hI
    obtain ⟨σ, v1, v2, rfl, hM, hl, hP, hD, hS⟩ := hI
    rw [m_O_sourcesCanBeRead_4] at hM
    refine lv_iload_n hx hb d_O_sourcesCanBeRead_4 rfl (lv_at hl 2 rfl) ?_
    refine lv_iconst (v := 3) hx hb d_O_sourcesCanBeRead_5 (by decide) ?_
    refine lv_icmp_ge (tgt := 37) hx hb d_O_sourcesCanBeRead_6 (by decide) (fun h6 => ?_) (fun h6 => ?_)
    · rw [if_pos h6] at hM
      refine lv_iload_n hx hb d_O_sourcesCanBeRead_37 rfl (lv_at hl 1 rfl) ?_
      have hz38 := gd_c hM
      have hM := gd_v hM
      have e9 := Prod.mk.inj (Option.some.inj hM)
      exact W.zret (ty := .boolean) (v := v1) hx hb hr (isB_n hz38) (fun t ht hW => ⟨⟨v1, σ, rfl, e9, by rw [ht]; exact hP, va_K.moved hW.alike hK, hD⟩, hS.F ht⟩) hS.2.2 d_O_sourcesCanBeRead_38
    · rw [if_neg h6] at hM
      refine lv_aload_n hx hb d_O_sourcesCanBeRead_9 rfl (lv_at hl 0 rfl) ?_
      refine lv_iload_n hx hb d_O_sourcesCanBeRead_10 rfl (lv_at hl 2 rfl) ?_
      obtain ⟨x11, y11, hq11, hM⟩ := bR_some hM
      refine va_callr (va_runV (As := [.int v2]) (rest := []) ⟨hx, hb, hml, hown, hts⟩ (c_O_tapeInRole l dC dI ad cs _ N σ v2 hq11) (cwV 1 hts (goodV k_305 k_307 ks_O_tapeInRole k_1 k_308) rfl rfl rfl ⟨rfl, by decide, by decide, by decide +kernel⟩ ⟨Nat.le_of_ble_eq_true rfl, Nat.le_of_ble_eq_true rfl⟩) ⟨blindX, va_recv hK hP rfl (g_O), payX hP hK hD hN⟩ rfl rfl hl.1 rfl (lv_room (Nat.le_of_ble_eq_true rfl)) d_O_sourcesCanBeRead_11 ⟨Nat.zero_le _, Nat.zero_le _⟩) hS (fun q h0 h => absurd h0 (Nat.not_lt.mpr h)) (fun q h => hA q (Nat.le_trans hS.1 h)) (fun u ra t H locs ht hvm hpost hB hz1 hk1 hS => ?_)
      subst hpost
      obtain ⟨rfl, hx11⟩ := hB
      have hP := keepP hP hk1
      refine lv_astore_n hx hb d_O_sourcesCanBeRead_14 rfl hl (by decide) (lv' := [(3, .ref (ad (7 + x11) 0)), (0, .ref (ad 0 0)), (1, .int v1), (2, .int v2)]) rfl (fun ls hl => ?_)
      refine lv_aload_n hx hb d_O_sourcesCanBeRead_15 rfl (lv_at hl 0 rfl) ?_
      obtain ⟨x16, y16, hq16, hM⟩ := bI_some hM
      refine va_calli (va_runV (As := []) (rest := []) ⟨hx, hb, hml, hown, hts⟩ (c_T_hasDummy l dC dI ad cs _ N σ x11 hx11 hq16) (cwV 0 hts (goodV k_558 k_559 k_560 k_7 k_561) rfl rfl rfl ⟨rfl, by decide, by decide, by decide +kernel⟩ ⟨Nat.le_of_ble_eq_true rfl, Nat.le_of_ble_eq_true rfl⟩) ⟨blindX, va_recv hK hP rfl (g_T hx11), payX hP hK hD hN⟩ rfl rfl hl.1 rfl (lv_room (Nat.le_of_ble_eq_true rfl)) d_O_sourcesCanBeRead_16 ⟨Nat.zero_le _, Nat.zero_le _⟩) hS (fun q h0 h => absurd h0 (Nat.not_lt.mpr h)) (fun q h => hA q (Nat.le_trans hS.1 h)) (fun r16 u t H locs ht hvm hpost hB hz1 hk1 hS => ?_)
      obtain ⟨e1, e2⟩ := hpost
      subst e1
      subst e2
      have hP := keepP hP hk1
      refine lv_if_ne (tgt := 31) hx hb d_O_sourcesCanBeRead_19 (by decide) (fun h19 => ?_) (fun h19 => ?_)
      · rw [if_neg h19] at hM
        refine lv_iinc (k := 3) (v := (v2 + 1)) hx hb d_O_sourcesCanBeRead_31 hl rfl rfl (by decide) (lv' := [(2, .int (v2 + 1)), (3, .ref (ad (7 + x11) 0)), (0, .ref (ad 0 0)), (1, .int v1)]) rfl (fun ls hl => ?_)
        refine lv_goto (tgt := 4) hx hb d_O_sourcesCanBeRead_34 (by decide) ?_
        exact K4 _ _ _ _ ⟨σ, v1, (v2 + 1), rfl, hM, lv_sub hl [2, 3, 0] rfl, hP, hD, hS⟩
      · rw [if_pos h19] at hM
        refine lv_aload_n hx hb d_O_sourcesCanBeRead_22 rfl (lv_at hl 0 rfl) ?_
        have hF1 := free_all hD hS hA
        obtain ⟨x23, y23, hq23, hM⟩ := bI_some hM
        refine va_calli (va_runV (As := []) (rest := []) ⟨hx, hb, hml, hown, hts⟩ (c_T_useFault l dC dI ad cs _ N σ x11 hx11 hq23) (cwV 0 hts (goodV k_566 k_567 k_568 k_7 k_569) rfl rfl rfl ⟨rfl, by decide, by decide, by decide +kernel⟩ ⟨Nat.le_of_ble_eq_true rfl, Nat.le_of_ble_eq_true rfl⟩) ⟨blindX, va_recv hK hP rfl (g_T hx11), payX hP hK hD hN⟩ rfl rfl hl.1 rfl (lv_room (Nat.le_of_ble_eq_true rfl)) d_O_sourcesCanBeRead_23 ⟨Nat.zero_le _, Nat.zero_le _⟩) hS (fun q _ h => hF1 q h) hF1 (fun r23 σ23 t H locs ht hvm hpost hB hz1 hk1 hS => ?_)
        obtain ⟨e1, e2⟩ := hpost
        subst e1
        subst e2
        obtain ⟨hP1, hK1, hD1⟩ := hB
        rw [ht] at hP1
        have hP := hP1
        have hD := hD1.weaken (fun _ _ _ h => hF1 _ h)
        refine lv_if_eq (tgt := 31) hx hb d_O_sourcesCanBeRead_26 (by decide) (fun h26 => ?_) (fun h26 => ?_)
        · rw [if_pos h26] at hM
          refine lv_iinc (k := 3) (v := (v2 + 1)) hx hb d_O_sourcesCanBeRead_31 hl rfl rfl (by decide) (lv' := [(2, .int (v2 + 1)), (3, .ref (ad (7 + x11) 0)), (0, .ref (ad 0 0)), (1, .int v1)]) rfl (fun ls hl => ?_)
          refine lv_goto (tgt := 4) hx hb d_O_sourcesCanBeRead_34 (by decide) ?_
          exact K4 _ _ _ _ ⟨σ23, v1, (v2 + 1), rfl, hM, lv_sub hl [2, 3, 0] rfl, hP, hD, hS⟩
        · rw [if_neg h26] at hM
          refine lv_iconst (v := 0) hx hb d_O_sourcesCanBeRead_29 (by decide) ?_
          refine lv_istore_n hx hb d_O_sourcesCanBeRead_30 rfl hl (by decide) (lv' := [(1, .int 0), (3, .ref (ad (7 + x11) 0)), (0, .ref (ad 0 0)), (2, .int v2)]) rfl (fun ls hl => ?_)
          refine lv_iinc (k := 3) (v := (v2 + 1)) hx hb d_O_sourcesCanBeRead_31 hl rfl rfl (by decide) (lv' := [(2, .int (v2 + 1)), (1, .int 0), (3, .ref (ad (7 + x11) 0)), (0, .ref (ad 0 0))]) rfl (fun ls hl => ?_)
          refine lv_goto (tgt := 4) hx hb d_O_sourcesCanBeRead_34 (by decide) ?_
          exact K4 _ _ _ _ ⟨σ23, 0, (v2 + 1), rfl, hM, lv_sub hl [3, 1, 0] rfl, hP, hD, hS⟩
  intro K4
  refine lv_iconst (v := 1) hx hb d_O_sourcesCanBeRead_0 (by decide) ?_
  refine lv_istore_n hx hb d_O_sourcesCanBeRead_1 rfl hl (by decide) (lv' := [(1, .int 1), (0, .ref (ad 0 0))]) rfl (fun ls hl => ?_)
  refine lv_iconst (v := 0) hx hb d_O_sourcesCanBeRead_2 (by decide) ?_
  refine lv_istore_n hx hb d_O_sourcesCanBeRead_3 rfl hl (by decide) (lv' := [(2, .int 0), (1, .int 1), (0, .ref (ad 0 0))]) rfl (fun ls hl => ?_)
  exact K4 N _ _ _ _ ⟨σ, 1, 0, rfl, hM, lv_sub hl [2, 1, 0] rfl, hP, hD, hS⟩

theorem d_T_runLength_0 : decode b_T_runLength 0 = .ok (.iload_n 1, 1) := by decide +kernel
theorem d_T_runLength_1 : decode b_T_runLength 1 = .ok (.ifCond .lt 20, 3) := by decide +kernel
theorem d_T_runLength_4 : decode b_T_runLength 4 = .ok (.iload_n 1, 1) := by decide +kernel
theorem d_T_runLength_5 : decode b_T_runLength 5 = .ok (.aload_n 0, 1) := by decide +kernel
theorem d_T_runLength_6 : decode b_T_runLength 6 = .ok (.getfield 22, 3) := by decide +kernel
theorem d_T_runLength_9 : decode b_T_runLength 9 = .ok (.if_icmp .ge 12, 3) := by decide +kernel
theorem d_T_runLength_12 : decode b_T_runLength 12 = .ok (.aload_n 0, 1) := by decide +kernel
theorem d_T_runLength_13 : decode b_T_runLength 13 = .ok (.getfield 15, 3) := by decide +kernel
theorem d_T_runLength_16 : decode b_T_runLength 16 = .ok (.iload_n 1, 1) := by decide +kernel
theorem d_T_runLength_17 : decode b_T_runLength 17 = .ok (.iaload, 1) := by decide +kernel
theorem d_T_runLength_18 : decode b_T_runLength 18 = .ok (.goto 4, 3) := by decide +kernel
theorem d_T_runLength_21 : decode b_T_runLength 21 = .ok (.iconst (-1), 1) := by decide +kernel
theorem d_T_runLength_22 : decode b_T_runLength 22 = .ok (.ireturn, 1) := by decide +kernel
def m_T_runLength (N : Nat) (σ : SX) (i : Nat) (a1 : Int32) : Option (Int32 × SX) :=
  (if a1 < 0 then some ((-1), σ) else (if ((σ (7 + i)).1 1) ≤ a1 then some ((-1), σ) else (if inb a1 150 = true then some (((σ (7 + i)).2 2 a1.toNatClampNeg), σ) else none)))

set_option maxHeartbeats 4000000 in
set_option maxRecDepth 100000 in
theorem c_T_runLength (l : Launch) (dC : Nat → ClassId) (dI : Nat → Nat → Nat) (ad : Nat → Nat → Nat) (cs : Nat → ClassId) (sz N : Nat) (σ : SX) (i : Nat) (hi : i < 4) (a1 : Int32) {r0 : Int32} {σ0 : SX} (hM : m_T_runLength N σ i a1 = some (r0, σ0)) : Met l y_T_runLength (wd y_T_runLength b_T_runLength 2 (some .int)) ({ frames := 0, cells := 0, slots := 0, locals := 0 }) (va_Pc [.ref (ad (7 + i) 0), .int a1] (preX dC dI ad cs sz σ)) (va_Qi (fun (r : Int32) (_ : Unit) => r = r0 ∧ σ = σ0) (fun _ _ => True) (fun q => sz ≤ q)) 0 0 (fun q => sz ≤ q) := by
  refine Met.ofW (cc := b_T_runLength) (maxL := 2) (ret := (some .int)) (by decide) rfl ?_
  intro p e s m args below meth c s₁ B hml hv
  obtain ⟨rfl, hsz, hP, hK, hD0, hN⟩ := hv
  have hx := B.exec
  have hb := B.bytes
  have hr := B.returns
  have hts := atoms_spec (ws := (wd y_T_runLength b_T_runLength 2 (some .int))) B.pre
  have htb : ∀ w ∈ tb, w.before _ s = true := fun w h => hts w (List.mem_cons_of_mem _ h)
  have hown : s.vm.findClass R_T = some m.cls := findClass_of_methodNamed B.named
  have hlocks := B.notSynchronized
  subst hsz
  have hD := hD0
  have hA : ∀ q : Nat, s.heap.size ≤ q → s.heap.size ≤ q := fun q h => h
  have hS : va_S (fun q => s.heap.size ≤ q) s.heap s.heap [] := va_S.rf
  have hP : va_P (dC, dI) classes (wX ad cs σ) s.heap := hP
  have hl := lv_entry ([.ref (ad (7 + i) 0), .int a1]) (n := 2) (Nat.le_of_ble_eq_true rfl)
  rw [lg_entry_eq]
  generalize (lg_sl ([.ref (ad (7 + i) 0), .int a1]) ++ List.replicate (2 - (lg_sl ([.ref (ad (7 + i) 0), .int a1])).length) Slot.unset).toArray = ls at hl ⊢
  have hl : lv_has ls 2 [(0, .ref (ad (7 + i) 0)), (1, .int a1)] := hl
  rw [m_T_runLength] at hM
  refine lv_iload_n hx hb d_T_runLength_0 rfl (lv_at hl 1 rfl) ?_
  refine lv_if_lt (tgt := 21) hx hb d_T_runLength_1 (by decide) (fun h1 => ?_) (fun h1 => ?_)
  · rw [if_pos h1] at hM
    refine lv_iconst (v := (-1)) hx hb d_T_runLength_21 (by decide) ?_
    have e9 := Prod.mk.inj (Option.some.inj hM)
    exact W.iret (v := (-1)) hx hb hr (fun t ht hW => ⟨⟨(-1), (), rfl, e9, trivial⟩, hS.F ht⟩) hS.2.2 d_T_runLength_22
  · rw [if_neg h1] at hM
    refine lv_iload_n hx hb d_T_runLength_4 rfl (lv_at hl 1 rfl) ?_
    refine lv_aload_n hx hb d_T_runLength_5 rfl (lv_at hl 0 rfl) ?_
    refine va_get (D := (dC, dI)) (ci := 6) (v := .int ((σ (7 + i)).1 1)) (C := R_T) (T := F_T) (N := 6) hx hb htb in_T hown hK hP (19 + 3 * i) (g_T hi) rfl 3 (by decide) (htb _ k_132) (fun _ h9 => h9) rfl d_T_runLength_6 ?_
    refine lv_icmp_ge (tgt := 21) hx hb d_T_runLength_9 (by decide) (fun h9 => ?_) (fun h9 => ?_)
    · rw [if_pos h9] at hM
      refine lv_iconst (v := (-1)) hx hb d_T_runLength_21 (by decide) ?_
      have e9 := Prod.mk.inj (Option.some.inj hM)
      exact W.iret (v := (-1)) hx hb hr (fun t ht hW => ⟨⟨(-1), (), rfl, e9, trivial⟩, hS.F ht⟩) hS.2.2 d_T_runLength_22
    · rw [if_neg h9] at hM
      refine lv_aload_n hx hb d_T_runLength_12 rfl (lv_at hl 0 rfl) ?_
      refine va_get (D := (dC, dI)) (ci := 6) (v := .ref (ad (7 + i) 2)) (C := R_T) (T := F_T) (N := 6) hx hb htb in_T hown hK hP (19 + 3 * i) (g_T hi) rfl 1 (by decide) (htb _ k_130) (fun _ h9 => h9) rfl d_T_runLength_13 ?_
      refine lv_iload_n hx hb d_T_runLength_16 rfl (lv_at hl 1 rfl) ?_
      have hg17 := gd_c hM
      have hM := gd_v hM
      refine va_iald hx hb hK hP (19 + 3 * i + 2) 0 (g_T_a2 hi) rfl (inb_in hg17) d_T_runLength_17 ?_
      refine lv_goto (tgt := 22) hx hb d_T_runLength_18 (by decide) ?_
      have e9 := Prod.mk.inj (Option.some.inj hM)
      exact W.iret (v := ((σ (7 + i)).2 2 a1.toNatClampNeg)) hx hb hr (fun t ht hW => ⟨⟨((σ (7 + i)).2 2 a1.toNatClampNeg), (), rfl, e9, trivial⟩, hS.F ht⟩) hS.2.2 d_T_runLength_22

theorem d_T_cardOfRun_0 : decode b_T_cardOfRun 0 = .ok (.iload_n 2, 1) := by decide +kernel
theorem d_T_cardOfRun_1 : decode b_T_cardOfRun 1 = .ok (.ifCond .lt 12, 3) := by decide +kernel
theorem d_T_cardOfRun_4 : decode b_T_cardOfRun 4 = .ok (.iload_n 2, 1) := by decide +kernel
theorem d_T_cardOfRun_5 : decode b_T_cardOfRun 5 = .ok (.aload_n 0, 1) := by decide +kernel
theorem d_T_cardOfRun_6 : decode b_T_cardOfRun 6 = .ok (.iload_n 1, 1) := by decide +kernel
theorem d_T_cardOfRun_7 : decode b_T_cardOfRun 7 = .ok (.invokevirtual 31, 3) := by decide +kernel
theorem d_T_cardOfRun_10 : decode b_T_cardOfRun 10 = .ok (.if_icmp .lt 5, 3) := by decide +kernel
theorem d_T_cardOfRun_13 : decode b_T_cardOfRun 13 = .ok (.iconst (-1), 1) := by decide +kernel
theorem d_T_cardOfRun_14 : decode b_T_cardOfRun 14 = .ok (.ireturn, 1) := by decide +kernel
theorem d_T_cardOfRun_15 : decode b_T_cardOfRun 15 = .ok (.iconst 0, 1) := by decide +kernel
theorem d_T_cardOfRun_16 : decode b_T_cardOfRun 16 = .ok (.istore_n 3, 1) := by decide +kernel
theorem d_T_cardOfRun_17 : decode b_T_cardOfRun 17 = .ok (.iconst 0, 1) := by decide +kernel
theorem d_T_cardOfRun_18 : decode b_T_cardOfRun 18 = .ok (.istore 4, 2) := by decide +kernel
theorem d_T_cardOfRun_20 : decode b_T_cardOfRun 20 = .ok (.iload 4, 2) := by decide +kernel
theorem d_T_cardOfRun_22 : decode b_T_cardOfRun 22 = .ok (.iload_n 1, 1) := by decide +kernel
theorem d_T_cardOfRun_23 : decode b_T_cardOfRun 23 = .ok (.if_icmp .ge 19, 3) := by decide +kernel
theorem d_T_cardOfRun_26 : decode b_T_cardOfRun 26 = .ok (.iload_n 3, 1) := by decide +kernel
theorem d_T_cardOfRun_27 : decode b_T_cardOfRun 27 = .ok (.aload_n 0, 1) := by decide +kernel
theorem d_T_cardOfRun_28 : decode b_T_cardOfRun 28 = .ok (.getfield 15, 3) := by decide +kernel
theorem d_T_cardOfRun_31 : decode b_T_cardOfRun 31 = .ok (.iload 4, 2) := by decide +kernel
theorem d_T_cardOfRun_33 : decode b_T_cardOfRun 33 = .ok (.iaload, 1) := by decide +kernel
theorem d_T_cardOfRun_34 : decode b_T_cardOfRun 34 = .ok (.iadd, 1) := by decide +kernel
theorem d_T_cardOfRun_35 : decode b_T_cardOfRun 35 = .ok (.istore_n 3, 1) := by decide +kernel
theorem d_T_cardOfRun_36 : decode b_T_cardOfRun 36 = .ok (.iinc 4 1, 3) := by decide +kernel
theorem d_T_cardOfRun_39 : decode b_T_cardOfRun 39 = .ok (.goto (-19), 3) := by decide +kernel
theorem d_T_cardOfRun_42 : decode b_T_cardOfRun 42 = .ok (.aload_n 0, 1) := by decide +kernel
theorem d_T_cardOfRun_43 : decode b_T_cardOfRun 43 = .ok (.getfield 9, 3) := by decide +kernel
theorem d_T_cardOfRun_46 : decode b_T_cardOfRun 46 = .ok (.iload_n 3, 1) := by decide +kernel
theorem d_T_cardOfRun_47 : decode b_T_cardOfRun 47 = .ok (.iload_n 2, 1) := by decide +kernel
theorem d_T_cardOfRun_48 : decode b_T_cardOfRun 48 = .ok (.iadd, 1) := by decide +kernel
theorem d_T_cardOfRun_49 : decode b_T_cardOfRun 49 = .ok (.iaload, 1) := by decide +kernel
theorem d_T_cardOfRun_50 : decode b_T_cardOfRun 50 = .ok (.ireturn, 1) := by decide +kernel
def m_T_cardOfRun_20 (N : Nat) (i : Nat) : Nat → SX → Int32 → Int32 → Int32 → Int32 → Option (Int32 × SX)
  | 0, _, _, _, _, _ => none
  | n20 + 1, σ, v1, v2, v3, v4 =>
    (if v1 ≤ v4 then (if inb (v3 + v2) 150 = true then some (((σ (7 + i)).2 1 (v3 + v2).toNatClampNeg), σ) else none) else (if inb v4 150 = true then m_T_cardOfRun_20 N i n20 σ v1 v2 (v3 + ((σ (7 + i)).2 2 v4.toNatClampNeg)) (v4 + 1) else none))

def m_T_cardOfRun (N : Nat) (σ : SX) (i : Nat) (a1 : Int32) (a2 : Int32) : Option (Int32 × SX) :=
  (if a2 < 0 then some ((-1), σ) else (bI (m_T_runLength N σ i a1) fun r7 σ7 => (if a2 < r7 then m_T_cardOfRun_20 N i N σ a1 a2 0 0 else some ((-1), σ))))

set_option maxHeartbeats 4000000 in
set_option maxRecDepth 100000 in
theorem c_T_cardOfRun (l : Launch) (dC : Nat → ClassId) (dI : Nat → Nat → Nat) (ad : Nat → Nat → Nat) (cs : Nat → ClassId) (sz N : Nat) (σ : SX) (i : Nat) (hi : i < 4) (a1 : Int32) (a2 : Int32) {r0 : Int32} {σ0 : SX} (hM : m_T_cardOfRun N σ i a1 a2 = some (r0, σ0)) : Met l y_T_cardOfRun (wd y_T_cardOfRun b_T_cardOfRun 5 (some .int)) ({ frames := 1, cells := 0, slots := 0, locals := 21 }) (va_Pc [.ref (ad (7 + i) 0), .int a1, .int a2] (preX dC dI ad cs sz σ)) (va_Qi (fun (r : Int32) (_ : Unit) => r = r0 ∧ σ = σ0) (fun _ _ => True) (fun q => sz ≤ q)) 0 0 (fun q => sz ≤ q) := by
  refine Met.ofW (cc := b_T_cardOfRun) (maxL := 5) (ret := (some .int)) (by decide) rfl ?_
  intro p e s m args below meth c s₁ B hml hv
  obtain ⟨rfl, hsz, hP, hK, hD0, hN⟩ := hv
  have hx := B.exec
  have hb := B.bytes
  have hr := B.returns
  have hts := atoms_spec (ws := (wd y_T_cardOfRun b_T_cardOfRun 5 (some .int))) B.pre
  have htb : ∀ w ∈ tb, w.before _ s = true := fun w h => hts w (List.mem_cons_of_mem _ h)
  have hown : s.vm.findClass R_T = some m.cls := findClass_of_methodNamed B.named
  have hlocks := B.notSynchronized
  subst hsz
  have hD := hD0
  have hA : ∀ q : Nat, s.heap.size ≤ q → s.heap.size ≤ q := fun q h => h
  have hS : va_S (fun q => s.heap.size ≤ q) s.heap s.heap [] := va_S.rf
  have hP : va_P (dC, dI) classes (wX ad cs σ) s.heap := hP
  have hl := lv_entry ([.ref (ad (7 + i) 0), .int a1, .int a2]) (n := 5) (Nat.le_of_ble_eq_true rfl)
  rw [lg_entry_eq]
  generalize (lg_sl ([.ref (ad (7 + i) 0), .int a1, .int a2]) ++ List.replicate (5 - (lg_sl ([.ref (ad (7 + i) 0), .int a1, .int a2])).length) Slot.unset).toArray = ls at hl ⊢
  have hl : lv_has ls 5 [(0, .ref (ad (7 + i) 0)), (1, .int a1), (2, .int a2)] := hl
  rw [m_T_cardOfRun] at hM
  refine W_loop (pc := 20) (fun n20 H locs ls st => ∃ (v1 : Int32) (v2 : Int32) (v3 : Int32) (v4 : Int32), st = [] ∧ m_T_cardOfRun_20 N i n20 σ v1 v2 v3 v4 = some (r0, σ0) ∧ lv_has ls 5 [(0, .ref (ad (7 + i) 0)), (1, .int v1), (2, .int v2), (3, .int v3), (4, .int v4)] ∧ va_P (dC, dI) classes (wX ad cs σ) H ∧ va_D (fun _ => True) (wX ad cs σ) ∧ va_S (fun q => s.heap.size ≤ q) s.heap H locs) ?_ ?_ ?_
  · rintro H locs ls st ⟨v1, v2, v3, v4, -, hM, -⟩
    rw [m_T_cardOfRun_20] at hM; cases hM
  · intro n20 K20 H locs ls st hI
    obtain ⟨v1, v2, v3, v4, rfl, hM, hl, hP, hD, hS⟩ := hI
    rw [m_T_cardOfRun_20] at hM
    refine lv_iload hx hb d_T_cardOfRun_20 (lv_at hl 4 rfl) ?_
    refine lv_iload_n hx hb d_T_cardOfRun_22 rfl (lv_at hl 1 rfl) ?_
    refine lv_icmp_ge (tgt := 42) hx hb d_T_cardOfRun_23 (by decide) (fun h23 => ?_) (fun h23 => ?_)
    · rw [if_pos h23] at hM
      refine lv_aload_n hx hb d_T_cardOfRun_42 rfl (lv_at hl 0 rfl) ?_
      refine va_get (D := (dC, dI)) (ci := 6) (v := .ref (ad (7 + i) 1)) (C := R_T) (T := F_T) (N := 6) hx hb htb in_T hown hK hP (19 + 3 * i) (g_T hi) rfl 0 (by decide) (htb _ k_129) (fun _ h9 => h9) rfl d_T_cardOfRun_43 ?_
      refine lv_iload_n hx hb d_T_cardOfRun_46 rfl (lv_at hl 3 rfl) ?_
      refine lv_iload_n hx hb d_T_cardOfRun_47 rfl (lv_at hl 2 rfl) ?_
      refine lv_iadd hx hb d_T_cardOfRun_48 ?_
      have hg49 := gd_c hM
      have hM := gd_v hM
      refine va_iald hx hb hK hP (19 + 3 * i + 1) 0 (g_T_a1 hi) rfl (inb_in hg49) d_T_cardOfRun_49 ?_
      have e9 := Prod.mk.inj (Option.some.inj hM)
      exact W.iret (v := ((σ (7 + i)).2 1 (v3 + v2).toNatClampNeg)) hx hb hr (fun t ht hW => ⟨⟨((σ (7 + i)).2 1 (v3 + v2).toNatClampNeg), (), rfl, e9, trivial⟩, hS.F ht⟩) hS.2.2 d_T_cardOfRun_50
    · rw [if_neg h23] at hM
      refine lv_iload_n hx hb d_T_cardOfRun_26 rfl (lv_at hl 3 rfl) ?_
      refine lv_aload_n hx hb d_T_cardOfRun_27 rfl (lv_at hl 0 rfl) ?_
      refine va_get (D := (dC, dI)) (ci := 6) (v := .ref (ad (7 + i) 2)) (C := R_T) (T := F_T) (N := 6) hx hb htb in_T hown hK hP (19 + 3 * i) (g_T hi) rfl 1 (by decide) (htb _ k_130) (fun _ h9 => h9) rfl d_T_cardOfRun_28 ?_
      refine lv_iload hx hb d_T_cardOfRun_31 (lv_at hl 4 rfl) ?_
      have hg33 := gd_c hM
      have hM := gd_v hM
      refine va_iald hx hb hK hP (19 + 3 * i + 2) 0 (g_T_a2 hi) rfl (inb_in hg33) d_T_cardOfRun_33 ?_
      refine lv_iadd hx hb d_T_cardOfRun_34 ?_
      refine lv_istore_n hx hb d_T_cardOfRun_35 rfl hl (by decide) (lv' := [(3, .int (v3 + ((σ (7 + i)).2 2 v4.toNatClampNeg))), (0, .ref (ad (7 + i) 0)), (1, .int v1), (2, .int v2), (4, .int v4)]) rfl (fun ls hl => ?_)
      refine lv_iinc (k := 4) (v := (v4 + 1)) hx hb d_T_cardOfRun_36 hl rfl rfl (by decide) (lv' := [(4, .int (v4 + 1)), (3, .int (v3 + ((σ (7 + i)).2 2 v4.toNatClampNeg))), (0, .ref (ad (7 + i) 0)), (1, .int v1), (2, .int v2)]) rfl (fun ls hl => ?_)
      refine lv_goto (tgt := 20) hx hb d_T_cardOfRun_39 (by decide) ?_
      exact K20 _ _ _ _ ⟨v1, v2, (v3 + ((σ (7 + i)).2 2 v4.toNatClampNeg)), (v4 + 1), rfl, hM, lv_sub hl [2, 3, 4, 1, 0] rfl, hP, hD, hS⟩
  intro K20
  refine lv_iload_n hx hb d_T_cardOfRun_0 rfl (lv_at hl 2 rfl) ?_
  refine lv_if_lt (tgt := 13) hx hb d_T_cardOfRun_1 (by decide) (fun h1 => ?_) (fun h1 => ?_)
  · rw [if_pos h1] at hM
    refine lv_iconst (v := (-1)) hx hb d_T_cardOfRun_13 (by decide) ?_
    have e9 := Prod.mk.inj (Option.some.inj hM)
    exact W.iret (v := (-1)) hx hb hr (fun t ht hW => ⟨⟨(-1), (), rfl, e9, trivial⟩, hS.F ht⟩) hS.2.2 d_T_cardOfRun_14
  · rw [if_neg h1] at hM
    refine lv_iload_n hx hb d_T_cardOfRun_4 rfl (lv_at hl 2 rfl) ?_
    refine lv_aload_n hx hb d_T_cardOfRun_5 rfl (lv_at hl 0 rfl) ?_
    refine lv_iload_n hx hb d_T_cardOfRun_6 rfl (lv_at hl 1 rfl) ?_
    obtain ⟨x7, y7, hq7, hM⟩ := bI_some hM
    refine va_calli (va_runV (As := [.int a1]) (rest := [.int a2]) ⟨hx, hb, hml, hown, hts⟩ (c_T_runLength l dC dI ad cs _ N σ i hi a1 hq7) (cwV 1 hts (goodV k_280 k_269 k_270 k_7 k_271) rfl rfl rfl ⟨rfl, by decide, by decide, by decide +kernel⟩ ⟨Nat.le_of_ble_eq_true rfl, Nat.le_of_ble_eq_true rfl⟩) ⟨blindX, va_recv hK hP rfl (g_T hi), payX hP hK hD hN⟩ rfl rfl hl.1 rfl (lv_room (Nat.le_of_ble_eq_true rfl)) d_T_cardOfRun_7 ⟨Nat.zero_le _, Nat.zero_le _⟩) hS (fun q h0 h => absurd h0 (Nat.not_lt.mpr h)) (fun q h => hA q (Nat.le_trans hS.1 h)) (fun r7 u t H locs ht hvm hpost hB hz1 hk1 hS => ?_)
    obtain ⟨e1, e2⟩ := hpost
    subst e1
    subst e2
    have hP := keepP hP hk1
    refine lv_icmp_lt (tgt := 15) hx hb d_T_cardOfRun_10 (by decide) (fun h10 => ?_) (fun h10 => ?_)
    · rw [if_pos h10] at hM
      refine lv_iconst (v := 0) hx hb d_T_cardOfRun_15 (by decide) ?_
      refine lv_istore_n hx hb d_T_cardOfRun_16 rfl hl (by decide) (lv' := [(3, .int 0), (0, .ref (ad (7 + i) 0)), (1, .int a1), (2, .int a2)]) rfl (fun ls hl => ?_)
      refine lv_iconst (v := 0) hx hb d_T_cardOfRun_17 (by decide) ?_
      refine lv_istore hx hb d_T_cardOfRun_18 hl (by decide) (lv' := [(4, .int 0), (3, .int 0), (0, .ref (ad (7 + i) 0)), (1, .int a1), (2, .int a2)]) rfl (fun ls hl => ?_)
      exact K20 N _ _ _ _ ⟨a1, a2, 0, 0, rfl, hM, lv_sub hl [2, 3, 4, 1, 0] rfl, hP, hD, hS⟩
    · rw [if_neg h10] at hM
      refine lv_iconst (v := (-1)) hx hb d_T_cardOfRun_13 (by decide) ?_
      have e9 := Prod.mk.inj (Option.some.inj hM)
      exact W.iret (v := (-1)) hx hb hr (fun t ht hW => ⟨⟨(-1), (), rfl, e9, trivial⟩, hS.F ht⟩) hS.2.2 d_T_cardOfRun_14

theorem d_O_nextCardOf_0 : decode b_O_nextCardOf 0 = .ok (.aload_n 0, 1) := by decide +kernel
theorem d_O_nextCardOf_1 : decode b_O_nextCardOf 1 = .ok (.iload_n 1, 1) := by decide +kernel
theorem d_O_nextCardOf_2 : decode b_O_nextCardOf 2 = .ok (.invokevirtual 161, 3) := by decide +kernel
theorem d_O_nextCardOf_5 : decode b_O_nextCardOf 5 = .ok (.iconst 0, 1) := by decide +kernel
theorem d_O_nextCardOf_6 : decode b_O_nextCardOf 6 = .ok (.aload_n 0, 1) := by decide +kernel
theorem d_O_nextCardOf_7 : decode b_O_nextCardOf 7 = .ok (.getfield 47, 3) := by decide +kernel
theorem d_O_nextCardOf_10 : decode b_O_nextCardOf 10 = .ok (.iload_n 1, 1) := by decide +kernel
theorem d_O_nextCardOf_11 : decode b_O_nextCardOf 11 = .ok (.iaload, 1) := by decide +kernel
theorem d_O_nextCardOf_12 : decode b_O_nextCardOf 12 = .ok (.invokevirtual 152, 3) := by decide +kernel
theorem d_O_nextCardOf_15 : decode b_O_nextCardOf 15 = .ok (.ireturn, 1) := by decide +kernel
def m_O_nextCardOf (N : Nat) (σ : SX) (a1 : Int32) : Option (Int32 × SX) :=
  (bR (m_O_tapeInRole N σ a1) fun x2 σ2 => (if inb a1 3 = true then (bI (m_T_cardOfRun N σ x2 0 ((σ 0).2 2 a1.toNatClampNeg)) fun r12 σ12 => some (r12, σ)) else none))

set_option maxHeartbeats 4000000 in
set_option maxRecDepth 100000 in
theorem c_O_nextCardOf (l : Launch) (dC : Nat → ClassId) (dI : Nat → Nat → Nat) (ad : Nat → Nat → Nat) (cs : Nat → ClassId) (sz N : Nat) (σ : SX) (a1 : Int32) {r0 : Int32} {σ0 : SX} (hM : m_O_nextCardOf N σ a1 = some (r0, σ0)) : Met l y_O_nextCardOf (wd y_O_nextCardOf b_O_nextCardOf 2 (some .int)) ({ frames := 2, cells := 0, slots := 0, locals := 45 }) (va_Pc [.ref (ad 0 0), .int a1] (preX dC dI ad cs sz σ)) (va_Qi (fun (r : Int32) (_ : Unit) => r = r0 ∧ σ = σ0) (fun _ _ => True) (fun q => sz ≤ q)) 0 0 (fun q => sz ≤ q) := by
  refine Met.ofW (cc := b_O_nextCardOf) (maxL := 2) (ret := (some .int)) (by decide) rfl ?_
  intro p e s m args below meth c s₁ B hml hv
  obtain ⟨rfl, hsz, hP, hK, hD0, hN⟩ := hv
  have hx := B.exec
  have hb := B.bytes
  have hr := B.returns
  have hts := atoms_spec (ws := (wd y_O_nextCardOf b_O_nextCardOf 2 (some .int))) B.pre
  have htb : ∀ w ∈ tb, w.before _ s = true := fun w h => hts w (List.mem_cons_of_mem _ h)
  have hown : s.vm.findClass R_O = some m.cls := findClass_of_methodNamed B.named
  have hlocks := B.notSynchronized
  subst hsz
  have hD := hD0
  have hA : ∀ q : Nat, s.heap.size ≤ q → s.heap.size ≤ q := fun q h => h
  have hS : va_S (fun q => s.heap.size ≤ q) s.heap s.heap [] := va_S.rf
  have hP : va_P (dC, dI) classes (wX ad cs σ) s.heap := hP
  have hl := lv_entry ([.ref (ad 0 0), .int a1]) (n := 2) (Nat.le_of_ble_eq_true rfl)
  rw [lg_entry_eq]
  generalize (lg_sl ([.ref (ad 0 0), .int a1]) ++ List.replicate (2 - (lg_sl ([.ref (ad 0 0), .int a1])).length) Slot.unset).toArray = ls at hl ⊢
  have hl : lv_has ls 2 [(0, .ref (ad 0 0)), (1, .int a1)] := hl
  rw [m_O_nextCardOf] at hM
  refine lv_aload_n hx hb d_O_nextCardOf_0 rfl (lv_at hl 0 rfl) ?_
  refine lv_iload_n hx hb d_O_nextCardOf_1 rfl (lv_at hl 1 rfl) ?_
  obtain ⟨x2, y2, hq2, hM⟩ := bR_some hM
  refine va_callr (va_runV (As := [.int a1]) (rest := []) ⟨hx, hb, hml, hown, hts⟩ (c_O_tapeInRole l dC dI ad cs _ N σ a1 hq2) (cwV 1 hts (goodV k_305 k_307 ks_O_tapeInRole k_1 k_308) rfl rfl rfl ⟨rfl, by decide, by decide, by decide +kernel⟩ ⟨Nat.le_of_ble_eq_true rfl, Nat.le_of_ble_eq_true rfl⟩) ⟨blindX, va_recv hK hP rfl (g_O), payX hP hK hD hN⟩ rfl rfl hl.1 rfl (lv_room (Nat.le_of_ble_eq_true rfl)) d_O_nextCardOf_2 ⟨Nat.zero_le _, Nat.zero_le _⟩) hS (fun q h0 h => absurd h0 (Nat.not_lt.mpr h)) (fun q h => hA q (Nat.le_trans hS.1 h)) (fun u ra t H locs ht hvm hpost hB hz1 hk1 hS => ?_)
  subst hpost
  obtain ⟨rfl, hx2⟩ := hB
  have hP := keepP hP hk1
  refine lv_iconst (v := 0) hx hb d_O_nextCardOf_5 (by decide) ?_
  refine lv_aload_n hx hb d_O_nextCardOf_6 rfl (lv_at hl 0 rfl) ?_
  refine va_get (D := (dC, dI)) (ci := 0) (v := .ref (ad 0 2)) (C := R_O) (T := F_O) (N := 12) hx hb htb in_O hown hK hP 0 (g_O) rfl 8 (by decide) (htb _ k_156) (fun _ h9 => h9) rfl d_O_nextCardOf_7 ?_
  refine lv_iload_n hx hb d_O_nextCardOf_10 rfl (lv_at hl 1 rfl) ?_
  have hg11 := gd_c hM
  have hM := gd_v hM
  refine va_iald hx hb hK hP 32 0 (g_O_a2) rfl (inb_in hg11) d_O_nextCardOf_11 ?_
  obtain ⟨x12, y12, hq12, hM⟩ := bI_some hM
  refine va_calli (va_runV (As := [.int 0, .int ((σ 0).2 2 a1.toNatClampNeg)]) (rest := []) ⟨hx, hb, hml, hown, hts⟩ (c_T_cardOfRun l dC dI ad cs _ N σ x2 hx2 0 ((σ 0).2 2 a1.toNatClampNeg) hq12) (cwV 2 hts (goodV k_276 k_277 k_278 k_7 k_279) rfl rfl rfl ⟨rfl, by decide, by decide, by decide +kernel⟩ ⟨Nat.le_of_ble_eq_true rfl, Nat.le_of_ble_eq_true rfl⟩) ⟨blindX, va_recv hK hP rfl (g_T hx2), payX hP hK hD hN⟩ rfl rfl hl.1 rfl (lv_room (Nat.le_of_ble_eq_true rfl)) d_O_nextCardOf_12 ⟨Nat.zero_le _, Nat.zero_le _⟩) hS (fun q h0 h => absurd h0 (Nat.not_lt.mpr h)) (fun q h => hA q (Nat.le_trans hS.1 h)) (fun r12 u t H locs ht hvm hpost hB hz1 hk1 hS => ?_)
  obtain ⟨e1, e2⟩ := hpost
  subst e1
  subst e2
  have hP := keepP hP hk1
  have e9 := Prod.mk.inj (Option.some.inj hM)
  exact W.iret (v := r12) hx hb hr (fun t ht hW => ⟨⟨r12, (), rfl, e9, trivial⟩, hS.F ht⟩) hS.2.2 d_O_nextCardOf_15

theorem d_D_hasCard_0 : decode b_D_hasCard 0 = .ok (.iload_n 1, 1) := by decide +kernel
theorem d_D_hasCard_1 : decode b_D_hasCard 1 = .ok (.ifCond .lt 15, 3) := by decide +kernel
theorem d_D_hasCard_4 : decode b_D_hasCard 4 = .ok (.iload_n 1, 1) := by decide +kernel
theorem d_D_hasCard_5 : decode b_D_hasCard 5 = .ok (.aload_n 0, 1) := by decide +kernel
theorem d_D_hasCard_6 : decode b_D_hasCard 6 = .ok (.getfield 23, 3) := by decide +kernel
theorem d_D_hasCard_9 : decode b_D_hasCard 9 = .ok (.if_icmp .ge 7, 3) := by decide +kernel
theorem d_D_hasCard_12 : decode b_D_hasCard 12 = .ok (.iconst 1, 1) := by decide +kernel
theorem d_D_hasCard_13 : decode b_D_hasCard 13 = .ok (.goto 4, 3) := by decide +kernel
theorem d_D_hasCard_16 : decode b_D_hasCard 16 = .ok (.iconst 0, 1) := by decide +kernel
theorem d_D_hasCard_17 : decode b_D_hasCard 17 = .ok (.ireturn, 1) := by decide +kernel
def m_D_hasCard (N : Nat) (σ : SX) (a1 : Int32) : Option (Int32 × SX) :=
  (if a1 < 0 then some (0, σ) else (if ((σ 1).1 0) ≤ a1 then some (0, σ) else some (1, σ)))

set_option maxHeartbeats 4000000 in
set_option maxRecDepth 100000 in
theorem c_D_hasCard (l : Launch) (dC : Nat → ClassId) (dI : Nat → Nat → Nat) (ad : Nat → Nat → Nat) (cs : Nat → ClassId) (sz N : Nat) (σ : SX) (a1 : Int32) {r0 : Int32} {σ0 : SX} (hM : m_D_hasCard N σ a1 = some (r0, σ0)) : Met l y_D_hasCard (wd y_D_hasCard b_D_hasCard 2 (some .boolean)) ({ frames := 0, cells := 0, slots := 0, locals := 0 }) (va_Pc [.ref (ad 1 0), .int a1] (preX dC dI ad cs sz σ)) (va_Qi (fun (r : Int32) (_ : Unit) => r = r0 ∧ σ = σ0) (fun _ _ => True) (fun q => sz ≤ q)) 0 0 (fun q => sz ≤ q) := by
  refine Met.ofW (cc := b_D_hasCard) (maxL := 2) (ret := (some .boolean)) (by decide) rfl ?_
  intro p e s m args below meth c s₁ B hml hv
  obtain ⟨rfl, hsz, hP, hK, hD0, hN⟩ := hv
  have hx := B.exec
  have hb := B.bytes
  have hr := B.returns
  have hts := atoms_spec (ws := (wd y_D_hasCard b_D_hasCard 2 (some .boolean))) B.pre
  have htb : ∀ w ∈ tb, w.before _ s = true := fun w h => hts w (List.mem_cons_of_mem _ h)
  have hown : s.vm.findClass R_D = some m.cls := findClass_of_methodNamed B.named
  have hlocks := B.notSynchronized
  subst hsz
  have hD := hD0
  have hA : ∀ q : Nat, s.heap.size ≤ q → s.heap.size ≤ q := fun q h => h
  have hS : va_S (fun q => s.heap.size ≤ q) s.heap s.heap [] := va_S.rf
  have hP : va_P (dC, dI) classes (wX ad cs σ) s.heap := hP
  have hl := lv_entry ([.ref (ad 1 0), .int a1]) (n := 2) (Nat.le_of_ble_eq_true rfl)
  rw [lg_entry_eq]
  generalize (lg_sl ([.ref (ad 1 0), .int a1]) ++ List.replicate (2 - (lg_sl ([.ref (ad 1 0), .int a1])).length) Slot.unset).toArray = ls at hl ⊢
  have hl : lv_has ls 2 [(0, .ref (ad 1 0)), (1, .int a1)] := hl
  rw [m_D_hasCard] at hM
  refine lv_iload_n hx hb d_D_hasCard_0 rfl (lv_at hl 1 rfl) ?_
  refine lv_if_lt (tgt := 16) hx hb d_D_hasCard_1 (by decide) (fun h1 => ?_) (fun h1 => ?_)
  · rw [if_pos h1] at hM
    refine lv_iconst (v := 0) hx hb d_D_hasCard_16 (by decide) ?_
    have e9 := Prod.mk.inj (Option.some.inj hM)
    exact W.zret (ty := .boolean) (v := 0) hx hb hr rfl (fun t ht hW => ⟨⟨0, (), rfl, e9, trivial⟩, hS.F ht⟩) hS.2.2 d_D_hasCard_17
  · rw [if_neg h1] at hM
    refine lv_iload_n hx hb d_D_hasCard_4 rfl (lv_at hl 1 rfl) ?_
    refine lv_aload_n hx hb d_D_hasCard_5 rfl (lv_at hl 0 rfl) ?_
    refine va_get (D := (dC, dI)) (ci := 1) (v := .int ((σ 1).1 0)) (C := R_D) (T := F_D) (N := 5) hx hb htb in_D hown hK hP 1 (g_D) rfl 3 (by decide) (htb _ k_35) (fun _ h9 => h9) rfl d_D_hasCard_6 ?_
    refine lv_icmp_ge (tgt := 16) hx hb d_D_hasCard_9 (by decide) (fun h9 => ?_) (fun h9 => ?_)
    · rw [if_pos h9] at hM
      refine lv_iconst (v := 0) hx hb d_D_hasCard_16 (by decide) ?_
      have e9 := Prod.mk.inj (Option.some.inj hM)
      exact W.zret (ty := .boolean) (v := 0) hx hb hr rfl (fun t ht hW => ⟨⟨0, (), rfl, e9, trivial⟩, hS.F ht⟩) hS.2.2 d_D_hasCard_17
    · rw [if_neg h9] at hM
      refine lv_iconst (v := 1) hx hb d_D_hasCard_12 (by decide) ?_
      refine lv_goto (tgt := 17) hx hb d_D_hasCard_13 (by decide) ?_
      have e9 := Prod.mk.inj (Option.some.inj hM)
      exact W.zret (ty := .boolean) (v := 1) hx hb hr rfl (fun t ht hW => ⟨⟨1, (), rfl, e9, trivial⟩, hS.F ht⟩) hS.2.2 d_D_hasCard_17

theorem d_D_value_0 : decode b_D_value 0 = .ok (.aload_n 0, 1) := by decide +kernel
theorem d_D_value_1 : decode b_D_value 1 = .ok (.iload_n 1, 1) := by decide +kernel
theorem d_D_value_2 : decode b_D_value 2 = .ok (.invokevirtual 37, 3) := by decide +kernel
theorem d_D_value_5 : decode b_D_value 5 = .ok (.ifCond .eq 21, 3) := by decide +kernel
theorem d_D_value_8 : decode b_D_value 8 = .ok (.iload_n 2, 1) := by decide +kernel
theorem d_D_value_9 : decode b_D_value 9 = .ok (.invokestatic 41, 3) := by decide +kernel
theorem d_D_value_12 : decode b_D_value 12 = .ok (.ifCond .eq 14, 3) := by decide +kernel
theorem d_D_value_15 : decode b_D_value 15 = .ok (.aload_n 0, 1) := by decide +kernel
theorem d_D_value_16 : decode b_D_value 16 = .ok (.getfield 11, 3) := by decide +kernel
theorem d_D_value_19 : decode b_D_value 19 = .ok (.iload_n 2, 1) := by decide +kernel
theorem d_D_value_20 : decode b_D_value 20 = .ok (.aaload, 1) := by decide +kernel
theorem d_D_value_21 : decode b_D_value 21 = .ok (.iload_n 1, 1) := by decide +kernel
theorem d_D_value_22 : decode b_D_value 22 = .ok (.iaload, 1) := by decide +kernel
theorem d_D_value_23 : decode b_D_value 23 = .ok (.goto 4, 3) := by decide +kernel
theorem d_D_value_26 : decode b_D_value 26 = .ok (.iconst 0, 1) := by decide +kernel
theorem d_D_value_27 : decode b_D_value 27 = .ok (.ireturn, 1) := by decide +kernel
def m_D_value (N : Nat) (σ : SX) (a1 : Int32) (a2 : Int32) : Option (Int32 × SX) :=
  (bI (m_D_hasCard N σ a1) fun r2 σ2 => (if r2 = 0 then some (0, σ) else (bP (m_O_isField a2) fun r9 => (if r9 = 0 then some (0, σ) else (if inb a2 2 = true then (if a2 = 0 then (if inb a1 150 = true then some (((σ 1).2 1 a1.toNatClampNeg), σ) else none) else (if inb a1 150 = true then some (((σ 1).2 2 a1.toNatClampNeg), σ) else none)) else none)))))

set_option maxHeartbeats 4000000 in
set_option maxRecDepth 100000 in
theorem c_D_value (l : Launch) (dC : Nat → ClassId) (dI : Nat → Nat → Nat) (ad : Nat → Nat → Nat) (cs : Nat → ClassId) (sz N : Nat) (σ : SX) (a1 : Int32) (a2 : Int32) {r0 : Int32} {σ0 : SX} (hM : m_D_value N σ a1 a2 = some (r0, σ0)) : Met l y_D_value (wd y_D_value b_D_value 3 (some .int)) ({ frames := 1, cells := 0, slots := 0, locals := 21 }) (va_Pc [.ref (ad 1 0), .int a1, .int a2] (preX dC dI ad cs sz σ)) (va_Qi (fun (r : Int32) (_ : Unit) => r = r0 ∧ σ = σ0) (fun _ _ => True) (fun q => sz ≤ q)) 0 0 (fun q => sz ≤ q) := by
  refine Met.ofW (cc := b_D_value) (maxL := 3) (ret := (some .int)) (by decide) rfl ?_
  intro p e s m args below meth c s₁ B hml hv
  obtain ⟨rfl, hsz, hP, hK, hD0, hN⟩ := hv
  have hx := B.exec
  have hb := B.bytes
  have hr := B.returns
  have hts := atoms_spec (ws := (wd y_D_value b_D_value 3 (some .int))) B.pre
  have htb : ∀ w ∈ tb, w.before _ s = true := fun w h => hts w (List.mem_cons_of_mem _ h)
  have hown : s.vm.findClass R_D = some m.cls := findClass_of_methodNamed B.named
  have hlocks := B.notSynchronized
  subst hsz
  have hD := hD0
  have hA : ∀ q : Nat, s.heap.size ≤ q → s.heap.size ≤ q := fun q h => h
  have hS : va_S (fun q => s.heap.size ≤ q) s.heap s.heap [] := va_S.rf
  have hP : va_P (dC, dI) classes (wX ad cs σ) s.heap := hP
  have hl := lv_entry ([.ref (ad 1 0), .int a1, .int a2]) (n := 3) (Nat.le_of_ble_eq_true rfl)
  rw [lg_entry_eq]
  generalize (lg_sl ([.ref (ad 1 0), .int a1, .int a2]) ++ List.replicate (3 - (lg_sl ([.ref (ad 1 0), .int a1, .int a2])).length) Slot.unset).toArray = ls at hl ⊢
  have hl : lv_has ls 3 [(0, .ref (ad 1 0)), (1, .int a1), (2, .int a2)] := hl
  rw [m_D_value] at hM
  refine lv_aload_n hx hb d_D_value_0 rfl (lv_at hl 0 rfl) ?_
  refine lv_iload_n hx hb d_D_value_1 rfl (lv_at hl 1 rfl) ?_
  obtain ⟨x2, y2, hq2, hM⟩ := bI_some hM
  refine va_calli (va_runV (As := [.int a1]) (rest := []) ⟨hx, hb, hml, hown, hts⟩ (c_D_hasCard l dC dI ad cs _ N σ a1 hq2) (cwV 1 hts (goodV k_325 k_314 k_315 k_2 k_316) rfl rfl rfl ⟨rfl, by decide, by decide, by decide +kernel⟩ ⟨Nat.le_of_ble_eq_true rfl, Nat.le_of_ble_eq_true rfl⟩) ⟨blindX, va_recv hK hP rfl (g_D), payX hP hK hD hN⟩ rfl rfl hl.1 rfl (lv_room (Nat.le_of_ble_eq_true rfl)) d_D_value_2 ⟨Nat.zero_le _, Nat.zero_le _⟩) hS (fun q h0 h => absurd h0 (Nat.not_lt.mpr h)) (fun q h => hA q (Nat.le_trans hS.1 h)) (fun r2 u t H locs ht hvm hpost hB hz1 hk1 hS => ?_)
  obtain ⟨e1, e2⟩ := hpost
  subst e1
  subst e2
  have hP := keepP hP hk1
  refine lv_if_eq (tgt := 26) hx hb d_D_value_5 (by decide) (fun h5 => ?_) (fun h5 => ?_)
  · rw [if_pos h5] at hM
    refine lv_iconst (v := 0) hx hb d_D_value_26 (by decide) ?_
    have e9 := Prod.mk.inj (Option.some.inj hM)
    exact W.iret (v := 0) hx hb hr (fun t ht hW => ⟨⟨0, (), rfl, e9, trivial⟩, hS.F ht⟩) hS.2.2 d_D_value_27
  · rw [if_neg h5] at hM
    refine lv_iload_n hx hb d_D_value_8 rfl (lv_at hl 2 rfl) ?_
    obtain ⟨x9, hq9, hM⟩ := bP_some hM
    refine va_calli (va_runSN (As := [.int a2]) (rest := []) ⟨hx, hb, hml, hown, hts⟩ (c_O_isField l _ a2 hq9) ⟨va_cnB 1 hts (goodW k_328) rfl rfl rfl (hN.2.2.2.2.2.2.2.1) (htb _ k_1) ⟨by decide, by decide, by decide +kernel⟩ ⟨Nat.le_of_ble_eq_true rfl, Nat.le_of_ble_eq_true rfl⟩, htb _ k_327, trivial⟩ ⟨blindS, payS⟩ rfl rfl hl.1 rfl (lv_room (Nat.le_of_ble_eq_true rfl)) d_D_value_9 ⟨Nat.zero_le _, Nat.zero_le _⟩) hS (fun q h0 h => absurd h0 (Nat.not_lt.mpr h)) (fun q h => hA q (Nat.le_trans hS.1 h)) (fun r9 u t H locs ht hvm hpost hB hz1 hk1 hS => ?_)
    subst hpost
    have hP := keepP hP hk1
    refine lv_if_eq (tgt := 26) hx hb d_D_value_12 (by decide) (fun h12 => ?_) (fun h12 => ?_)
    · rw [if_pos h12] at hM
      refine lv_iconst (v := 0) hx hb d_D_value_26 (by decide) ?_
      have e9 := Prod.mk.inj (Option.some.inj hM)
      exact W.iret (v := 0) hx hb hr (fun t ht hW => ⟨⟨0, (), rfl, e9, trivial⟩, hS.F ht⟩) hS.2.2 d_D_value_27
    · rw [if_neg h12] at hM
      refine lv_aload_n hx hb d_D_value_15 rfl (lv_at hl 0 rfl) ?_
      refine va_get (D := (dC, dI)) (ci := 1) (v := .ref (ad 1 9)) (C := R_D) (T := F_D) (N := 5) hx hb htb in_D hown hK hP 1 (g_D) rfl 0 (by decide) (htb _ k_32) (fun _ h9 => h9) rfl d_D_value_16 ?_
      refine lv_iload_n hx hb d_D_value_19 rfl (lv_at hl 2 rfl) ?_
      have hg20 := gd_c hM
      have hM := gd_v hM
      refine va_aldv hx hb hK hP 2 3 (f := fun i => some (ad 1 (1 + i))) g_values rfl (inb_in hg20) d_D_value_20 ?_
      by_cases hr20 : a2 = 0
      · rw [if_pos hr20] at hM
        refine W.eq (g2 := F0 m 21 ls [.ref (ad 1 1)]) (by rw [hr20]; rfl) ?_
        refine lv_iload_n hx hb d_D_value_21 rfl (lv_at hl 1 rfl) ?_
        have hg22 := gd_c hM
        have hM := gd_v hM
        refine va_iald hx hb hK hP 3 0 (g_D_a1) rfl (inb_in hg22) d_D_value_22 ?_
        refine lv_goto (tgt := 27) hx hb d_D_value_23 (by decide) ?_
        have e9 := Prod.mk.inj (Option.some.inj hM)
        exact W.iret (v := ((σ 1).2 1 a1.toNatClampNeg)) hx hb hr (fun t ht hW => ⟨⟨((σ 1).2 1 a1.toNatClampNeg), (), rfl, e9, trivial⟩, hS.F ht⟩) hS.2.2 d_D_value_27
      · rw [if_neg hr20] at hM
        refine W.eq (g2 := F0 m 21 ls [.ref (ad 1 2)]) (by rw [inb2_1 hg20 hr20]; rfl) ?_
        refine lv_iload_n hx hb d_D_value_21 rfl (lv_at hl 1 rfl) ?_
        have hg22 := gd_c hM
        have hM := gd_v hM
        refine va_iald hx hb hK hP 4 0 (g_D_a2) rfl (inb_in hg22) d_D_value_22 ?_
        refine lv_goto (tgt := 27) hx hb d_D_value_23 (by decide) ?_
        have e9 := Prod.mk.inj (Option.some.inj hM)
        exact W.iret (v := ((σ 1).2 2 a1.toNatClampNeg)) hx hb hr (fun t ht hW => ⟨⟨((σ 1).2 2 a1.toNatClampNeg), (), rfl, e9, trivial⟩, hS.F ht⟩) hS.2.2 d_D_value_27

theorem d_D_rank_0 : decode b_D_rank 0 = .ok (.iload_n 1, 1) := by decide +kernel
theorem d_D_rank_1 : decode b_D_rank 1 = .ok (.i2l, 1) := by decide +kernel
theorem d_D_rank_2 : decode b_D_rank 2 = .ok (.lstore_n 2, 1) := by decide +kernel
theorem d_D_rank_3 : decode b_D_rank 3 = .ok (.iload_n 0, 1) := by decide +kernel
theorem d_D_rank_4 : decode b_D_rank 4 = .ok (.tableswitch 50 1 3 #[28, 31, 37], 28) := by decide +kernel
theorem d_D_rank_32 : decode b_D_rank 32 = .ok (.lload_n 2, 1) := by decide +kernel
theorem d_D_rank_33 : decode b_D_rank 33 = .ok (.lneg, 1) := by decide +kernel
theorem d_D_rank_34 : decode b_D_rank 34 = .ok (.lreturn, 1) := by decide +kernel
theorem d_D_rank_35 : decode b_D_rank 35 = .ok (.lload_n 2, 1) := by decide +kernel
theorem d_D_rank_36 : decode b_D_rank 36 = .ok (.ldc2_w 52, 3) := by decide +kernel
theorem d_D_rank_39 : decode b_D_rank 39 = .ok (.land, 1) := by decide +kernel
theorem d_D_rank_40 : decode b_D_rank 40 = .ok (.lreturn, 1) := by decide +kernel
theorem d_D_rank_41 : decode b_D_rank 41 = .ok (.lload_n 2, 1) := by decide +kernel
theorem d_D_rank_42 : decode b_D_rank 42 = .ok (.lconst 0, 1) := by decide +kernel
theorem d_D_rank_43 : decode b_D_rank 43 = .ok (.lcmp, 1) := by decide +kernel
theorem d_D_rank_44 : decode b_D_rank 44 = .ok (.ifCond .ge 8, 3) := by decide +kernel
theorem d_D_rank_47 : decode b_D_rank 47 = .ok (.lload_n 2, 1) := by decide +kernel
theorem d_D_rank_48 : decode b_D_rank 48 = .ok (.lneg, 1) := by decide +kernel
theorem d_D_rank_49 : decode b_D_rank 49 = .ok (.goto 4, 3) := by decide +kernel
theorem d_D_rank_52 : decode b_D_rank 52 = .ok (.lload_n 2, 1) := by decide +kernel
theorem d_D_rank_53 : decode b_D_rank 53 = .ok (.lreturn, 1) := by decide +kernel
theorem d_D_rank_54 : decode b_D_rank 54 = .ok (.lload_n 2, 1) := by decide +kernel
theorem d_D_rank_55 : decode b_D_rank 55 = .ok (.lreturn, 1) := by decide +kernel
def m_D_rank (a0 : Int32) (a1 : Int32) : Option Int64 :=
  (if a0 = 1 then some (-a1.toInt64) else (if a0 = 2 then some (a1.toInt64 &&& 4294967295) else (if a0 = 3 then (if 0 ≤ (lg_cmp a1.toInt64 0) then some a1.toInt64 else some (-a1.toInt64)) else some a1.toInt64)))

set_option maxHeartbeats 4000000 in
set_option maxRecDepth 100000 in
theorem c_D_rank (l : Launch) (sz : Nat) (a0 : Int32) (a1 : Int32) {r0 : Int64} (hM : m_D_rank a0 a1 = some r0) : Met l y_D_rank (wd y_D_rank b_D_rank 4 (some .long)) ({ frames := 0, cells := 0, slots := 0, locals := 0 }) (va_Pc [.int a0, .int a1] (fun U => U.heap.size = sz)) (va_Ql (fun (r : Int64) (_ : Unit) => r = r0) (fun _ _ => True) (fun q => sz ≤ q)) 0 0 (fun q => sz ≤ q) := by
  refine Met.ofW (cc := b_D_rank) (maxL := 4) (ret := (some .long)) (by decide) rfl ?_
  intro p e s m args below meth c s₁ B hml hv
  obtain ⟨rfl, hsz⟩ := hv
  have hx := B.exec
  have hb := B.bytes
  have hr := B.returns
  have hts := atoms_spec (ws := (wd y_D_rank b_D_rank 4 (some .long))) B.pre
  have htb : ∀ w ∈ tb, w.before _ s = true := fun w h => hts w (List.mem_cons_of_mem _ h)
  have hown : s.vm.findClass R_D = some m.cls := findClass_of_methodNamed B.named
  have hlocks := B.notSynchronized
  subst hsz
  have hS : va_S (fun q => s.heap.size ≤ q) s.heap s.heap [] := va_S.rf
  have hA : ∀ q : Nat, s.heap.size ≤ q → s.heap.size ≤ q := fun q h => h
  have hl := lv_entry ([.int a0, .int a1]) (n := 4) (Nat.le_of_ble_eq_true rfl)
  rw [lg_entry_eq]
  generalize (lg_sl ([.int a0, .int a1]) ++ List.replicate (4 - (lg_sl ([.int a0, .int a1])).length) Slot.unset).toArray = ls at hl ⊢
  have hl : lv_has ls 4 [(0, .int a0), (1, .int a1)] := hl
  rw [m_D_rank] at hM
  refine lv_iload_n hx hb d_D_rank_0 rfl (lv_at hl 1 rfl) ?_
  refine lv_i2l hx hb d_D_rank_1 rfl ?_
  refine lv_lstore_n hx hb d_D_rank_2 rfl hl (by decide) (lv' := [(2, .long a1.toInt64), (0, .int a0), (1, .int a1)]) rfl (fun ls hl => ?_)
  refine lv_iload_n hx hb d_D_rank_3 rfl (lv_at hl 1 rfl) ?_
  by_cases hw4_1 : a0 = 1
  · rw [if_pos hw4_1] at hM
    refine lv_tableIn (tgt := 32) (off := 28) hx hb d_D_rank_4 (by rw [hw4_1]; decide) (by rw [hw4_1]; decide) (by rw [hw4_1]; decide) (by decide) ?_
    refine lv_lload_n hx hb d_D_rank_32 rfl (lv_at hl 0 rfl) ?_
    refine lv_lneg hx hb d_D_rank_33 ?_
    have e9 := Option.some.inj hM
    exact W.lret (v := (-a1.toInt64)) hx hb hr (fun t ht hW => ⟨⟨(-a1.toInt64), (), rfl, e9, trivial⟩, hS.F ht⟩) hS.2.2 d_D_rank_34
  rw [if_neg hw4_1] at hM
  by_cases hw4_2 : a0 = 2
  · rw [if_pos hw4_2] at hM
    refine lv_tableIn (tgt := 35) (off := 31) hx hb d_D_rank_4 (by rw [hw4_2]; decide) (by rw [hw4_2]; decide) (by rw [hw4_2]; decide) (by decide) ?_
    refine lv_lload_n hx hb d_D_rank_35 rfl (lv_at hl 0 rfl) ?_
    refine lv_ldc2 (own := R_D) (v := 4294967295) hx hb hown (htb _ k_332) d_D_rank_36 ?_
    refine lv_land hx hb d_D_rank_39 ?_
    have e9 := Option.some.inj hM
    exact W.lret (v := (a1.toInt64 &&& 4294967295)) hx hb hr (fun t ht hW => ⟨⟨(a1.toInt64 &&& 4294967295), (), rfl, e9, trivial⟩, hS.F ht⟩) hS.2.2 d_D_rank_40
  rw [if_neg hw4_2] at hM
  by_cases hw4_3 : a0 = 3
  · rw [if_pos hw4_3] at hM
    refine lv_tableIn (tgt := 41) (off := 37) hx hb d_D_rank_4 (by rw [hw4_3]; decide) (by rw [hw4_3]; decide) (by rw [hw4_3]; decide) (by decide) ?_
    refine lv_lload_n hx hb d_D_rank_41 rfl (lv_at hl 0 rfl) ?_
    refine lv_lconst (v := 0) hx hb d_D_rank_42 (by decide) ?_
    refine W.lcmp hx hb d_D_rank_43 ?_
    refine lv_if_ge (tgt := 52) hx hb d_D_rank_44 (by decide) (fun h44 => ?_) (fun h44 => ?_)
    · rw [if_pos h44] at hM
      refine lv_lload_n hx hb d_D_rank_52 rfl (lv_at hl 0 rfl) ?_
      have e9 := Option.some.inj hM
      exact W.lret (v := a1.toInt64) hx hb hr (fun t ht hW => ⟨⟨a1.toInt64, (), rfl, e9, trivial⟩, hS.F ht⟩) hS.2.2 d_D_rank_53
    · rw [if_neg h44] at hM
      refine lv_lload_n hx hb d_D_rank_47 rfl (lv_at hl 0 rfl) ?_
      refine lv_lneg hx hb d_D_rank_48 ?_
      refine lv_goto (tgt := 53) hx hb d_D_rank_49 (by decide) ?_
      have e9 := Option.some.inj hM
      exact W.lret (v := (-a1.toInt64)) hx hb hr (fun t ht hW => ⟨⟨(-a1.toInt64), (), rfl, e9, trivial⟩, hS.F ht⟩) hS.2.2 d_D_rank_53
  rw [if_neg hw4_3] at hM
  refine lv_tableOut (tgt := 54) hx hb d_D_rank_4 (sw_out3 hw4_1 hw4_2 hw4_3) (by decide) ?_
  refine lv_lload_n hx hb d_D_rank_54 rfl (lv_at hl 0 rfl) ?_
  have e9 := Option.some.inj hM
  exact W.lret (v := a1.toInt64) hx hb hr (fun t ht hW => ⟨⟨a1.toInt64, (), rfl, e9, trivial⟩, hS.F ht⟩) hS.2.2 d_D_rank_55

theorem d_D_comesBefore_0 : decode b_D_comesBefore 0 = .ok (.iconst 0, 1) := by decide +kernel
theorem d_D_comesBefore_1 : decode b_D_comesBefore 1 = .ok (.istore_n 3, 1) := by decide +kernel
theorem d_D_comesBefore_2 : decode b_D_comesBefore 2 = .ok (.iload_n 3, 1) := by decide +kernel
theorem d_D_comesBefore_3 : decode b_D_comesBefore 3 = .ok (.aload_n 0, 1) := by decide +kernel
theorem d_D_comesBefore_4 : decode b_D_comesBefore 4 = .ok (.getfield 27, 3) := by decide +kernel
theorem d_D_comesBefore_7 : decode b_D_comesBefore 7 = .ok (.if_icmp .ge 75, 3) := by decide +kernel
theorem d_D_comesBefore_10 : decode b_D_comesBefore 10 = .ok (.aload_n 0, 1) := by decide +kernel
theorem d_D_comesBefore_11 : decode b_D_comesBefore 11 = .ok (.getfield 20, 3) := by decide +kernel
theorem d_D_comesBefore_14 : decode b_D_comesBefore 14 = .ok (.iload_n 3, 1) := by decide +kernel
theorem d_D_comesBefore_15 : decode b_D_comesBefore 15 = .ok (.iaload, 1) := by decide +kernel
theorem d_D_comesBefore_16 : decode b_D_comesBefore 16 = .ok (.aload_n 0, 1) := by decide +kernel
theorem d_D_comesBefore_17 : decode b_D_comesBefore 17 = .ok (.iload_n 1, 1) := by decide +kernel
theorem d_D_comesBefore_18 : decode b_D_comesBefore 18 = .ok (.aload_n 0, 1) := by decide +kernel
theorem d_D_comesBefore_19 : decode b_D_comesBefore 19 = .ok (.getfield 16, 3) := by decide +kernel
theorem d_D_comesBefore_22 : decode b_D_comesBefore 22 = .ok (.iload_n 3, 1) := by decide +kernel
theorem d_D_comesBefore_23 : decode b_D_comesBefore 23 = .ok (.iaload, 1) := by decide +kernel
theorem d_D_comesBefore_24 : decode b_D_comesBefore 24 = .ok (.invokevirtual 44, 3) := by decide +kernel
theorem d_D_comesBefore_27 : decode b_D_comesBefore 27 = .ok (.invokestatic 48, 3) := by decide +kernel
theorem d_D_comesBefore_30 : decode b_D_comesBefore 30 = .ok (.lstore 4, 2) := by decide +kernel
theorem d_D_comesBefore_32 : decode b_D_comesBefore 32 = .ok (.aload_n 0, 1) := by decide +kernel
theorem d_D_comesBefore_33 : decode b_D_comesBefore 33 = .ok (.getfield 20, 3) := by decide +kernel
theorem d_D_comesBefore_36 : decode b_D_comesBefore 36 = .ok (.iload_n 3, 1) := by decide +kernel
theorem d_D_comesBefore_37 : decode b_D_comesBefore 37 = .ok (.iaload, 1) := by decide +kernel
theorem d_D_comesBefore_38 : decode b_D_comesBefore 38 = .ok (.aload_n 0, 1) := by decide +kernel
theorem d_D_comesBefore_39 : decode b_D_comesBefore 39 = .ok (.iload_n 2, 1) := by decide +kernel
theorem d_D_comesBefore_40 : decode b_D_comesBefore 40 = .ok (.aload_n 0, 1) := by decide +kernel
theorem d_D_comesBefore_41 : decode b_D_comesBefore 41 = .ok (.getfield 16, 3) := by decide +kernel
theorem d_D_comesBefore_44 : decode b_D_comesBefore 44 = .ok (.iload_n 3, 1) := by decide +kernel
theorem d_D_comesBefore_45 : decode b_D_comesBefore 45 = .ok (.iaload, 1) := by decide +kernel
theorem d_D_comesBefore_46 : decode b_D_comesBefore 46 = .ok (.invokevirtual 44, 3) := by decide +kernel
theorem d_D_comesBefore_49 : decode b_D_comesBefore 49 = .ok (.invokestatic 48, 3) := by decide +kernel
theorem d_D_comesBefore_52 : decode b_D_comesBefore 52 = .ok (.lstore 6, 2) := by decide +kernel
theorem d_D_comesBefore_54 : decode b_D_comesBefore 54 = .ok (.lload 4, 2) := by decide +kernel
theorem d_D_comesBefore_56 : decode b_D_comesBefore 56 = .ok (.lload 6, 2) := by decide +kernel
theorem d_D_comesBefore_58 : decode b_D_comesBefore 58 = .ok (.lcmp, 1) := by decide +kernel
theorem d_D_comesBefore_59 : decode b_D_comesBefore 59 = .ok (.ifCond .eq 17, 3) := by decide +kernel
theorem d_D_comesBefore_62 : decode b_D_comesBefore 62 = .ok (.lload 4, 2) := by decide +kernel
theorem d_D_comesBefore_64 : decode b_D_comesBefore 64 = .ok (.lload 6, 2) := by decide +kernel
theorem d_D_comesBefore_66 : decode b_D_comesBefore 66 = .ok (.lcmp, 1) := by decide +kernel
theorem d_D_comesBefore_67 : decode b_D_comesBefore 67 = .ok (.ifCond .ge 7, 3) := by decide +kernel
theorem d_D_comesBefore_70 : decode b_D_comesBefore 70 = .ok (.iconst 1, 1) := by decide +kernel
theorem d_D_comesBefore_71 : decode b_D_comesBefore 71 = .ok (.goto 4, 3) := by decide +kernel
theorem d_D_comesBefore_74 : decode b_D_comesBefore 74 = .ok (.iconst 0, 1) := by decide +kernel
theorem d_D_comesBefore_75 : decode b_D_comesBefore 75 = .ok (.ireturn, 1) := by decide +kernel
theorem d_D_comesBefore_76 : decode b_D_comesBefore 76 = .ok (.iinc 3 1, 3) := by decide +kernel
theorem d_D_comesBefore_79 : decode b_D_comesBefore 79 = .ok (.goto (-77), 3) := by decide +kernel
theorem d_D_comesBefore_82 : decode b_D_comesBefore 82 = .ok (.iload_n 1, 1) := by decide +kernel
theorem d_D_comesBefore_83 : decode b_D_comesBefore 83 = .ok (.iload_n 2, 1) := by decide +kernel
theorem d_D_comesBefore_84 : decode b_D_comesBefore 84 = .ok (.if_icmp .ge 7, 3) := by decide +kernel
theorem d_D_comesBefore_87 : decode b_D_comesBefore 87 = .ok (.iconst 1, 1) := by decide +kernel
theorem d_D_comesBefore_88 : decode b_D_comesBefore 88 = .ok (.goto 4, 3) := by decide +kernel
theorem d_D_comesBefore_91 : decode b_D_comesBefore 91 = .ok (.iconst 0, 1) := by decide +kernel
theorem d_D_comesBefore_92 : decode b_D_comesBefore 92 = .ok (.ireturn, 1) := by decide +kernel
def m_D_comesBefore_2 (N : Nat) : Nat → SX → Int32 → Int32 → Int32 → Option (Int32 × SX)
  | 0, _, _, _, _ => none
  | n2 + 1, σ, v1, v2, v3 =>
    (if ((σ 1).1 1) ≤ v3 then (if v2 ≤ v1 then some (0, σ) else some (1, σ)) else (if inb v3 3 = true then (if inb v3 3 = true then (bI (m_D_value N σ v1 ((σ 1).2 3 v3.toNatClampNeg)) fun r24 σ24 => (bL (m_D_rank ((σ 1).2 4 v3.toNatClampNeg) r24) fun r27 => (if inb v3 3 = true then (if inb v3 3 = true then (bI (m_D_value N σ v2 ((σ 1).2 3 v3.toNatClampNeg)) fun r46 σ46 => (bL (m_D_rank ((σ 1).2 4 v3.toNatClampNeg) r46) fun r49 => (if (lg_cmp r27 r49) = 0 then m_D_comesBefore_2 N n2 σ v1 v2 (v3 + 1) else (if 0 ≤ (lg_cmp r27 r49) then some (0, σ) else some (1, σ))))) else none) else none))) else none) else none))

def m_D_comesBefore (N : Nat) (σ : SX) (a1 : Int32) (a2 : Int32) : Option (Int32 × SX) :=
  m_D_comesBefore_2 N N σ a1 a2 0

set_option maxHeartbeats 4000000 in
set_option maxRecDepth 100000 in
theorem c_D_comesBefore (l : Launch) (dC : Nat → ClassId) (dI : Nat → Nat → Nat) (ad : Nat → Nat → Nat) (cs : Nat → ClassId) (sz N : Nat) (σ : SX) (a1 : Int32) (a2 : Int32) {r0 : Int32} {σ0 : SX} (hM : m_D_comesBefore N σ a1 a2 = some (r0, σ0)) : Met l y_D_comesBefore (wd y_D_comesBefore b_D_comesBefore 8 (some .boolean)) ({ frames := 2, cells := 0, slots := 0, locals := 43 }) (va_Pc [.ref (ad 1 0), .int a1, .int a2] (preX dC dI ad cs sz σ)) (va_Qi (fun (r : Int32) (_ : Unit) => r = r0 ∧ σ = σ0) (fun _ _ => True) (fun q => sz ≤ q)) 0 0 (fun q => sz ≤ q) := by
  refine Met.ofW (cc := b_D_comesBefore) (maxL := 8) (ret := (some .boolean)) (by decide) rfl ?_
  intro p e s m args below meth c s₁ B hml hv
  obtain ⟨rfl, hsz, hP, hK, hD0, hN⟩ := hv
  have hx := B.exec
  have hb := B.bytes
  have hr := B.returns
  have hts := atoms_spec (ws := (wd y_D_comesBefore b_D_comesBefore 8 (some .boolean))) B.pre
  have htb : ∀ w ∈ tb, w.before _ s = true := fun w h => hts w (List.mem_cons_of_mem _ h)
  have hown : s.vm.findClass R_D = some m.cls := findClass_of_methodNamed B.named
  have hlocks := B.notSynchronized
  subst hsz
  have hD := hD0
  have hA : ∀ q : Nat, s.heap.size ≤ q → s.heap.size ≤ q := fun q h => h
  have hS : va_S (fun q => s.heap.size ≤ q) s.heap s.heap [] := va_S.rf
  have hP : va_P (dC, dI) classes (wX ad cs σ) s.heap := hP
  have hl := lv_entry ([.ref (ad 1 0), .int a1, .int a2]) (n := 8) (Nat.le_of_ble_eq_true rfl)
  rw [lg_entry_eq]
  generalize (lg_sl ([.ref (ad 1 0), .int a1, .int a2]) ++ List.replicate (8 - (lg_sl ([.ref (ad 1 0), .int a1, .int a2])).length) Slot.unset).toArray = ls at hl ⊢
  have hl : lv_has ls 8 [(0, .ref (ad 1 0)), (1, .int a1), (2, .int a2)] := hl
  rw [m_D_comesBefore] at hM
  refine W_loop (pc := 2) (fun n2 H locs ls st => ∃ (v1 : Int32) (v2 : Int32) (v3 : Int32), st = [] ∧ m_D_comesBefore_2 N n2 σ v1 v2 v3 = some (r0, σ0) ∧ lv_has ls 8 [(0, .ref (ad 1 0)), (1, .int v1), (2, .int v2), (3, .int v3)] ∧ va_P (dC, dI) classes (wX ad cs σ) H ∧ va_D (fun _ => True) (wX ad cs σ) ∧ va_S (fun q => s.heap.size ≤ q) s.heap H locs) ?_ ?_ ?_
  · rintro H locs ls st ⟨v1, v2, v3, -, hM, -⟩
    rw [m_D_comesBefore_2] at hM; cases hM
  · intro n2 K2 H locs ls st hI
    obtain ⟨v1, v2, v3, rfl, hM, hl, hP, hD, hS⟩ := hI
    rw [m_D_comesBefore_2] at hM
    refine lv_iload_n hx hb d_D_comesBefore_2 rfl (lv_at hl 3 rfl) ?_
    refine lv_aload_n hx hb d_D_comesBefore_3 rfl (lv_at hl 0 rfl) ?_
    refine va_get (D := (dC, dI)) (ci := 1) (v := .int ((σ 1).1 1)) (C := R_D) (T := F_D) (N := 5) hx hb htb in_D hown hK hP 1 (g_D) rfl 4 (by decide) (htb _ k_36) (fun _ h9 => h9) rfl d_D_comesBefore_4 ?_
    refine lv_icmp_ge (tgt := 82) hx hb d_D_comesBefore_7 (by decide) (fun h7 => ?_) (fun h7 => ?_)
    · rw [if_pos h7] at hM
      refine lv_iload_n hx hb d_D_comesBefore_82 rfl (lv_at hl 1 rfl) ?_
      refine lv_iload_n hx hb d_D_comesBefore_83 rfl (lv_at hl 2 rfl) ?_
      refine lv_icmp_ge (tgt := 91) hx hb d_D_comesBefore_84 (by decide) (fun h84 => ?_) (fun h84 => ?_)
      · rw [if_pos h84] at hM
        refine lv_iconst (v := 0) hx hb d_D_comesBefore_91 (by decide) ?_
        have e9 := Prod.mk.inj (Option.some.inj hM)
        exact W.zret (ty := .boolean) (v := 0) hx hb hr rfl (fun t ht hW => ⟨⟨0, (), rfl, e9, trivial⟩, hS.F ht⟩) hS.2.2 d_D_comesBefore_92
      · rw [if_neg h84] at hM
        refine lv_iconst (v := 1) hx hb d_D_comesBefore_87 (by decide) ?_
        refine lv_goto (tgt := 92) hx hb d_D_comesBefore_88 (by decide) ?_
        have e9 := Prod.mk.inj (Option.some.inj hM)
        exact W.zret (ty := .boolean) (v := 1) hx hb hr rfl (fun t ht hW => ⟨⟨1, (), rfl, e9, trivial⟩, hS.F ht⟩) hS.2.2 d_D_comesBefore_92
    · rw [if_neg h7] at hM
      refine lv_aload_n hx hb d_D_comesBefore_10 rfl (lv_at hl 0 rfl) ?_
      refine va_get (D := (dC, dI)) (ci := 1) (v := .ref (ad 1 4)) (C := R_D) (T := F_D) (N := 5) hx hb htb in_D hown hK hP 1 (g_D) rfl 2 (by decide) (htb _ k_34) (fun _ h9 => h9) rfl d_D_comesBefore_11 ?_
      refine lv_iload_n hx hb d_D_comesBefore_14 rfl (lv_at hl 3 rfl) ?_
      have hg15 := gd_c hM
      have hM := gd_v hM
      refine va_iald hx hb hK hP 6 0 (g_D_a4) rfl (inb_in hg15) d_D_comesBefore_15 ?_
      refine lv_aload_n hx hb d_D_comesBefore_16 rfl (lv_at hl 0 rfl) ?_
      refine lv_iload_n hx hb d_D_comesBefore_17 rfl (lv_at hl 1 rfl) ?_
      refine lv_aload_n hx hb d_D_comesBefore_18 rfl (lv_at hl 0 rfl) ?_
      refine va_get (D := (dC, dI)) (ci := 1) (v := .ref (ad 1 3)) (C := R_D) (T := F_D) (N := 5) hx hb htb in_D hown hK hP 1 (g_D) rfl 1 (by decide) (htb _ k_33) (fun _ h9 => h9) rfl d_D_comesBefore_19 ?_
      refine lv_iload_n hx hb d_D_comesBefore_22 rfl (lv_at hl 3 rfl) ?_
      have hg23 := gd_c hM
      have hM := gd_v hM
      refine va_iald hx hb hK hP 5 0 (g_D_a3) rfl (inb_in hg23) d_D_comesBefore_23 ?_
      obtain ⟨x24, y24, hq24, hM⟩ := bI_some hM
      refine va_calli (va_runV (As := [.int v1, .int ((σ 1).2 3 v3.toNatClampNeg)]) (rest := [.int ((σ 1).2 4 v3.toNatClampNeg)]) ⟨hx, hb, hml, hown, hts⟩ (c_D_value l dC dI ad cs _ N σ v1 ((σ 1).2 3 v3.toNatClampNeg) hq24) (cwV 2 hts (goodV k_321 k_322 k_323 k_2 k_324) rfl rfl rfl ⟨rfl, by decide, by decide, by decide +kernel⟩ ⟨Nat.le_of_ble_eq_true rfl, Nat.le_of_ble_eq_true rfl⟩) ⟨blindX, va_recv hK hP rfl (g_D), payX hP hK hD hN⟩ rfl rfl hl.1 rfl (lv_room (Nat.le_of_ble_eq_true rfl)) d_D_comesBefore_24 ⟨Nat.zero_le _, Nat.zero_le _⟩) hS (fun q h0 h => absurd h0 (Nat.not_lt.mpr h)) (fun q h => hA q (Nat.le_trans hS.1 h)) (fun r24 u t H locs ht hvm hpost hB hz1 hk1 hS => ?_)
      obtain ⟨e1, e2⟩ := hpost
      subst e1
      subst e2
      have hP := keepP hP hk1
      obtain ⟨x27, hq27, hM⟩ := bL_some hM
      refine va_calll (va_runS (As := [.int ((σ 1).2 4 v3.toNatClampNeg), .int r24]) (rest := []) ⟨hx, hb, hml, hown, hts⟩ (c_D_rank l _ ((σ 1).2 4 v3.toNatClampNeg) r24 hq27) (cwS 2 hts (goodS k_329 k_330 k_2 k_331) rfl rfl rfl ⟨rfl, by decide, by decide, by decide +kernel⟩ ⟨Nat.le_of_ble_eq_true rfl, Nat.le_of_ble_eq_true rfl⟩) ⟨blindS, payS⟩ rfl rfl hl.1 rfl (lv_room (Nat.le_of_ble_eq_true rfl)) d_D_comesBefore_27 ⟨Nat.zero_le _, Nat.zero_le _⟩) hS (fun q h0 h => absurd h0 (Nat.not_lt.mpr h)) (fun q h => hA q (Nat.le_trans hS.1 h)) (fun r27 u t H locs ht hvm hpost hB hz1 hk1 hS => ?_)
      subst hpost
      have hP := keepP hP hk1
      refine lv_lstore hx hb d_D_comesBefore_30 hl (by decide) (lv' := [(4, .long r27), (0, .ref (ad 1 0)), (1, .int v1), (2, .int v2), (3, .int v3)]) rfl (fun ls hl => ?_)
      refine lv_aload_n hx hb d_D_comesBefore_32 rfl (lv_at hl 1 rfl) ?_
      refine va_get (D := (dC, dI)) (ci := 1) (v := .ref (ad 1 4)) (C := R_D) (T := F_D) (N := 5) hx hb htb in_D hown hK hP 1 (g_D) rfl 2 (by decide) (htb _ k_34) (fun _ h9 => h9) rfl d_D_comesBefore_33 ?_
      refine lv_iload_n hx hb d_D_comesBefore_36 rfl (lv_at hl 4 rfl) ?_
      have hg37 := gd_c hM
      have hM := gd_v hM
      refine va_iald hx hb hK hP 6 0 (g_D_a4) rfl (inb_in hg37) d_D_comesBefore_37 ?_
      refine lv_aload_n hx hb d_D_comesBefore_38 rfl (lv_at hl 1 rfl) ?_
      refine lv_iload_n hx hb d_D_comesBefore_39 rfl (lv_at hl 3 rfl) ?_
      refine lv_aload_n hx hb d_D_comesBefore_40 rfl (lv_at hl 1 rfl) ?_
      refine va_get (D := (dC, dI)) (ci := 1) (v := .ref (ad 1 3)) (C := R_D) (T := F_D) (N := 5) hx hb htb in_D hown hK hP 1 (g_D) rfl 1 (by decide) (htb _ k_33) (fun _ h9 => h9) rfl d_D_comesBefore_41 ?_
      refine lv_iload_n hx hb d_D_comesBefore_44 rfl (lv_at hl 4 rfl) ?_
      have hg45 := gd_c hM
      have hM := gd_v hM
      refine va_iald hx hb hK hP 5 0 (g_D_a3) rfl (inb_in hg45) d_D_comesBefore_45 ?_
      obtain ⟨x46, y46, hq46, hM⟩ := bI_some hM
      refine va_calli (va_runV (As := [.int v2, .int ((σ 1).2 3 v3.toNatClampNeg)]) (rest := [.int ((σ 1).2 4 v3.toNatClampNeg)]) ⟨hx, hb, hml, hown, hts⟩ (c_D_value l dC dI ad cs _ N σ v2 ((σ 1).2 3 v3.toNatClampNeg) hq46) (cwV 2 hts (goodV k_321 k_322 k_323 k_2 k_324) rfl rfl rfl ⟨rfl, by decide, by decide, by decide +kernel⟩ ⟨Nat.le_of_ble_eq_true rfl, Nat.le_of_ble_eq_true rfl⟩) ⟨blindX, va_recv hK hP rfl (g_D), payX hP hK hD hN⟩ rfl rfl hl.1 rfl (lv_room (Nat.le_of_ble_eq_true rfl)) d_D_comesBefore_46 ⟨Nat.zero_le _, Nat.zero_le _⟩) hS (fun q h0 h => absurd h0 (Nat.not_lt.mpr h)) (fun q h => hA q (Nat.le_trans hS.1 h)) (fun r46 u t H locs ht hvm hpost hB hz1 hk1 hS => ?_)
      obtain ⟨e1, e2⟩ := hpost
      subst e1
      subst e2
      have hP := keepP hP hk1
      obtain ⟨x49, hq49, hM⟩ := bL_some hM
      refine va_calll (va_runS (As := [.int ((σ 1).2 4 v3.toNatClampNeg), .int r46]) (rest := []) ⟨hx, hb, hml, hown, hts⟩ (c_D_rank l _ ((σ 1).2 4 v3.toNatClampNeg) r46 hq49) (cwS 2 hts (goodS k_329 k_330 k_2 k_331) rfl rfl rfl ⟨rfl, by decide, by decide, by decide +kernel⟩ ⟨Nat.le_of_ble_eq_true rfl, Nat.le_of_ble_eq_true rfl⟩) ⟨blindS, payS⟩ rfl rfl hl.1 rfl (lv_room (Nat.le_of_ble_eq_true rfl)) d_D_comesBefore_49 ⟨Nat.zero_le _, Nat.zero_le _⟩) hS (fun q h0 h => absurd h0 (Nat.not_lt.mpr h)) (fun q h => hA q (Nat.le_trans hS.1 h)) (fun r49 u t H locs ht hvm hpost hB hz1 hk1 hS => ?_)
      subst hpost
      have hP := keepP hP hk1
      refine lv_lstore hx hb d_D_comesBefore_52 hl (by decide) (lv' := [(6, .long r49), (4, .long r27), (0, .ref (ad 1 0)), (1, .int v1), (2, .int v2), (3, .int v3)]) rfl (fun ls hl => ?_)
      refine lv_lload hx hb d_D_comesBefore_54 (lv_at hl 1 rfl) ?_
      refine lv_lload hx hb d_D_comesBefore_56 (lv_at hl 0 rfl) ?_
      refine W.lcmp hx hb d_D_comesBefore_58 ?_
      refine lv_if_eq (tgt := 76) hx hb d_D_comesBefore_59 (by decide) (fun h59 => ?_) (fun h59 => ?_)
      · rw [if_pos h59] at hM
        refine lv_iinc (k := 5) (v := (v3 + 1)) hx hb d_D_comesBefore_76 hl rfl rfl (by decide) (lv' := [(3, .int (v3 + 1)), (6, .long r49), (4, .long r27), (0, .ref (ad 1 0)), (1, .int v1), (2, .int v2)]) rfl (fun ls hl => ?_)
        refine lv_goto (tgt := 2) hx hb d_D_comesBefore_79 (by decide) ?_
        exact K2 _ _ _ _ ⟨v1, v2, (v3 + 1), rfl, hM, lv_sub hl [3, 4, 5, 0] rfl, hP, hD, hS⟩
      · rw [if_neg h59] at hM
        refine lv_lload hx hb d_D_comesBefore_62 (lv_at hl 1 rfl) ?_
        refine lv_lload hx hb d_D_comesBefore_64 (lv_at hl 0 rfl) ?_
        refine W.lcmp hx hb d_D_comesBefore_66 ?_
        refine lv_if_ge (tgt := 74) hx hb d_D_comesBefore_67 (by decide) (fun h67 => ?_) (fun h67 => ?_)
        · rw [if_pos h67] at hM
          refine lv_iconst (v := 0) hx hb d_D_comesBefore_74 (by decide) ?_
          have e9 := Prod.mk.inj (Option.some.inj hM)
          exact W.zret (ty := .boolean) (v := 0) hx hb hr rfl (fun t ht hW => ⟨⟨0, (), rfl, e9, trivial⟩, hS.F ht⟩) hS.2.2 d_D_comesBefore_75
        · rw [if_neg h67] at hM
          refine lv_iconst (v := 1) hx hb d_D_comesBefore_70 (by decide) ?_
          refine lv_goto (tgt := 75) hx hb d_D_comesBefore_71 (by decide) ?_
          have e9 := Prod.mk.inj (Option.some.inj hM)
          exact W.zret (ty := .boolean) (v := 1) hx hb hr rfl (fun t ht hW => ⟨⟨1, (), rfl, e9, trivial⟩, hS.F ht⟩) hS.2.2 d_D_comesBefore_75
  intro K2
  refine lv_iconst (v := 0) hx hb d_D_comesBefore_0 (by decide) ?_
  refine lv_istore_n hx hb d_D_comesBefore_1 rfl hl (by decide) (lv' := [(3, .int 0), (0, .ref (ad 1 0)), (1, .int a1), (2, .int a2)]) rfl (fun ls hl => ?_)
  exact K2 N _ _ _ _ ⟨a1, a2, 0, rfl, hM, lv_sub hl [1, 2, 3, 0] rfl, hP, hD, hS⟩
