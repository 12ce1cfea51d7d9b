theorem d_O_sorted_0 : decode b_O_sorted 0 = .ok (.aload_n 0, 1) := by decide +kernel
theorem d_O_sorted_1 : decode b_O_sorted 1 = .ok (.getfield 53, 3) := by decide +kernel
theorem d_O_sorted_4 : decode b_O_sorted 4 = .ok (.iconst 3, 1) := by decide +kernel
theorem d_O_sorted_5 : decode b_O_sorted 5 = .ok (.if_icmp .ne 16, 3) := by decide +kernel
theorem d_O_sorted_8 : decode b_O_sorted 8 = .ok (.aload_n 0, 1) := by decide +kernel
theorem d_O_sorted_9 : decode b_O_sorted 9 = .ok (.iconst 0, 1) := by decide +kernel
theorem d_O_sorted_10 : decode b_O_sorted 10 = .ok (.invokevirtual 161, 3) := by decide +kernel
theorem d_O_sorted_13 : decode b_O_sorted 13 = .ok (.iconst 0, 1) := by decide +kernel
theorem d_O_sorted_14 : decode b_O_sorted 14 = .ok (.iload_n 1, 1) := by decide +kernel
theorem d_O_sorted_15 : decode b_O_sorted 15 = .ok (.invokevirtual 152, 3) := by decide +kernel
theorem d_O_sorted_18 : decode b_O_sorted 18 = .ok (.goto 4, 3) := by decide +kernel
theorem d_O_sorted_21 : decode b_O_sorted 21 = .ok (.iconst (-1), 1) := by decide +kernel
theorem d_O_sorted_22 : decode b_O_sorted 22 = .ok (.ireturn, 1) := by decide +kernel
def m_O_sorted (N : Nat) (σ : SX) (a1 : Int32) : Option (Int32 × SX) :=
  (if ((σ 0).1 0) = 3 then (bR (m_O_tapeInRole N σ 0) fun x10 σ10 => (bI (m_T_cardOfRun N σ x10 0 a1) fun r15 σ15 => some (r15, σ))) else some ((-1), σ))

set_option maxHeartbeats 4000000 in
set_option maxRecDepth 100000 in
theorem c_O_sorted (l : Launch) (dC : Nat → ClassId) (dI : Nat → Nat → Nat) (ad : Nat → Nat → Nat) (cs : Nat → ClassId) (sz N : Nat) (σ : SX) (a1 : Int32) {r0 : Int32} {σ0 : SX} (hM : m_O_sorted N σ a1 = some (r0, σ0)) : Met l y_O_sorted (wd y_O_sorted b_O_sorted 2 (some .int)) ({ frames := 2, cells := 0, slots := 0, locals := 45 }) (va_Pc [.ref (ad 0 0), .int a1] (preX dC dI ad cs sz σ)) (va_Qi (fun (r : Int32) (_ : Unit) => r = r0 ∧ σ = σ0) (fun _ _ => True) (fun q => sz ≤ q)) 0 0 (fun q => sz ≤ q) := by
  refine Met.ofW (cc := b_O_sorted) (maxL := 2) (ret := (some .int)) (by decide) rfl ?_
  intro p e s m args below meth c s₁ B hml hv
  obtain ⟨rfl, hsz, hP, hK, hD0, hN⟩ := hv
  have hx := B.exec
  have hb := B.bytes
  have hr := B.returns
  have hts := atoms_spec (ws := (wd y_O_sorted b_O_sorted 2 (some .int))) B.pre
  have htb : ∀ w ∈ tb, w.before _ s = true := fun w h => hts w (List.mem_cons_of_mem _ h)
  have hown : s.vm.findClass R_O = some m.cls := findClass_of_methodNamed B.named
  have hlocks := B.notSynchronized
  subst hsz
  have hD := hD0
  have hA : ∀ q : Nat, s.heap.size ≤ q → s.heap.size ≤ q := fun q h => h
  have hS : va_S (fun q => s.heap.size ≤ q) s.heap s.heap [] := va_S.rf
  have hP : va_P (dC, dI) classes (wX ad cs σ) s.heap := hP
  have hl := lv_entry ([.ref (ad 0 0), .int a1]) (n := 2) (Nat.le_of_ble_eq_true rfl)
  rw [lg_entry_eq]
  generalize (lg_sl ([.ref (ad 0 0), .int a1]) ++ List.replicate (2 - (lg_sl ([.ref (ad 0 0), .int a1])).length) Slot.unset).toArray = ls at hl ⊢
  have hl : lv_has ls 2 [(0, .ref (ad 0 0)), (1, .int a1)] := hl
  rw [m_O_sorted] at hM
  refine lv_aload_n hx hb d_O_sorted_0 rfl (lv_at hl 0 rfl) ?_
  refine va_get (D := (dC, dI)) (ci := 0) (v := .int ((σ 0).1 0)) (C := R_O) (T := F_O) (N := 12) hx hb htb in_O hown hK hP 0 (g_O) rfl 10 (by decide) (htb _ k_158) (fun _ h9 => h9) rfl d_O_sorted_1 ?_
  refine lv_iconst (v := 3) hx hb d_O_sorted_4 (by decide) ?_
  refine lv_icmp_ne (tgt := 21) hx hb d_O_sorted_5 (by decide) (fun h5 => ?_) (fun h5 => ?_)
  · rw [if_neg h5] at hM
    refine lv_iconst (v := (-1)) hx hb d_O_sorted_21 (by decide) ?_
    have e9 := Prod.mk.inj (Option.some.inj hM)
    exact W.iret (v := (-1)) hx hb hr (fun t ht hW => ⟨⟨(-1), (), rfl, e9, trivial⟩, hS.F ht⟩) hS.2.2 d_O_sorted_22
  · rw [if_pos h5] at hM
    refine lv_aload_n hx hb d_O_sorted_8 rfl (lv_at hl 0 rfl) ?_
    refine lv_iconst (v := 0) hx hb d_O_sorted_9 (by decide) ?_
    obtain ⟨x10, y10, hq10, hM⟩ := bR_some hM
    refine va_callr (va_runV (As := [.int 0]) (rest := []) ⟨hx, hb, hml, hown, hts⟩ (c_O_tapeInRole l dC dI ad cs _ N σ 0 hq10) (cwV 1 hts (goodV k_305 k_307 ks_O_tapeInRole k_1 k_308) rfl rfl rfl ⟨rfl, by decide, by decide, by decide +kernel⟩ ⟨Nat.le_of_ble_eq_true rfl, Nat.le_of_ble_eq_true rfl⟩) ⟨blindX, va_recv hK hP rfl (g_O), payX hP hK hD hN⟩ rfl rfl hl.1 rfl (lv_room (Nat.le_of_ble_eq_true rfl)) d_O_sorted_10 ⟨Nat.zero_le _, Nat.zero_le _⟩) hS (fun q h0 h => absurd h0 (Nat.not_lt.mpr h)) (fun q h => hA q (Nat.le_trans hS.1 h)) (fun u ra t H locs ht hvm hpost hB hz1 hk1 hS => ?_)
    subst hpost
    obtain ⟨rfl, hx10⟩ := hB
    have hP := keepP hP hk1
    refine lv_iconst (v := 0) hx hb d_O_sorted_13 (by decide) ?_
    refine lv_iload_n hx hb d_O_sorted_14 rfl (lv_at hl 1 rfl) ?_
    obtain ⟨x15, y15, hq15, hM⟩ := bI_some hM
    refine va_calli (va_runV (As := [.int 0, .int a1]) (rest := []) ⟨hx, hb, hml, hown, hts⟩ (c_T_cardOfRun l dC dI ad cs _ N σ x10 hx10 0 a1 hq15) (cwV 2 hts (goodV k_276 k_277 k_278 k_7 k_279) rfl rfl rfl ⟨rfl, by decide, by decide, by decide +kernel⟩ ⟨Nat.le_of_ble_eq_true rfl, Nat.le_of_ble_eq_true rfl⟩) ⟨blindX, va_recv hK hP rfl (g_T hx10), payX hP hK hD hN⟩ rfl rfl hl.1 rfl (lv_room (Nat.le_of_ble_eq_true rfl)) d_O_sorted_15 ⟨Nat.zero_le _, Nat.zero_le _⟩) hS (fun q h0 h => absurd h0 (Nat.not_lt.mpr h)) (fun q h => hA q (Nat.le_trans hS.1 h)) (fun r15 u t H locs ht hvm hpost hB hz1 hk1 hS => ?_)
    obtain ⟨e1, e2⟩ := hpost
    subst e1
    subst e2
    have hP := keepP hP hk1
    refine lv_goto (tgt := 22) hx hb d_O_sorted_18 (by decide) ?_
    have e9 := Prod.mk.inj (Option.some.inj hM)
    exact W.iret (v := r15) hx hb hr (fun t ht hW => ⟨⟨r15, (), rfl, e9, trivial⟩, hS.F ht⟩) hS.2.2 d_O_sorted_22

theorem d_O_compare_0 : decode b_O_compare 0 = .ok (.iload_n 1, 1) := by decide +kernel
theorem d_O_compare_1 : decode b_O_compare 1 = .ok (.iload_n 2, 1) := by decide +kernel
theorem d_O_compare_2 : decode b_O_compare 2 = .ok (.if_icmp .eq 25, 3) := by decide +kernel
theorem d_O_compare_5 : decode b_O_compare 5 = .ok (.aload_n 0, 1) := by decide +kernel
theorem d_O_compare_6 : decode b_O_compare 6 = .ok (.getfield 10, 3) := by decide +kernel
theorem d_O_compare_9 : decode b_O_compare 9 = .ok (.iload_n 1, 1) := by decide +kernel
theorem d_O_compare_10 : decode b_O_compare 10 = .ok (.invokevirtual 165, 3) := by decide +kernel
theorem d_O_compare_13 : decode b_O_compare 13 = .ok (.ifCond .eq 14, 3) := by decide +kernel
theorem d_O_compare_16 : decode b_O_compare 16 = .ok (.aload_n 0, 1) := by decide +kernel
theorem d_O_compare_17 : decode b_O_compare 17 = .ok (.getfield 10, 3) := by decide +kernel
theorem d_O_compare_20 : decode b_O_compare 20 = .ok (.iload_n 2, 1) := by decide +kernel
theorem d_O_compare_21 : decode b_O_compare 21 = .ok (.invokevirtual 165, 3) := by decide +kernel
theorem d_O_compare_24 : decode b_O_compare 24 = .ok (.ifCond .ne 5, 3) := by decide +kernel
theorem d_O_compare_27 : decode b_O_compare 27 = .ok (.iconst 0, 1) := by decide +kernel
theorem d_O_compare_28 : decode b_O_compare 28 = .ok (.ireturn, 1) := by decide +kernel
theorem d_O_compare_29 : decode b_O_compare 29 = .ok (.aload_n 0, 1) := by decide +kernel
theorem d_O_compare_30 : decode b_O_compare 30 = .ok (.getfield 10, 3) := by decide +kernel
theorem d_O_compare_33 : decode b_O_compare 33 = .ok (.iload_n 1, 1) := by decide +kernel
theorem d_O_compare_34 : decode b_O_compare 34 = .ok (.iload_n 2, 1) := by decide +kernel
theorem d_O_compare_35 : decode b_O_compare 35 = .ok (.invokevirtual 168, 3) := by decide +kernel
theorem d_O_compare_38 : decode b_O_compare 38 = .ok (.ifCond .eq 7, 3) := by decide +kernel
theorem d_O_compare_41 : decode b_O_compare 41 = .ok (.iconst (-1), 1) := by decide +kernel
theorem d_O_compare_42 : decode b_O_compare 42 = .ok (.goto 4, 3) := by decide +kernel
theorem d_O_compare_45 : decode b_O_compare 45 = .ok (.iconst 1, 1) := by decide +kernel
theorem d_O_compare_46 : decode b_O_compare 46 = .ok (.ireturn, 1) := by decide +kernel
def m_O_compare (N : Nat) (σ : SX) (a1 : Int32) (a2 : Int32) : Option (Int32 × SX) :=
  (if a1 = a2 then some (0, σ) else (bI (m_D_hasCard N σ a1) fun r10 σ10 => (if r10 = 0 then some (0, σ) else (bI (m_D_hasCard N σ a2) fun r21 σ21 => (if r21 = 0 then some (0, σ) else (bI (m_D_comesBefore N σ a1 a2) fun r35 σ35 => (if r35 = 0 then some (1, σ) else some ((-1), σ))))))))

set_option maxHeartbeats 4000000 in
set_option maxRecDepth 100000 in
theorem c_O_compare (l : Launch) (dC : Nat → ClassId) (dI : Nat → Nat → Nat) (ad : Nat → Nat → Nat) (cs : Nat → ClassId) (sz N : Nat) (σ : SX) (a1 : Int32) (a2 : Int32) {r0 : Int32} {σ0 : SX} (hM : m_O_compare N σ a1 a2 = some (r0, σ0)) : Met l y_O_compare (wd y_O_compare b_O_compare 3 (some .int)) ({ frames := 3, cells := 0, slots := 0, locals := 70 }) (va_Pc [.ref (ad 0 0), .int a1, .int a2] (preX dC dI ad cs sz σ)) (va_Qi (fun (r : Int32) (_ : Unit) => r = r0 ∧ σ = σ0) (fun _ _ => True) (fun q => sz ≤ q)) 0 0 (fun q => sz ≤ q) := by
  refine Met.ofW (cc := b_O_compare) (maxL := 3) (ret := (some .int)) (by decide) rfl ?_
  intro p e s m args below meth c s₁ B hml hv
  obtain ⟨rfl, hsz, hP, hK, hD0, hN⟩ := hv
  have hx := B.exec
  have hb := B.bytes
  have hr := B.returns
  have hts := atoms_spec (ws := (wd y_O_compare b_O_compare 3 (some .int))) B.pre
  have htb : ∀ w ∈ tb, w.before _ s = true := fun w h => hts w (List.mem_cons_of_mem _ h)
  have hown : s.vm.findClass R_O = some m.cls := findClass_of_methodNamed B.named
  have hlocks := B.notSynchronized
  subst hsz
  have hD := hD0
  have hA : ∀ q : Nat, s.heap.size ≤ q → s.heap.size ≤ q := fun q h => h
  have hS : va_S (fun q => s.heap.size ≤ q) s.heap s.heap [] := va_S.rf
  have hP : va_P (dC, dI) classes (wX ad cs σ) s.heap := hP
  have hl := lv_entry ([.ref (ad 0 0), .int a1, .int a2]) (n := 3) (Nat.le_of_ble_eq_true rfl)
  rw [lg_entry_eq]
  generalize (lg_sl ([.ref (ad 0 0), .int a1, .int a2]) ++ List.replicate (3 - (lg_sl ([.ref (ad 0 0), .int a1, .int a2])).length) Slot.unset).toArray = ls at hl ⊢
  have hl : lv_has ls 3 [(0, .ref (ad 0 0)), (1, .int a1), (2, .int a2)] := hl
  rw [m_O_compare] at hM
  refine lv_iload_n hx hb d_O_compare_0 rfl (lv_at hl 1 rfl) ?_
  refine lv_iload_n hx hb d_O_compare_1 rfl (lv_at hl 2 rfl) ?_
  refine lv_icmp_eq (tgt := 27) hx hb d_O_compare_2 (by decide) (fun h2 => ?_) (fun h2 => ?_)
  · rw [if_pos h2] at hM
    refine lv_iconst (v := 0) hx hb d_O_compare_27 (by decide) ?_
    have e9 := Prod.mk.inj (Option.some.inj hM)
    exact W.iret (v := 0) hx hb hr (fun t ht hW => ⟨⟨0, (), rfl, e9, trivial⟩, hS.F ht⟩) hS.2.2 d_O_compare_28
  · rw [if_neg h2] at hM
    refine lv_aload_n hx hb d_O_compare_5 rfl (lv_at hl 0 rfl) ?_
    refine va_get (D := (dC, dI)) (ci := 0) (v := .ref (ad 1 0)) (C := R_O) (T := F_O) (N := 12) hx hb htb in_O hown hK hP 0 (g_O) rfl 0 (by decide) (htb _ k_148) (fun _ h9 => h9) rfl d_O_compare_6 ?_
    refine lv_iload_n hx hb d_O_compare_9 rfl (lv_at hl 1 rfl) ?_
    obtain ⟨x10, y10, hq10, hM⟩ := bI_some hM
    refine va_calli (va_runV (As := [.int a1]) (rest := []) ⟨hx, hb, hml, hown, hts⟩ (c_D_hasCard l dC dI ad cs _ N σ a1 hq10) (cwV 1 hts (goodV k_313 k_314 k_315 k_2 k_316) rfl rfl rfl ⟨rfl, by decide, by decide, by decide +kernel⟩ ⟨Nat.le_of_ble_eq_true rfl, Nat.le_of_ble_eq_true rfl⟩) ⟨blindX, va_recv hK hP rfl (g_D), payX hP hK hD hN⟩ rfl rfl hl.1 rfl (lv_room (Nat.le_of_ble_eq_true rfl)) d_O_compare_10 ⟨Nat.zero_le _, Nat.zero_le _⟩) hS (fun q h0 h => absurd h0 (Nat.not_lt.mpr h)) (fun q h => hA q (Nat.le_trans hS.1 h)) (fun r10 u t H locs ht hvm hpost hB hz1 hk1 hS => ?_)
    obtain ⟨e1, e2⟩ := hpost
    subst e1
    subst e2
    have hP := keepP hP hk1
    refine lv_if_eq (tgt := 27) hx hb d_O_compare_13 (by decide) (fun h13 => ?_) (fun h13 => ?_)
    · rw [if_pos h13] at hM
      refine lv_iconst (v := 0) hx hb d_O_compare_27 (by decide) ?_
      have e9 := Prod.mk.inj (Option.some.inj hM)
      exact W.iret (v := 0) hx hb hr (fun t ht hW => ⟨⟨0, (), rfl, e9, trivial⟩, hS.F ht⟩) hS.2.2 d_O_compare_28
    · rw [if_neg h13] at hM
      refine lv_aload_n hx hb d_O_compare_16 rfl (lv_at hl 0 rfl) ?_
      refine va_get (D := (dC, dI)) (ci := 0) (v := .ref (ad 1 0)) (C := R_O) (T := F_O) (N := 12) hx hb htb in_O hown hK hP 0 (g_O) rfl 0 (by decide) (htb _ k_148) (fun _ h9 => h9) rfl d_O_compare_17 ?_
      refine lv_iload_n hx hb d_O_compare_20 rfl (lv_at hl 2 rfl) ?_
      obtain ⟨x21, y21, hq21, hM⟩ := bI_some hM
      refine va_calli (va_runV (As := [.int a2]) (rest := []) ⟨hx, hb, hml, hown, hts⟩ (c_D_hasCard l dC dI ad cs _ N σ a2 hq21) (cwV 1 hts (goodV k_313 k_314 k_315 k_2 k_316) rfl rfl rfl ⟨rfl, by decide, by decide, by decide +kernel⟩ ⟨Nat.le_of_ble_eq_true rfl, Nat.le_of_ble_eq_true rfl⟩) ⟨blindX, va_recv hK hP rfl (g_D), payX hP hK hD hN⟩ rfl rfl hl.1 rfl (lv_room (Nat.le_of_ble_eq_true rfl)) d_O_compare_21 ⟨Nat.zero_le _, Nat.zero_le _⟩) hS (fun q h0 h => absurd h0 (Nat.not_lt.mpr h)) (fun q h => hA q (Nat.le_trans hS.1 h)) (fun r21 u t H locs ht hvm hpost hB hz1 hk1 hS => ?_)
      obtain ⟨e1, e2⟩ := hpost
      subst e1
      subst e2
      have hP := keepP hP hk1
      refine lv_if_ne (tgt := 29) hx hb d_O_compare_24 (by decide) (fun h24 => ?_) (fun h24 => ?_)
      · rw [if_neg h24] at hM
        refine lv_aload_n hx hb d_O_compare_29 rfl (lv_at hl 0 rfl) ?_
        refine va_get (D := (dC, dI)) (ci := 0) (v := .ref (ad 1 0)) (C := R_O) (T := F_O) (N := 12) hx hb htb in_O hown hK hP 0 (g_O) rfl 0 (by decide) (htb _ k_148) (fun _ h9 => h9) rfl d_O_compare_30 ?_
        refine lv_iload_n hx hb d_O_compare_33 rfl (lv_at hl 1 rfl) ?_
        refine lv_iload_n hx hb d_O_compare_34 rfl (lv_at hl 2 rfl) ?_
        obtain ⟨x35, y35, hq35, hM⟩ := bI_some hM
        refine va_calli (va_runV (As := [.int a1, .int a2]) (rest := []) ⟨hx, hb, hml, hown, hts⟩ (c_D_comesBefore l dC dI ad cs _ N σ a1 a2 hq35) (cwV 2 hts (goodV k_317 k_318 k_319 k_2 k_320) rfl rfl rfl ⟨rfl, by decide, by decide, by decide +kernel⟩ ⟨Nat.le_of_ble_eq_true rfl, Nat.le_of_ble_eq_true rfl⟩) ⟨blindX, va_recv hK hP rfl (g_D), payX hP hK hD hN⟩ rfl rfl hl.1 rfl (lv_room (Nat.le_of_ble_eq_true rfl)) d_O_compare_35 ⟨Nat.zero_le _, Nat.zero_le _⟩) hS (fun q h0 h => absurd h0 (Nat.not_lt.mpr h)) (fun q h => hA q (Nat.le_trans hS.1 h)) (fun r35 u t H locs ht hvm hpost hB hz1 hk1 hS => ?_)
        obtain ⟨e1, e2⟩ := hpost
        subst e1
        subst e2
        have hP := keepP hP hk1
        refine lv_if_eq (tgt := 45) hx hb d_O_compare_38 (by decide) (fun h38 => ?_) (fun h38 => ?_)
        · rw [if_pos h38] at hM
          refine lv_iconst (v := 1) hx hb d_O_compare_45 (by decide) ?_
          have e9 := Prod.mk.inj (Option.some.inj hM)
          exact W.iret (v := 1) hx hb hr (fun t ht hW => ⟨⟨1, (), rfl, e9, trivial⟩, hS.F ht⟩) hS.2.2 d_O_compare_46
        · rw [if_neg h38] at hM
          refine lv_iconst (v := (-1)) hx hb d_O_compare_41 (by decide) ?_
          refine lv_goto (tgt := 46) hx hb d_O_compare_42 (by decide) ?_
          have e9 := Prod.mk.inj (Option.some.inj hM)
          exact W.iret (v := (-1)) hx hb hr (fun t ht hW => ⟨⟨(-1), (), rfl, e9, trivial⟩, hS.F ht⟩) hS.2.2 d_O_compare_46
      · rw [if_pos h24] at hM
        refine lv_iconst (v := 0) hx hb d_O_compare_27 (by decide) ?_
        have e9 := Prod.mk.inj (Option.some.inj hM)
        exact W.iret (v := 0) hx hb hr (fun t ht hW => ⟨⟨0, (), rfl, e9, trivial⟩, hS.F ht⟩) hS.2.2 d_O_compare_28

theorem d_O_field_0 : decode b_O_field 0 = .ok (.aload_n 0, 1) := by decide +kernel
theorem d_O_field_1 : decode b_O_field 1 = .ok (.getfield 10, 3) := by decide +kernel
theorem d_O_field_4 : decode b_O_field 4 = .ok (.iload_n 1, 1) := by decide +kernel
theorem d_O_field_5 : decode b_O_field 5 = .ok (.iload_n 2, 1) := by decide +kernel
theorem d_O_field_6 : decode b_O_field 6 = .ok (.invokevirtual 172, 3) := by decide +kernel
theorem d_O_field_9 : decode b_O_field 9 = .ok (.ireturn, 1) := by decide +kernel
def m_O_field (N : Nat) (σ : SX) (a1 : Int32) (a2 : Int32) : Option (Int32 × SX) :=
  (bI (m_D_value N σ a1 a2) fun r6 σ6 => some (r6, σ))

set_option maxHeartbeats 4000000 in
set_option maxRecDepth 100000 in
theorem c_O_field (l : Launch) (dC : Nat → ClassId) (dI : Nat → Nat → Nat) (ad : Nat → Nat → Nat) (cs : Nat → ClassId) (sz N : Nat) (σ : SX) (a1 : Int32) (a2 : Int32) {r0 : Int32} {σ0 : SX} (hM : m_O_field N σ a1 a2 = some (r0, σ0)) : Met l y_O_field (wd y_O_field b_O_field 3 (some .int)) ({ frames := 2, cells := 0, slots := 0, locals := 43 }) (va_Pc [.ref (ad 0 0), .int a1, .int a2] (preX dC dI ad cs sz σ)) (va_Qi (fun (r : Int32) (_ : Unit) => r = r0 ∧ σ = σ0) (fun _ _ => True) (fun q => sz ≤ q)) 0 0 (fun q => sz ≤ q) := by
  refine Met.ofW (cc := b_O_field) (maxL := 3) (ret := (some .int)) (by decide) rfl ?_
  intro p e s m args below meth c s₁ B hml hv
  obtain ⟨rfl, hsz, hP, hK, hD0, hN⟩ := hv
  have hx := B.exec
  have hb := B.bytes
  have hr := B.returns
  have hts := atoms_spec (ws := (wd y_O_field b_O_field 3 (some .int))) B.pre
  have htb : ∀ w ∈ tb, w.before _ s = true := fun w h => hts w (List.mem_cons_of_mem _ h)
  have hown : s.vm.findClass R_O = some m.cls := findClass_of_methodNamed B.named
  have hlocks := B.notSynchronized
  subst hsz
  have hD := hD0
  have hA : ∀ q : Nat, s.heap.size ≤ q → s.heap.size ≤ q := fun q h => h
  have hS : va_S (fun q => s.heap.size ≤ q) s.heap s.heap [] := va_S.rf
  have hP : va_P (dC, dI) classes (wX ad cs σ) s.heap := hP
  have hl := lv_entry ([.ref (ad 0 0), .int a1, .int a2]) (n := 3) (Nat.le_of_ble_eq_true rfl)
  rw [lg_entry_eq]
  generalize (lg_sl ([.ref (ad 0 0), .int a1, .int a2]) ++ List.replicate (3 - (lg_sl ([.ref (ad 0 0), .int a1, .int a2])).length) Slot.unset).toArray = ls at hl ⊢
  have hl : lv_has ls 3 [(0, .ref (ad 0 0)), (1, .int a1), (2, .int a2)] := hl
  rw [m_O_field] at hM
  refine lv_aload_n hx hb d_O_field_0 rfl (lv_at hl 0 rfl) ?_
  refine va_get (D := (dC, dI)) (ci := 0) (v := .ref (ad 1 0)) (C := R_O) (T := F_O) (N := 12) hx hb htb in_O hown hK hP 0 (g_O) rfl 0 (by decide) (htb _ k_148) (fun _ h9 => h9) rfl d_O_field_1 ?_
  refine lv_iload_n hx hb d_O_field_4 rfl (lv_at hl 1 rfl) ?_
  refine lv_iload_n hx hb d_O_field_5 rfl (lv_at hl 2 rfl) ?_
  obtain ⟨x6, y6, hq6, hM⟩ := bI_some hM
  refine va_calli (va_runV (As := [.int a1, .int a2]) (rest := []) ⟨hx, hb, hml, hown, hts⟩ (c_D_value l dC dI ad cs _ N σ a1 a2 hq6) (cwV 2 hts (goodV k_337 k_322 k_323 k_2 k_324) rfl rfl rfl ⟨rfl, by decide, by decide, by decide +kernel⟩ ⟨Nat.le_of_ble_eq_true rfl, Nat.le_of_ble_eq_true rfl⟩) ⟨blindX, va_recv hK hP rfl (g_D), payX hP hK hD hN⟩ rfl rfl hl.1 rfl (lv_room (Nat.le_of_ble_eq_true rfl)) d_O_field_6 ⟨Nat.zero_le _, Nat.zero_le _⟩) hS (fun q h0 h => absurd h0 (Nat.not_lt.mpr h)) (fun q h => hA q (Nat.le_trans hS.1 h)) (fun r6 u t H locs ht hvm hpost hB hz1 hk1 hS => ?_)
  obtain ⟨e1, e2⟩ := hpost
  subst e1
  subst e2
  have hP := keepP hP hk1
  have e9 := Prod.mk.inj (Option.some.inj hM)
  exact W.iret (v := r6) hx hb hr (fun t ht hW => ⟨⟨r6, (), rfl, e9, trivial⟩, hS.F ht⟩) hS.2.2 d_O_field_9

theorem d_M_card_0 : decode b_M_card 0 = .ok (.aload_n 0, 1) := by decide +kernel
theorem d_M_card_1 : decode b_M_card 1 = .ok (.aload_n 0, 1) := by decide +kernel
theorem d_M_card_2 : decode b_M_card 2 = .ok (.getfield 73, 3) := by decide +kernel
theorem d_M_card_5 : decode b_M_card 5 = .ok (.ifCond .gt 13, 3) := by decide +kernel
theorem d_M_card_8 : decode b_M_card 8 = .ok (.aload_n 0, 1) := by decide +kernel
theorem d_M_card_9 : decode b_M_card 9 = .ok (.getfield 76, 3) := by decide +kernel
theorem d_M_card_12 : decode b_M_card 12 = .ok (.sipush 150, 3) := by decide +kernel
theorem d_M_card_15 : decode b_M_card 15 = .ok (.if_icmp .ne 7, 3) := by decide +kernel
theorem d_M_card_18 : decode b_M_card 18 = .ok (.iconst 1, 1) := by decide +kernel
theorem d_M_card_19 : decode b_M_card 19 = .ok (.goto 4, 3) := by decide +kernel
theorem d_M_card_22 : decode b_M_card 22 = .ok (.iconst 0, 1) := by decide +kernel
theorem d_M_card_23 : decode b_M_card 23 = .ok (.putfield 70, 3) := by decide +kernel
theorem d_M_card_26 : decode b_M_card 26 = .ok (.aload_n 0, 1) := by decide +kernel
theorem d_M_card_27 : decode b_M_card 27 = .ok (.getfield 70, 3) := by decide +kernel
theorem d_M_card_30 : decode b_M_card 30 = .ok (.ifCond .le 5, 3) := by decide +kernel
theorem d_M_card_33 : decode b_M_card 33 = .ok (.iconst 0, 1) := by decide +kernel
theorem d_M_card_34 : decode b_M_card 34 = .ok (.ireturn, 1) := by decide +kernel
theorem d_M_card_35 : decode b_M_card 35 = .ok (.aload_n 0, 1) := by decide +kernel
theorem d_M_card_36 : decode b_M_card 36 = .ok (.getfield 7, 3) := by decide +kernel
theorem d_M_card_39 : decode b_M_card 39 = .ok (.iconst 2, 1) := by decide +kernel
theorem d_M_card_40 : decode b_M_card 40 = .ok (.aload_n 0, 1) := by decide +kernel
theorem d_M_card_41 : decode b_M_card 41 = .ok (.getfield 76, 3) := by decide +kernel
theorem d_M_card_44 : decode b_M_card 44 = .ok (.imul, 1) := by decide +kernel
theorem d_M_card_45 : decode b_M_card 45 = .ok (.iload_n 1, 1) := by decide +kernel
theorem d_M_card_46 : decode b_M_card 46 = .ok (.iastore, 1) := by decide +kernel
theorem d_M_card_47 : decode b_M_card 47 = .ok (.aload_n 0, 1) := by decide +kernel
theorem d_M_card_48 : decode b_M_card 48 = .ok (.getfield 7, 3) := by decide +kernel
theorem d_M_card_51 : decode b_M_card 51 = .ok (.iconst 2, 1) := by decide +kernel
theorem d_M_card_52 : decode b_M_card 52 = .ok (.aload_n 0, 1) := by decide +kernel
theorem d_M_card_53 : decode b_M_card 53 = .ok (.getfield 76, 3) := by decide +kernel
theorem d_M_card_56 : decode b_M_card 56 = .ok (.imul, 1) := by decide +kernel
theorem d_M_card_57 : decode b_M_card 57 = .ok (.iconst 1, 1) := by decide +kernel
theorem d_M_card_58 : decode b_M_card 58 = .ok (.iadd, 1) := by decide +kernel
theorem d_M_card_59 : decode b_M_card 59 = .ok (.iload_n 2, 1) := by decide +kernel
theorem d_M_card_60 : decode b_M_card 60 = .ok (.iastore, 1) := by decide +kernel
theorem d_M_card_61 : decode b_M_card 61 = .ok (.aload_n 0, 1) := by decide +kernel
theorem d_M_card_62 : decode b_M_card 62 = .ok (.aload_n 0, 1) := by decide +kernel
theorem d_M_card_63 : decode b_M_card 63 = .ok (.getfield 76, 3) := by decide +kernel
theorem d_M_card_66 : decode b_M_card 66 = .ok (.iconst 1, 1) := by decide +kernel
theorem d_M_card_67 : decode b_M_card 67 = .ok (.iadd, 1) := by decide +kernel
theorem d_M_card_68 : decode b_M_card 68 = .ok (.putfield 76, 3) := by decide +kernel
theorem d_M_card_71 : decode b_M_card 71 = .ok (.aload_n 0, 1) := by decide +kernel
theorem d_M_card_72 : decode b_M_card 72 = .ok (.getfield 76, 3) := by decide +kernel
theorem d_M_card_75 : decode b_M_card 75 = .ok (.iconst 1, 1) := by decide +kernel
theorem d_M_card_76 : decode b_M_card 76 = .ok (.isub, 1) := by decide +kernel
theorem d_M_card_77 : decode b_M_card 77 = .ok (.ireturn, 1) := by decide +kernel
def m_M_card_23 (N : Nat) (σ : SX) (v1 : Int32) (v2 : Int32) (s0 : Int32) : Option (Int32 × SX) :=
    (if (((w1 σ 0 0 s0) 0).1 0) ≤ 0 then (if inb (2 * (((w1 σ 0 0 s0) 0).1 2)) 300 = true then (if inb ((2 * (((w3 (w1 σ 0 0 s0) 0 1 (2 * (((w1 σ 0 0 s0) 0).1 2)) v1) 0).1 2)) + 1) 300 = true then some (((((w1 (w3 (w3 (w1 σ 0 0 s0) 0 1 (2 * (((w1 σ 0 0 s0) 0).1 2)) v1) 0 1 ((2 * (((w3 (w1 σ 0 0 s0) 0 1 (2 * (((w1 σ 0 0 s0) 0).1 2)) v1) 0).1 2)) + 1) v2) 0 2 ((((w3 (w3 (w1 σ 0 0 s0) 0 1 (2 * (((w1 σ 0 0 s0) 0).1 2)) v1) 0 1 ((2 * (((w3 (w1 σ 0 0 s0) 0 1 (2 * (((w1 σ 0 0 s0) 0).1 2)) v1) 0).1 2)) + 1) v2) 0).1 2) + 1)) 0).1 2) - 1), (w1 (w3 (w3 (w1 σ 0 0 s0) 0 1 (2 * (((w1 σ 0 0 s0) 0).1 2)) v1) 0 1 ((2 * (((w3 (w1 σ 0 0 s0) 0 1 (2 * (((w1 σ 0 0 s0) 0).1 2)) v1) 0).1 2)) + 1) v2) 0 2 ((((w3 (w3 (w1 σ 0 0 s0) 0 1 (2 * (((w1 σ 0 0 s0) 0).1 2)) v1) 0 1 ((2 * (((w3 (w1 σ 0 0 s0) 0 1 (2 * (((w1 σ 0 0 s0) 0).1 2)) v1) 0).1 2)) + 1) v2) 0).1 2) + 1))) else none) else none) else some (0, (w1 σ 0 0 s0)))

def m_M_card_18 (N : Nat) (σ : SX) (v1 : Int32) (v2 : Int32) : Option (Int32 × SX) :=
    m_M_card_23 N σ v1 v2 1

def m_M_card (N : Nat) (σ : SX) (a1 : Int32) (a2 : Int32) : Option (Int32 × SX) :=
  (if 0 < ((σ 0).1 4) then m_M_card_18 N σ a1 a2 else (if ((σ 0).1 2) = 150 then m_M_card_18 N σ a1 a2 else m_M_card_23 N σ a1 a2 0))

set_option maxHeartbeats 4000000 in
set_option maxRecDepth 100000 in
theorem c_M_card (l : Launch) (dC : Nat → ClassId) (dI : Nat → Nat → Nat) (ad : Nat → Nat → Nat) (cs : Nat → ClassId) (sz N : Nat) (σ : SX) (a1 : Int32) (a2 : Int32) {r0 : Int32} {σ0 : SX} (hM : m_M_card N σ a1 a2 = some (r0, σ0)) : Met l y_M_card (wd y_M_card b_M_card 3 (some .int)) ({ frames := 0, cells := 0, slots := 0, locals := 0 }) (va_Pc [.ref (ad 0 0), .int a1, .int a2] (preM dC dI ad cs sz σ)) (va_Qi (fun (r : Int32) (u : SX) => r = r0 ∧ u = σ0) (atM dC dI ad cs (va_A (wM ad cs σ) sz)) (va_A (wM ad cs σ) sz)) 0 0 (va_A (wM ad cs σ) sz) := by
  refine Met.ofW (cc := b_M_card) (maxL := 3) (ret := (some .int)) (by decide) rfl ?_
  intro p e s m args below meth c s₁ B hml hv
  obtain ⟨rfl, hsz, hP, hK, hD0, hN⟩ := hv
  have hx := B.exec
  have hb := B.bytes
  have hr := B.returns
  have hts := atoms_spec (ws := (wd y_M_card b_M_card 3 (some .int))) B.pre
  have htb : ∀ w ∈ tb, w.before _ s = true := fun w h => hts w (List.mem_cons_of_mem _ h)
  have hown : s.vm.findClass R_M = some m.cls := findClass_of_methodNamed B.named
  have hlocks := B.notSynchronized
  subst hsz
  have hD := hD0.self (sz := s.heap.size)
  generalize hAe : va_A (wM ad cs σ) s.heap.size = A at hD ⊢
  have hA : ∀ q : Nat, s.heap.size ≤ q → A q := fun q h => by rw [← hAe]; exact Or.inr h
  have hS : va_S A s.heap s.heap [] := va_S.rf
  have hP : va_P (dC, dI) classes (wM ad cs σ) s.heap := hP
  have hl := lv_entry ([.ref (ad 0 0), .int a1, .int a2]) (n := 3) (Nat.le_of_ble_eq_true rfl)
  rw [lg_entry_eq]
  generalize (lg_sl ([.ref (ad 0 0), .int a1, .int a2]) ++ List.replicate (3 - (lg_sl ([.ref (ad 0 0), .int a1, .int a2])).length) Slot.unset).toArray = ls at hl ⊢
  have hl : lv_has ls 3 [(0, .ref (ad 0 0)), (1, .int a1), (2, .int a2)] := hl
  rw [m_M_card] at hM
  refine W_cut (pc := 23) (fun H locs ls st => ∃ (σ : SX) (v1 : Int32) (v2 : Int32) (s0 : Int32), st = [.int s0, .ref (ad 0 0)] ∧ m_M_card_23 N σ v1 v2 s0 = some (r0, σ0) ∧ lv_has ls 3 [(0, .ref (ad 0 0)), (1, .int v1), (2, .int v2)] ∧ va_P (dC, dI) classes (wM ad cs σ) H ∧ va_D A (wM ad cs σ) ∧ va_S A s.heap H locs) ?_ ?_
  · intro H locs ls st hI
    obtain ⟨σ, v1, v2, s0, rfl, hM, hl, hP, hD, hS⟩ := hI
    rw [m_M_card_23] at hM
    refine va_put (D := (dC, dI)) (ci := 7) (v := .int s0) (ty := .int) (C := R_M) (T := F_M) (N := 33) hx hb htb in_M ft_M ft_M_ok n_M hown hK hP hD hS 0 (g_M) rfl 0 (by decide) (htb _ k_619) (fun _ h9 => h9) rfl (by decide +kernel) rfl rfl (Nat.le_of_ble_eq_true rfl) d_M_card_23 (fun H locs hP hD hS => ?_)
    have hP := P_eq (s_M_0) hP
    have hD := D_eq (s_M_0) hD
    refine lv_aload_n hx hb d_M_card_26 rfl (lv_at hl 0 rfl) ?_
    refine va_get (D := (dC, dI)) (ci := 7) (v := .int (((w1 σ 0 0 s0) 0).1 0)) (C := R_M) (T := F_M) (N := 33) hx hb htb in_M hown hK hP 0 (g_M) rfl 0 (by decide) (htb _ k_619) (fun _ h9 => h9) rfl d_M_card_27 ?_
    refine lv_if_le (tgt := 35) hx hb d_M_card_30 (by decide) (fun h30 => ?_) (fun h30 => ?_)
    · rw [if_pos h30] at hM
      refine lv_aload_n hx hb d_M_card_35 rfl (lv_at hl 0 rfl) ?_
      refine va_get (D := (dC, dI)) (ci := 7) (v := .ref (ad 0 1)) (C := R_M) (T := F_M) (N := 33) hx hb htb in_M hown hK hP 0 (g_M) rfl 3 (by decide) (htb _ k_622) (fun _ h9 => h9) rfl d_M_card_36 ?_
      refine lv_iconst (v := 2) hx hb d_M_card_39 (by decide) ?_
      refine lv_aload_n hx hb d_M_card_40 rfl (lv_at hl 0 rfl) ?_
      refine va_get (D := (dC, dI)) (ci := 7) (v := .int (((w1 σ 0 0 s0) 0).1 2)) (C := R_M) (T := F_M) (N := 33) hx hb htb in_M hown hK hP 0 (g_M) rfl 2 (by decide) (htb _ k_621) (fun _ h9 => h9) rfl d_M_card_41 ?_
      refine lv_imul hx hb d_M_card_44 ?_
      refine lv_iload_n hx hb d_M_card_45 rfl (lv_at hl 1 rfl) ?_
      have hg46 := gd_c hM
      have hM := gd_v hM
      refine va_iast (i := (2 * (((w1 σ 0 0 s0) 0).1 2))) (x := v1) hx hb hK hP hD hS 1 0 (g_M_a1) rfl (inb_in hg46) d_M_card_46 (fun H locs hP hD hS => ?_)
      have hP := P_eq (t_M_1) hP
      have hD := D_eq (t_M_1) hD
      refine lv_aload_n hx hb d_M_card_47 rfl (lv_at hl 0 rfl) ?_
      refine va_get (D := (dC, dI)) (ci := 7) (v := .ref (ad 0 1)) (C := R_M) (T := F_M) (N := 33) hx hb htb in_M hown hK hP 0 (g_M) rfl 3 (by decide) (htb _ k_622) (fun _ h9 => h9) rfl d_M_card_48 ?_
      refine lv_iconst (v := 2) hx hb d_M_card_51 (by decide) ?_
      refine lv_aload_n hx hb d_M_card_52 rfl (lv_at hl 0 rfl) ?_
      refine va_get (D := (dC, dI)) (ci := 7) (v := .int (((w3 (w1 σ 0 0 s0) 0 1 (2 * (((w1 σ 0 0 s0) 0).1 2)) v1) 0).1 2)) (C := R_M) (T := F_M) (N := 33) hx hb htb in_M hown hK hP 0 (g_M) rfl 2 (by decide) (htb _ k_621) (fun _ h9 => h9) rfl d_M_card_53 ?_
      refine lv_imul hx hb d_M_card_56 ?_
      refine lv_iconst (v := 1) hx hb d_M_card_57 (by decide) ?_
      refine lv_iadd hx hb d_M_card_58 ?_
      refine lv_iload_n hx hb d_M_card_59 rfl (lv_at hl 2 rfl) ?_
      have hg60 := gd_c hM
      have hM := gd_v hM
      refine va_iast (i := ((2 * (((w3 (w1 σ 0 0 s0) 0 1 (2 * (((w1 σ 0 0 s0) 0).1 2)) v1) 0).1 2)) + 1)) (x := v2) hx hb hK hP hD hS 1 0 (g_M_a1) rfl (inb_in hg60) d_M_card_60 (fun H locs hP hD hS => ?_)
      have hP := P_eq (t_M_1) hP
      have hD := D_eq (t_M_1) hD
      refine lv_aload_n hx hb d_M_card_61 rfl (lv_at hl 0 rfl) ?_
      refine lv_aload_n hx hb d_M_card_62 rfl (lv_at hl 0 rfl) ?_
      refine va_get (D := (dC, dI)) (ci := 7) (v := .int (((w3 (w3 (w1 σ 0 0 s0) 0 1 (2 * (((w1 σ 0 0 s0) 0).1 2)) v1) 0 1 ((2 * (((w3 (w1 σ 0 0 s0) 0 1 (2 * (((w1 σ 0 0 s0) 0).1 2)) v1) 0).1 2)) + 1) v2) 0).1 2)) (C := R_M) (T := F_M) (N := 33) hx hb htb in_M hown hK hP 0 (g_M) rfl 2 (by decide) (htb _ k_621) (fun _ h9 => h9) rfl d_M_card_63 ?_
      refine lv_iconst (v := 1) hx hb d_M_card_66 (by decide) ?_
      refine lv_iadd hx hb d_M_card_67 ?_
      refine va_put (D := (dC, dI)) (ci := 7) (v := .int ((((w3 (w3 (w1 σ 0 0 s0) 0 1 (2 * (((w1 σ 0 0 s0) 0).1 2)) v1) 0 1 ((2 * (((w3 (w1 σ 0 0 s0) 0 1 (2 * (((w1 σ 0 0 s0) 0).1 2)) v1) 0).1 2)) + 1) v2) 0).1 2) + 1)) (ty := .int) (C := R_M) (T := F_M) (N := 33) hx hb htb in_M ft_M ft_M_ok n_M hown hK hP hD hS 0 (g_M) rfl 2 (by decide) (htb _ k_621) (fun _ h9 => h9) rfl (by decide +kernel) rfl rfl (Nat.le_of_ble_eq_true rfl) d_M_card_68 (fun H locs hP hD hS => ?_)
      have hP := P_eq (s_M_2) hP
      have hD := D_eq (s_M_2) hD
      refine lv_aload_n hx hb d_M_card_71 rfl (lv_at hl 0 rfl) ?_
      refine va_get (D := (dC, dI)) (ci := 7) (v := .int (((w1 (w3 (w3 (w1 σ 0 0 s0) 0 1 (2 * (((w1 σ 0 0 s0) 0).1 2)) v1) 0 1 ((2 * (((w3 (w1 σ 0 0 s0) 0 1 (2 * (((w1 σ 0 0 s0) 0).1 2)) v1) 0).1 2)) + 1) v2) 0 2 ((((w3 (w3 (w1 σ 0 0 s0) 0 1 (2 * (((w1 σ 0 0 s0) 0).1 2)) v1) 0 1 ((2 * (((w3 (w1 σ 0 0 s0) 0 1 (2 * (((w1 σ 0 0 s0) 0).1 2)) v1) 0).1 2)) + 1) v2) 0).1 2) + 1)) 0).1 2)) (C := R_M) (T := F_M) (N := 33) hx hb htb in_M hown hK hP 0 (g_M) rfl 2 (by decide) (htb _ k_621) (fun _ h9 => h9) rfl d_M_card_72 ?_
      refine lv_iconst (v := 1) hx hb d_M_card_75 (by decide) ?_
      refine lv_isub hx hb d_M_card_76 ?_
      have e9 := Prod.mk.inj (Option.some.inj hM)
      exact W.iret (v := ((((w1 (w3 (w3 (w1 σ 0 0 s0) 0 1 (2 * (((w1 σ 0 0 s0) 0).1 2)) v1) 0 1 ((2 * (((w3 (w1 σ 0 0 s0) 0 1 (2 * (((w1 σ 0 0 s0) 0).1 2)) v1) 0).1 2)) + 1) v2) 0 2 ((((w3 (w3 (w1 σ 0 0 s0) 0 1 (2 * (((w1 σ 0 0 s0) 0).1 2)) v1) 0 1 ((2 * (((w3 (w1 σ 0 0 s0) 0 1 (2 * (((w1 σ 0 0 s0) 0).1 2)) v1) 0).1 2)) + 1) v2) 0).1 2) + 1)) 0).1 2) - 1)) hx hb hr (fun t ht hW => ⟨⟨((((w1 (w3 (w3 (w1 σ 0 0 s0) 0 1 (2 * (((w1 σ 0 0 s0) 0).1 2)) v1) 0 1 ((2 * (((w3 (w1 σ 0 0 s0) 0 1 (2 * (((w1 σ 0 0 s0) 0).1 2)) v1) 0).1 2)) + 1) v2) 0 2 ((((w3 (w3 (w1 σ 0 0 s0) 0 1 (2 * (((w1 σ 0 0 s0) 0).1 2)) v1) 0 1 ((2 * (((w3 (w1 σ 0 0 s0) 0 1 (2 * (((w1 σ 0 0 s0) 0).1 2)) v1) 0).1 2)) + 1) v2) 0).1 2) + 1)) 0).1 2) - 1), (w1 (w3 (w3 (w1 σ 0 0 s0) 0 1 (2 * (((w1 σ 0 0 s0) 0).1 2)) v1) 0 1 ((2 * (((w3 (w1 σ 0 0 s0) 0 1 (2 * (((w1 σ 0 0 s0) 0).1 2)) v1) 0).1 2)) + 1) v2) 0 2 ((((w3 (w3 (w1 σ 0 0 s0) 0 1 (2 * (((w1 σ 0 0 s0) 0).1 2)) v1) 0 1 ((2 * (((w3 (w1 σ 0 0 s0) 0 1 (2 * (((w1 σ 0 0 s0) 0).1 2)) v1) 0).1 2)) + 1) v2) 0).1 2) + 1)), rfl, e9, by rw [ht]; exact hP, va_K.moved hW.alike hK, hD⟩, hS.F ht⟩) hS.2.2 d_M_card_77
    · rw [if_neg h30] at hM
      refine lv_iconst (v := 0) hx hb d_M_card_33 (by decide) ?_
      have e9 := Prod.mk.inj (Option.some.inj hM)
      exact W.iret (v := 0) hx hb hr (fun t ht hW => ⟨⟨0, (w1 σ 0 0 s0), rfl, e9, by rw [ht]; exact hP, va_K.moved hW.alike hK, hD⟩, hS.F ht⟩) hS.2.2 d_M_card_34
  intro K23
  refine W_cut (pc := 18) (fun H locs ls st => ∃ (σ : SX) (v1 : Int32) (v2 : Int32), st = [.ref (ad 0 0)] ∧ m_M_card_18 N σ v1 v2 = some (r0, σ0) ∧ lv_has ls 3 [(0, .ref (ad 0 0)), (1, .int v1), (2, .int v2)] ∧ va_P (dC, dI) classes (wM ad cs σ) H ∧ va_D A (wM ad cs σ) ∧ va_S A s.heap H locs) ?_ ?_
  · intro H locs ls st hI
    obtain ⟨σ, v1, v2, rfl, hM, hl, hP, hD, hS⟩ := hI
    rw [m_M_card_18] at hM
    refine lv_iconst (v := 1) hx hb d_M_card_18 (by decide) ?_
    refine lv_goto (tgt := 23) hx hb d_M_card_19 (by decide) ?_
    exact K23 _ _ _ _ ⟨σ, v1, v2, 1, rfl, hM, lv_sub hl [0, 1, 2] rfl, hP, hD, hS⟩
  intro K18
  refine lv_aload_n hx hb d_M_card_0 rfl (lv_at hl 0 rfl) ?_
  refine lv_aload_n hx hb d_M_card_1 rfl (lv_at hl 0 rfl) ?_
  refine va_get (D := (dC, dI)) (ci := 7) (v := .int ((σ 0).1 4)) (C := R_M) (T := F_M) (N := 33) hx hb htb in_M hown hK hP 0 (g_M) rfl 7 (by decide) (htb _ k_626) (fun _ h9 => h9) rfl d_M_card_2 ?_
  refine lv_if_gt (tgt := 18) hx hb d_M_card_5 (by decide) (fun h5 => ?_) (fun h5 => ?_)
  · rw [if_pos h5] at hM
    exact K18 _ _ _ _ ⟨σ, a1, a2, rfl, hM, lv_sub hl [0, 1, 2] rfl, hP, hD, hS⟩
  · rw [if_neg h5] at hM
    refine lv_aload_n hx hb d_M_card_8 rfl (lv_at hl 0 rfl) ?_
    refine va_get (D := (dC, dI)) (ci := 7) (v := .int ((σ 0).1 2)) (C := R_M) (T := F_M) (N := 33) hx hb htb in_M hown hK hP 0 (g_M) rfl 2 (by decide) (htb _ k_621) (fun _ h9 => h9) rfl d_M_card_9 ?_
    refine lv_sipush (v := 150) hx hb d_M_card_12 (by decide) ?_
    refine lv_icmp_ne (tgt := 22) hx hb d_M_card_15 (by decide) (fun h15 => ?_) (fun h15 => ?_)
    · rw [if_neg h15] at hM
      refine lv_iconst (v := 0) hx hb d_M_card_22 (by decide) ?_
      exact K23 _ _ _ _ ⟨σ, a1, a2, 0, rfl, hM, lv_sub hl [0, 1, 2] rfl, hP, hD, hS⟩
    · rw [if_pos h15] at hM
      exact K18 _ _ _ _ ⟨σ, a1, a2, rfl, hM, lv_sub hl [0, 1, 2] rfl, hP, hD, hS⟩

theorem d_M_part_0 : decode b_M_part 0 = .ok (.aload_n 0, 1) := by decide +kernel
theorem d_M_part_1 : decode b_M_part 1 = .ok (.iload_n 1, 1) := by decide +kernel
theorem d_M_part_2 : decode b_M_part 2 = .ok (.ifCond .lt 17, 3) := by decide +kernel
theorem d_M_part_5 : decode b_M_part 5 = .ok (.iload_n 1, 1) := by decide +kernel
theorem d_M_part_6 : decode b_M_part 6 = .ok (.iconst 1, 1) := by decide +kernel
theorem d_M_part_7 : decode b_M_part 7 = .ok (.if_icmp .gt 12, 3) := by decide +kernel
theorem d_M_part_10 : decode b_M_part 10 = .ok (.iload_n 2, 1) := by decide +kernel
theorem d_M_part_11 : decode b_M_part 11 = .ok (.ifCond .lt 8, 3) := by decide +kernel
theorem d_M_part_14 : decode b_M_part 14 = .ok (.iload_n 2, 1) := by decide +kernel
theorem d_M_part_15 : decode b_M_part 15 = .ok (.iconst 3, 1) := by decide +kernel
theorem d_M_part_16 : decode b_M_part 16 = .ok (.if_icmp .le 7, 3) := by decide +kernel
theorem d_M_part_19 : decode b_M_part 19 = .ok (.iconst 1, 1) := by decide +kernel
theorem d_M_part_20 : decode b_M_part 20 = .ok (.goto 23, 3) := by decide +kernel
theorem d_M_part_23 : decode b_M_part 23 = .ok (.aload_n 0, 1) := by decide +kernel
theorem d_M_part_24 : decode b_M_part 24 = .ok (.getfield 73, 3) := by decide +kernel
theorem d_M_part_27 : decode b_M_part 27 = .ok (.ifCond .gt 11, 3) := by decide +kernel
theorem d_M_part_30 : decode b_M_part 30 = .ok (.aload_n 0, 1) := by decide +kernel
theorem d_M_part_31 : decode b_M_part 31 = .ok (.getfield 79, 3) := by decide +kernel
theorem d_M_part_34 : decode b_M_part 34 = .ok (.iconst 3, 1) := by decide +kernel
theorem d_M_part_35 : decode b_M_part 35 = .ok (.if_icmp .ne 7, 3) := by decide +kernel
theorem d_M_part_38 : decode b_M_part 38 = .ok (.iconst 2, 1) := by decide +kernel
theorem d_M_part_39 : decode b_M_part 39 = .ok (.goto 4, 3) := by decide +kernel
theorem d_M_part_42 : decode b_M_part 42 = .ok (.iconst 0, 1) := by decide +kernel
theorem d_M_part_43 : decode b_M_part 43 = .ok (.putfield 70, 3) := by decide +kernel
theorem d_M_part_46 : decode b_M_part 46 = .ok (.aload_n 0, 1) := by decide +kernel
theorem d_M_part_47 : decode b_M_part 47 = .ok (.getfield 70, 3) := by decide +kernel
theorem d_M_part_50 : decode b_M_part 50 = .ok (.ifCond .le 5, 3) := by decide +kernel
theorem d_M_part_53 : decode b_M_part 53 = .ok (.iconst 0, 1) := by decide +kernel
theorem d_M_part_54 : decode b_M_part 54 = .ok (.ireturn, 1) := by decide +kernel
theorem d_M_part_55 : decode b_M_part 55 = .ok (.aload_n 0, 1) := by decide +kernel
theorem d_M_part_56 : decode b_M_part 56 = .ok (.getfield 13, 3) := by decide +kernel
theorem d_M_part_59 : decode b_M_part 59 = .ok (.aload_n 0, 1) := by decide +kernel
theorem d_M_part_60 : decode b_M_part 60 = .ok (.getfield 79, 3) := by decide +kernel
theorem d_M_part_63 : decode b_M_part 63 = .ok (.iload_n 1, 1) := by decide +kernel
theorem d_M_part_64 : decode b_M_part 64 = .ok (.iastore, 1) := by decide +kernel
theorem d_M_part_65 : decode b_M_part 65 = .ok (.aload_n 0, 1) := by decide +kernel
theorem d_M_part_66 : decode b_M_part 66 = .ok (.getfield 16, 3) := by decide +kernel
theorem d_M_part_69 : decode b_M_part 69 = .ok (.aload_n 0, 1) := by decide +kernel
theorem d_M_part_70 : decode b_M_part 70 = .ok (.getfield 79, 3) := by decide +kernel
theorem d_M_part_73 : decode b_M_part 73 = .ok (.iload_n 2, 1) := by decide +kernel
theorem d_M_part_74 : decode b_M_part 74 = .ok (.iastore, 1) := by decide +kernel
theorem d_M_part_75 : decode b_M_part 75 = .ok (.aload_n 0, 1) := by decide +kernel
theorem d_M_part_76 : decode b_M_part 76 = .ok (.aload_n 0, 1) := by decide +kernel
theorem d_M_part_77 : decode b_M_part 77 = .ok (.getfield 79, 3) := by decide +kernel
theorem d_M_part_80 : decode b_M_part 80 = .ok (.iconst 1, 1) := by decide +kernel
theorem d_M_part_81 : decode b_M_part 81 = .ok (.iadd, 1) := by decide +kernel
theorem d_M_part_82 : decode b_M_part 82 = .ok (.putfield 79, 3) := by decide +kernel
theorem d_M_part_85 : decode b_M_part 85 = .ok (.aload_n 0, 1) := by decide +kernel
theorem d_M_part_86 : decode b_M_part 86 = .ok (.getfield 79, 3) := by decide +kernel
theorem d_M_part_89 : decode b_M_part 89 = .ok (.ireturn, 1) := by decide +kernel
def m_M_part_43 (N : Nat) (σ : SX) (v1 : Int32) (v2 : Int32) (s0 : Int32) : Option (Int32 × SX) :=
    (if (((w1 σ 0 0 s0) 0).1 0) ≤ 0 then (if inb (((w1 σ 0 0 s0) 0).1 3) 3 = true then (if inb (((w3 (w1 σ 0 0 s0) 0 2 (((w1 σ 0 0 s0) 0).1 3) v1) 0).1 3) 3 = true then some ((((w1 (w3 (w3 (w1 σ 0 0 s0) 0 2 (((w1 σ 0 0 s0) 0).1 3) v1) 0 3 (((w3 (w1 σ 0 0 s0) 0 2 (((w1 σ 0 0 s0) 0).1 3) v1) 0).1 3) v2) 0 3 ((((w3 (w3 (w1 σ 0 0 s0) 0 2 (((w1 σ 0 0 s0) 0).1 3) v1) 0 3 (((w3 (w1 σ 0 0 s0) 0 2 (((w1 σ 0 0 s0) 0).1 3) v1) 0).1 3) v2) 0).1 3) + 1)) 0).1 3), (w1 (w3 (w3 (w1 σ 0 0 s0) 0 2 (((w1 σ 0 0 s0) 0).1 3) v1) 0 3 (((w3 (w1 σ 0 0 s0) 0 2 (((w1 σ 0 0 s0) 0).1 3) v1) 0).1 3) v2) 0 3 ((((w3 (w3 (w1 σ 0 0 s0) 0 2 (((w1 σ 0 0 s0) 0).1 3) v1) 0 3 (((w3 (w1 σ 0 0 s0) 0 2 (((w1 σ 0 0 s0) 0).1 3) v1) 0).1 3) v2) 0).1 3) + 1))) else none) else none) else some (0, (w1 σ 0 0 s0)))

def m_M_part_38 (N : Nat) (σ : SX) (v1 : Int32) (v2 : Int32) : Option (Int32 × SX) :=
    m_M_part_43 N σ v1 v2 2

def m_M_part_19 (N : Nat) (σ : SX) (v1 : Int32) (v2 : Int32) : Option (Int32 × SX) :=
    m_M_part_43 N σ v1 v2 1

def m_M_part (N : Nat) (σ : SX) (a1 : Int32) (a2 : Int32) : Option (Int32 × SX) :=
  (if a1 < 0 then m_M_part_19 N σ a1 a2 else (if 1 < a1 then m_M_part_19 N σ a1 a2 else (if a2 < 0 then m_M_part_19 N σ a1 a2 else (if a2 ≤ 3 then (if 0 < ((σ 0).1 4) then m_M_part_38 N σ a1 a2 else (if ((σ 0).1 3) = 3 then m_M_part_38 N σ a1 a2 else m_M_part_43 N σ a1 a2 0)) else m_M_part_19 N σ a1 a2))))

set_option maxHeartbeats 4000000 in
set_option maxRecDepth 100000 in
theorem c_M_part (l : Launch) (dC : Nat → ClassId) (dI : Nat → Nat → Nat) (ad : Nat → Nat → Nat) (cs : Nat → ClassId) (sz N : Nat) (σ : SX) (a1 : Int32) (a2 : Int32) {r0 : Int32} {σ0 : SX} (hM : m_M_part N σ a1 a2 = some (r0, σ0)) : Met l y_M_part (wd y_M_part b_M_part 3 (some .int)) ({ frames := 0, cells := 0, slots := 0, locals := 0 }) (va_Pc [.ref (ad 0 0), .int a1, .int a2] (preM dC dI ad cs sz σ)) (va_Qi (fun (r : Int32) (u : SX) => r = r0 ∧ u = σ0) (atM dC dI ad cs (va_A (wM ad cs σ) sz)) (va_A (wM ad cs σ) sz)) 0 0 (va_A (wM ad cs σ) sz) := by
  refine Met.ofW (cc := b_M_part) (maxL := 3) (ret := (some .int)) (by decide) rfl ?_
  intro p e s m args below meth c s₁ B hml hv
  obtain ⟨rfl, hsz, hP, hK, hD0, hN⟩ := hv
  have hx := B.exec
  have hb := B.bytes
  have hr := B.returns
  have hts := atoms_spec (ws := (wd y_M_part b_M_part 3 (some .int))) B.pre
  have htb : ∀ w ∈ tb, w.before _ s = true := fun w h => hts w (List.mem_cons_of_mem _ h)
  have hown : s.vm.findClass R_M = some m.cls := findClass_of_methodNamed B.named
  have hlocks := B.notSynchronized
  subst hsz
  have hD := hD0.self (sz := s.heap.size)
  generalize hAe : va_A (wM ad cs σ) s.heap.size = A at hD ⊢
  have hA : ∀ q : Nat, s.heap.size ≤ q → A q := fun q h => by rw [← hAe]; exact Or.inr h
  have hS : va_S A s.heap s.heap [] := va_S.rf
  have hP : va_P (dC, dI) classes (wM ad cs σ) s.heap := hP
  have hl := lv_entry ([.ref (ad 0 0), .int a1, .int a2]) (n := 3) (Nat.le_of_ble_eq_true rfl)
  rw [lg_entry_eq]
  generalize (lg_sl ([.ref (ad 0 0), .int a1, .int a2]) ++ List.replicate (3 - (lg_sl ([.ref (ad 0 0), .int a1, .int a2])).length) Slot.unset).toArray = ls at hl ⊢
  have hl : lv_has ls 3 [(0, .ref (ad 0 0)), (1, .int a1), (2, .int a2)] := hl
  rw [m_M_part] at hM
  refine W_cut (pc := 43) (fun H locs ls st => ∃ (σ : SX) (v1 : Int32) (v2 : Int32) (s0 : Int32), st = [.int s0, .ref (ad 0 0)] ∧ m_M_part_43 N σ v1 v2 s0 = some (r0, σ0) ∧ lv_has ls 3 [(0, .ref (ad 0 0)), (1, .int v1), (2, .int v2)] ∧ va_P (dC, dI) classes (wM ad cs σ) H ∧ va_D A (wM ad cs σ) ∧ va_S A s.heap H locs) ?_ ?_
  · intro H locs ls st hI
    obtain ⟨σ, v1, v2, s0, rfl, hM, hl, hP, hD, hS⟩ := hI
    rw [m_M_part_43] at hM
    refine va_put (D := (dC, dI)) (ci := 7) (v := .int s0) (ty := .int) (C := R_M) (T := F_M) (N := 33) hx hb htb in_M ft_M ft_M_ok n_M hown hK hP hD hS 0 (g_M) rfl 0 (by decide) (htb _ k_619) (fun _ h9 => h9) rfl (by decide +kernel) rfl rfl (Nat.le_of_ble_eq_true rfl) d_M_part_43 (fun H locs hP hD hS => ?_)
    have hP := P_eq (s_M_0) hP
    have hD := D_eq (s_M_0) hD
    refine lv_aload_n hx hb d_M_part_46 rfl (lv_at hl 0 rfl) ?_
    refine va_get (D := (dC, dI)) (ci := 7) (v := .int (((w1 σ 0 0 s0) 0).1 0)) (C := R_M) (T := F_M) (N := 33) hx hb htb in_M hown hK hP 0 (g_M) rfl 0 (by decide) (htb _ k_619) (fun _ h9 => h9) rfl d_M_part_47 ?_
    refine lv_if_le (tgt := 55) hx hb d_M_part_50 (by decide) (fun h50 => ?_) (fun h50 => ?_)
    · rw [if_pos h50] at hM
      refine lv_aload_n hx hb d_M_part_55 rfl (lv_at hl 0 rfl) ?_
      refine va_get (D := (dC, dI)) (ci := 7) (v := .ref (ad 0 2)) (C := R_M) (T := F_M) (N := 33) hx hb htb in_M hown hK hP 0 (g_M) rfl 5 (by decide) (htb _ k_624) (fun _ h9 => h9) rfl d_M_part_56 ?_
      refine lv_aload_n hx hb d_M_part_59 rfl (lv_at hl 0 rfl) ?_
      refine va_get (D := (dC, dI)) (ci := 7) (v := .int (((w1 σ 0 0 s0) 0).1 3)) (C := R_M) (T := F_M) (N := 33) hx hb htb in_M hown hK hP 0 (g_M) rfl 4 (by decide) (htb _ k_623) (fun _ h9 => h9) rfl d_M_part_60 ?_
      refine lv_iload_n hx hb d_M_part_63 rfl (lv_at hl 1 rfl) ?_
      have hg64 := gd_c hM
      have hM := gd_v hM
      refine va_iast (i := (((w1 σ 0 0 s0) 0).1 3)) (x := v1) hx hb hK hP hD hS 2 0 (g_M_a2) rfl (inb_in hg64) d_M_part_64 (fun H locs hP hD hS => ?_)
      have hP := P_eq (t_M_2) hP
      have hD := D_eq (t_M_2) hD
      refine lv_aload_n hx hb d_M_part_65 rfl (lv_at hl 0 rfl) ?_
      refine va_get (D := (dC, dI)) (ci := 7) (v := .ref (ad 0 3)) (C := R_M) (T := F_M) (N := 33) hx hb htb in_M hown hK hP 0 (g_M) rfl 6 (by decide) (htb _ k_625) (fun _ h9 => h9) rfl d_M_part_66 ?_
      refine lv_aload_n hx hb d_M_part_69 rfl (lv_at hl 0 rfl) ?_
      refine va_get (D := (dC, dI)) (ci := 7) (v := .int (((w3 (w1 σ 0 0 s0) 0 2 (((w1 σ 0 0 s0) 0).1 3) v1) 0).1 3)) (C := R_M) (T := F_M) (N := 33) hx hb htb in_M hown hK hP 0 (g_M) rfl 4 (by decide) (htb _ k_623) (fun _ h9 => h9) rfl d_M_part_70 ?_
      refine lv_iload_n hx hb d_M_part_73 rfl (lv_at hl 2 rfl) ?_
      have hg74 := gd_c hM
      have hM := gd_v hM
      refine va_iast (i := (((w3 (w1 σ 0 0 s0) 0 2 (((w1 σ 0 0 s0) 0).1 3) v1) 0).1 3)) (x := v2) hx hb hK hP hD hS 3 0 (g_M_a3) rfl (inb_in hg74) d_M_part_74 (fun H locs hP hD hS => ?_)
      have hP := P_eq (t_M_3) hP
      have hD := D_eq (t_M_3) hD
      refine lv_aload_n hx hb d_M_part_75 rfl (lv_at hl 0 rfl) ?_
      refine lv_aload_n hx hb d_M_part_76 rfl (lv_at hl 0 rfl) ?_
      refine va_get (D := (dC, dI)) (ci := 7) (v := .int (((w3 (w3 (w1 σ 0 0 s0) 0 2 (((w1 σ 0 0 s0) 0).1 3) v1) 0 3 (((w3 (w1 σ 0 0 s0) 0 2 (((w1 σ 0 0 s0) 0).1 3) v1) 0).1 3) v2) 0).1 3)) (C := R_M) (T := F_M) (N := 33) hx hb htb in_M hown hK hP 0 (g_M) rfl 4 (by decide) (htb _ k_623) (fun _ h9 => h9) rfl d_M_part_77 ?_
      refine lv_iconst (v := 1) hx hb d_M_part_80 (by decide) ?_
      refine lv_iadd hx hb d_M_part_81 ?_
      refine va_put (D := (dC, dI)) (ci := 7) (v := .int ((((w3 (w3 (w1 σ 0 0 s0) 0 2 (((w1 σ 0 0 s0) 0).1 3) v1) 0 3 (((w3 (w1 σ 0 0 s0) 0 2 (((w1 σ 0 0 s0) 0).1 3) v1) 0).1 3) v2) 0).1 3) + 1)) (ty := .int) (C := R_M) (T := F_M) (N := 33) hx hb htb in_M ft_M ft_M_ok n_M hown hK hP hD hS 0 (g_M) rfl 4 (by decide) (htb _ k_623) (fun _ h9 => h9) rfl (by decide +kernel) rfl rfl (Nat.le_of_ble_eq_true rfl) d_M_part_82 (fun H locs hP hD hS => ?_)
      have hP := P_eq (s_M_3) hP
      have hD := D_eq (s_M_3) hD
      refine lv_aload_n hx hb d_M_part_85 rfl (lv_at hl 0 rfl) ?_
      refine va_get (D := (dC, dI)) (ci := 7) (v := .int (((w1 (w3 (w3 (w1 σ 0 0 s0) 0 2 (((w1 σ 0 0 s0) 0).1 3) v1) 0 3 (((w3 (w1 σ 0 0 s0) 0 2 (((w1 σ 0 0 s0) 0).1 3) v1) 0).1 3) v2) 0 3 ((((w3 (w3 (w1 σ 0 0 s0) 0 2 (((w1 σ 0 0 s0) 0).1 3) v1) 0 3 (((w3 (w1 σ 0 0 s0) 0 2 (((w1 σ 0 0 s0) 0).1 3) v1) 0).1 3) v2) 0).1 3) + 1)) 0).1 3)) (C := R_M) (T := F_M) (N := 33) hx hb htb in_M hown hK hP 0 (g_M) rfl 4 (by decide) (htb _ k_623) (fun _ h9 => h9) rfl d_M_part_86 ?_
      have e9 := Prod.mk.inj (Option.some.inj hM)
      exact W.iret (v := (((w1 (w3 (w3 (w1 σ 0 0 s0) 0 2 (((w1 σ 0 0 s0) 0).1 3) v1) 0 3 (((w3 (w1 σ 0 0 s0) 0 2 (((w1 σ 0 0 s0) 0).1 3) v1) 0).1 3) v2) 0 3 ((((w3 (w3 (w1 σ 0 0 s0) 0 2 (((w1 σ 0 0 s0) 0).1 3) v1) 0 3 (((w3 (w1 σ 0 0 s0) 0 2 (((w1 σ 0 0 s0) 0).1 3) v1) 0).1 3) v2) 0).1 3) + 1)) 0).1 3)) hx hb hr (fun t ht hW => ⟨⟨(((w1 (w3 (w3 (w1 σ 0 0 s0) 0 2 (((w1 σ 0 0 s0) 0).1 3) v1) 0 3 (((w3 (w1 σ 0 0 s0) 0 2 (((w1 σ 0 0 s0) 0).1 3) v1) 0).1 3) v2) 0 3 ((((w3 (w3 (w1 σ 0 0 s0) 0 2 (((w1 σ 0 0 s0) 0).1 3) v1) 0 3 (((w3 (w1 σ 0 0 s0) 0 2 (((w1 σ 0 0 s0) 0).1 3) v1) 0).1 3) v2) 0).1 3) + 1)) 0).1 3), (w1 (w3 (w3 (w1 σ 0 0 s0) 0 2 (((w1 σ 0 0 s0) 0).1 3) v1) 0 3 (((w3 (w1 σ 0 0 s0) 0 2 (((w1 σ 0 0 s0) 0).1 3) v1) 0).1 3) v2) 0 3 ((((w3 (w3 (w1 σ 0 0 s0) 0 2 (((w1 σ 0 0 s0) 0).1 3) v1) 0 3 (((w3 (w1 σ 0 0 s0) 0 2 (((w1 σ 0 0 s0) 0).1 3) v1) 0).1 3) v2) 0).1 3) + 1)), rfl, e9, by rw [ht]; exact hP, va_K.moved hW.alike hK, hD⟩, hS.F ht⟩) hS.2.2 d_M_part_89
    · rw [if_neg h50] at hM
      refine lv_iconst (v := 0) hx hb d_M_part_53 (by decide) ?_
      have e9 := Prod.mk.inj (Option.some.inj hM)
      exact W.iret (v := 0) hx hb hr (fun t ht hW => ⟨⟨0, (w1 σ 0 0 s0), rfl, e9, by rw [ht]; exact hP, va_K.moved hW.alike hK, hD⟩, hS.F ht⟩) hS.2.2 d_M_part_54
  intro K43
  refine W_cut (pc := 38) (fun H locs ls st => ∃ (σ : SX) (v1 : Int32) (v2 : Int32), st = [.ref (ad 0 0)] ∧ m_M_part_38 N σ v1 v2 = some (r0, σ0) ∧ lv_has ls 3 [(0, .ref (ad 0 0)), (1, .int v1), (2, .int v2)] ∧ va_P (dC, dI) classes (wM ad cs σ) H ∧ va_D A (wM ad cs σ) ∧ va_S A s.heap H locs) ?_ ?_
  · intro H locs ls st hI
    obtain ⟨σ, v1, v2, rfl, hM, hl, hP, hD, hS⟩ := hI
    rw [m_M_part_38] at hM
    refine lv_iconst (v := 2) hx hb d_M_part_38 (by decide) ?_
    refine lv_goto (tgt := 43) hx hb d_M_part_39 (by decide) ?_
    exact K43 _ _ _ _ ⟨σ, v1, v2, 2, rfl, hM, lv_sub hl [0, 1, 2] rfl, hP, hD, hS⟩
  intro K38
  refine W_cut (pc := 19) (fun H locs ls st => ∃ (σ : SX) (v1 : Int32) (v2 : Int32), st = [.ref (ad 0 0)] ∧ m_M_part_19 N σ v1 v2 = some (r0, σ0) ∧ lv_has ls 3 [(0, .ref (ad 0 0)), (1, .int v1), (2, .int v2)] ∧ va_P (dC, dI) classes (wM ad cs σ) H ∧ va_D A (wM ad cs σ) ∧ va_S A s.heap H locs) ?_ ?_
  · intro H locs ls st hI
    obtain ⟨σ, v1, v2, rfl, hM, hl, hP, hD, hS⟩ := hI
    rw [m_M_part_19] at hM
    refine lv_iconst (v := 1) hx hb d_M_part_19 (by decide) ?_
    refine lv_goto (tgt := 43) hx hb d_M_part_20 (by decide) ?_
    exact K43 _ _ _ _ ⟨σ, v1, v2, 1, rfl, hM, lv_sub hl [0, 1, 2] rfl, hP, hD, hS⟩
  intro K19
  refine lv_aload_n hx hb d_M_part_0 rfl (lv_at hl 0 rfl) ?_
  refine lv_iload_n hx hb d_M_part_1 rfl (lv_at hl 1 rfl) ?_
  refine lv_if_lt (tgt := 19) hx hb d_M_part_2 (by decide) (fun h2 => ?_) (fun h2 => ?_)
  · rw [if_pos h2] at hM
    exact K19 _ _ _ _ ⟨σ, a1, a2, rfl, hM, lv_sub hl [0, 1, 2] rfl, hP, hD, hS⟩
  · rw [if_neg h2] at hM
    refine lv_iload_n hx hb d_M_part_5 rfl (lv_at hl 1 rfl) ?_
    refine lv_iconst (v := 1) hx hb d_M_part_6 (by decide) ?_
    refine lv_icmp_gt (tgt := 19) hx hb d_M_part_7 (by decide) (fun h7 => ?_) (fun h7 => ?_)
    · rw [if_pos h7] at hM
      exact K19 _ _ _ _ ⟨σ, a1, a2, rfl, hM, lv_sub hl [0, 1, 2] rfl, hP, hD, hS⟩
    · rw [if_neg h7] at hM
      refine lv_iload_n hx hb d_M_part_10 rfl (lv_at hl 2 rfl) ?_
      refine lv_if_lt (tgt := 19) hx hb d_M_part_11 (by decide) (fun h11 => ?_) (fun h11 => ?_)
      · rw [if_pos h11] at hM
        exact K19 _ _ _ _ ⟨σ, a1, a2, rfl, hM, lv_sub hl [0, 1, 2] rfl, hP, hD, hS⟩
      · rw [if_neg h11] at hM
        refine lv_iload_n hx hb d_M_part_14 rfl (lv_at hl 2 rfl) ?_
        refine lv_iconst (v := 3) hx hb d_M_part_15 (by decide) ?_
        refine lv_icmp_le (tgt := 23) hx hb d_M_part_16 (by decide) (fun h16 => ?_) (fun h16 => ?_)
        · rw [if_pos h16] at hM
          refine lv_aload_n hx hb d_M_part_23 rfl (lv_at hl 0 rfl) ?_
          refine va_get (D := (dC, dI)) (ci := 7) (v := .int ((σ 0).1 4)) (C := R_M) (T := F_M) (N := 33) hx hb htb in_M hown hK hP 0 (g_M) rfl 7 (by decide) (htb _ k_626) (fun _ h9 => h9) rfl d_M_part_24 ?_
          refine lv_if_gt (tgt := 38) hx hb d_M_part_27 (by decide) (fun h27 => ?_) (fun h27 => ?_)
          · rw [if_pos h27] at hM
            exact K38 _ _ _ _ ⟨σ, a1, a2, rfl, hM, lv_sub hl [0, 1, 2] rfl, hP, hD, hS⟩
          · rw [if_neg h27] at hM
            refine lv_aload_n hx hb d_M_part_30 rfl (lv_at hl 0 rfl) ?_
            refine va_get (D := (dC, dI)) (ci := 7) (v := .int ((σ 0).1 3)) (C := R_M) (T := F_M) (N := 33) hx hb htb in_M hown hK hP 0 (g_M) rfl 4 (by decide) (htb _ k_623) (fun _ h9 => h9) rfl d_M_part_31 ?_
            refine lv_iconst (v := 3) hx hb d_M_part_34 (by decide) ?_
            refine lv_icmp_ne (tgt := 42) hx hb d_M_part_35 (by decide) (fun h35 => ?_) (fun h35 => ?_)
            · rw [if_neg h35] at hM
              refine lv_iconst (v := 0) hx hb d_M_part_42 (by decide) ?_
              exact K43 _ _ _ _ ⟨σ, a1, a2, 0, rfl, hM, lv_sub hl [0, 1, 2] rfl, hP, hD, hS⟩
            · rw [if_pos h35] at hM
              exact K38 _ _ _ _ ⟨σ, a1, a2, rfl, hM, lv_sub hl [0, 1, 2] rfl, hP, hD, hS⟩
        · rw [if_neg h16] at hM
          exact K19 _ _ _ _ ⟨σ, a1, a2, rfl, hM, lv_sub hl [0, 1, 2] rfl, hP, hD, hS⟩

theorem d_M_standing_0 : decode b_M_standing 0 = .ok (.iload_n 1, 1) := by decide +kernel
theorem d_M_standing_1 : decode b_M_standing 1 = .ok (.ifCond .ne 6, 3) := by decide +kernel
theorem d_M_standing_4 : decode b_M_standing 4 = .ok (.iload_n 0, 1) := by decide +kernel
theorem d_M_standing_5 : decode b_M_standing 5 = .ok (.i2l, 1) := by decide +kernel
theorem d_M_standing_6 : decode b_M_standing 6 = .ok (.lreturn, 1) := by decide +kernel
theorem d_M_standing_7 : decode b_M_standing 7 = .ok (.iload_n 1, 1) := by decide +kernel
theorem d_M_standing_8 : decode b_M_standing 8 = .ok (.iconst 1, 1) := by decide +kernel
theorem d_M_standing_9 : decode b_M_standing 9 = .ok (.if_icmp .ne 7, 3) := by decide +kernel
theorem d_M_standing_12 : decode b_M_standing 12 = .ok (.iload_n 0, 1) := by decide +kernel
theorem d_M_standing_13 : decode b_M_standing 13 = .ok (.i2l, 1) := by decide +kernel
theorem d_M_standing_14 : decode b_M_standing 14 = .ok (.lneg, 1) := by decide +kernel
theorem d_M_standing_15 : decode b_M_standing 15 = .ok (.lreturn, 1) := by decide +kernel
theorem d_M_standing_16 : decode b_M_standing 16 = .ok (.iload_n 1, 1) := by decide +kernel
theorem d_M_standing_17 : decode b_M_standing 17 = .ok (.iconst 2, 1) := by decide +kernel
theorem d_M_standing_18 : decode b_M_standing 18 = .ok (.if_icmp .ne 12, 3) := by decide +kernel
theorem d_M_standing_21 : decode b_M_standing 21 = .ok (.iload_n 0, 1) := by decide +kernel
theorem d_M_standing_22 : decode b_M_standing 22 = .ok (.i2l, 1) := by decide +kernel
theorem d_M_standing_23 : decode b_M_standing 23 = .ok (.ldc2_w 82, 3) := by decide +kernel
theorem d_M_standing_26 : decode b_M_standing 26 = .ok (.land, 1) := by decide +kernel
theorem d_M_standing_27 : decode b_M_standing 27 = .ok (.goto 15, 3) := by decide +kernel
theorem d_M_standing_30 : decode b_M_standing 30 = .ok (.iload_n 0, 1) := by decide +kernel
theorem d_M_standing_31 : decode b_M_standing 31 = .ok (.ifCond .ge 9, 3) := by decide +kernel
theorem d_M_standing_34 : decode b_M_standing 34 = .ok (.iload_n 0, 1) := by decide +kernel
theorem d_M_standing_35 : decode b_M_standing 35 = .ok (.i2l, 1) := by decide +kernel
theorem d_M_standing_36 : decode b_M_standing 36 = .ok (.lneg, 1) := by decide +kernel
theorem d_M_standing_37 : decode b_M_standing 37 = .ok (.goto 5, 3) := by decide +kernel
theorem d_M_standing_40 : decode b_M_standing 40 = .ok (.iload_n 0, 1) := by decide +kernel
theorem d_M_standing_41 : decode b_M_standing 41 = .ok (.i2l, 1) := by decide +kernel
theorem d_M_standing_42 : decode b_M_standing 42 = .ok (.lreturn, 1) := by decide +kernel
def m_M_standing (a0 : Int32) (a1 : Int32) : Option Int64 :=
  (if a1 = 0 then some a0.toInt64 else (if a1 = 1 then some (-a0.toInt64) else (if a1 = 2 then some (a0.toInt64 &&& 4294967295) else (if 0 ≤ a0 then some a0.toInt64 else some (-a0.toInt64)))))

set_option maxHeartbeats 4000000 in
set_option maxRecDepth 100000 in
theorem c_M_standing (l : Launch) (sz : Nat) (a0 : Int32) (a1 : Int32) {r0 : Int64} (hM : m_M_standing a0 a1 = some r0) : Met l y_M_standing (wd y_M_standing b_M_standing 2 (some .long)) ({ frames := 0, cells := 0, slots := 0, locals := 0 }) (va_Pc [.int a0, .int a1] (fun U => U.heap.size = sz)) (va_Ql (fun (r : Int64) (_ : Unit) => r = r0) (fun _ _ => True) (fun q => sz ≤ q)) 0 0 (fun q => sz ≤ q) := by
  refine Met.ofW (cc := b_M_standing) (maxL := 2) (ret := (some .long)) (by decide) rfl ?_
  intro p e s m args below meth c s₁ B hml hv
  obtain ⟨rfl, hsz⟩ := hv
  have hx := B.exec
  have hb := B.bytes
  have hr := B.returns
  have hts := atoms_spec (ws := (wd y_M_standing b_M_standing 2 (some .long))) B.pre
  have htb : ∀ w ∈ tb, w.before _ s = true := fun w h => hts w (List.mem_cons_of_mem _ h)
  have hown : s.vm.findClass R_M = some m.cls := findClass_of_methodNamed B.named
  have hlocks := B.notSynchronized
  subst hsz
  have hS : va_S (fun q => s.heap.size ≤ q) s.heap s.heap [] := va_S.rf
  have hA : ∀ q : Nat, s.heap.size ≤ q → s.heap.size ≤ q := fun q h => h
  have hl := lv_entry ([.int a0, .int a1]) (n := 2) (Nat.le_of_ble_eq_true rfl)
  rw [lg_entry_eq]
  generalize (lg_sl ([.int a0, .int a1]) ++ List.replicate (2 - (lg_sl ([.int a0, .int a1])).length) Slot.unset).toArray = ls at hl ⊢
  have hl : lv_has ls 2 [(0, .int a0), (1, .int a1)] := hl
  rw [m_M_standing] at hM
  refine lv_iload_n hx hb d_M_standing_0 rfl (lv_at hl 1 rfl) ?_
  refine lv_if_ne (tgt := 7) hx hb d_M_standing_1 (by decide) (fun h1 => ?_) (fun h1 => ?_)
  · rw [if_neg h1] at hM
    refine lv_iload_n hx hb d_M_standing_7 rfl (lv_at hl 1 rfl) ?_
    refine lv_iconst (v := 1) hx hb d_M_standing_8 (by decide) ?_
    refine lv_icmp_ne (tgt := 16) hx hb d_M_standing_9 (by decide) (fun h9 => ?_) (fun h9 => ?_)
    · rw [if_neg h9] at hM
      refine lv_iload_n hx hb d_M_standing_16 rfl (lv_at hl 1 rfl) ?_
      refine lv_iconst (v := 2) hx hb d_M_standing_17 (by decide) ?_
      refine lv_icmp_ne (tgt := 30) hx hb d_M_standing_18 (by decide) (fun h18 => ?_) (fun h18 => ?_)
      · rw [if_neg h18] at hM
        refine lv_iload_n hx hb d_M_standing_30 rfl (lv_at hl 0 rfl) ?_
        refine lv_if_ge (tgt := 40) hx hb d_M_standing_31 (by decide) (fun h31 => ?_) (fun h31 => ?_)
        · rw [if_pos h31] at hM
          refine lv_iload_n hx hb d_M_standing_40 rfl (lv_at hl 0 rfl) ?_
          refine lv_i2l hx hb d_M_standing_41 rfl ?_
          have e9 := Option.some.inj hM
          exact W.lret (v := a0.toInt64) hx hb hr (fun t ht hW => ⟨⟨a0.toInt64, (), rfl, e9, trivial⟩, hS.F ht⟩) hS.2.2 d_M_standing_42
        · rw [if_neg h31] at hM
          refine lv_iload_n hx hb d_M_standing_34 rfl (lv_at hl 0 rfl) ?_
          refine lv_i2l hx hb d_M_standing_35 rfl ?_
          refine lv_lneg hx hb d_M_standing_36 ?_
          refine lv_goto (tgt := 42) hx hb d_M_standing_37 (by decide) ?_
          have e9 := Option.some.inj hM
          exact W.lret (v := (-a0.toInt64)) hx hb hr (fun t ht hW => ⟨⟨(-a0.toInt64), (), rfl, e9, trivial⟩, hS.F ht⟩) hS.2.2 d_M_standing_42
      · rw [if_pos h18] at hM
        refine lv_iload_n hx hb d_M_standing_21 rfl (lv_at hl 0 rfl) ?_
        refine lv_i2l hx hb d_M_standing_22 rfl ?_
        refine lv_ldc2 (own := R_M) (v := 4294967295) hx hb hown (htb _ k_742) d_M_standing_23 ?_
        refine lv_land hx hb d_M_standing_26 ?_
        refine lv_goto (tgt := 42) hx hb d_M_standing_27 (by decide) ?_
        have e9 := Option.some.inj hM
        exact W.lret (v := (a0.toInt64 &&& 4294967295)) hx hb hr (fun t ht hW => ⟨⟨(a0.toInt64 &&& 4294967295), (), rfl, e9, trivial⟩, hS.F ht⟩) hS.2.2 d_M_standing_42
    · rw [if_pos h9] at hM
      refine lv_iload_n hx hb d_M_standing_12 rfl (lv_at hl 0 rfl) ?_
      refine lv_i2l hx hb d_M_standing_13 rfl ?_
      refine lv_lneg hx hb d_M_standing_14 ?_
      have e9 := Option.some.inj hM
      exact W.lret (v := (-a0.toInt64)) hx hb hr (fun t ht hW => ⟨⟨(-a0.toInt64), (), rfl, e9, trivial⟩, hS.F ht⟩) hS.2.2 d_M_standing_15
  · rw [if_pos h1] at hM
    refine lv_iload_n hx hb d_M_standing_4 rfl (lv_at hl 0 rfl) ?_
    refine lv_i2l hx hb d_M_standing_5 rfl ?_
    have e9 := Option.some.inj hM
    exact W.lret (v := a0.toInt64) hx hb hr (fun t ht hW => ⟨⟨a0.toInt64, (), rfl, e9, trivial⟩, hS.F ht⟩) hS.2.2 d_M_standing_6

theorem d_M_comesFirst_0 : decode b_M_comesFirst 0 = .ok (.iconst 0, 1) := by decide +kernel
theorem d_M_comesFirst_1 : decode b_M_comesFirst 1 = .ok (.istore_n 3, 1) := by decide +kernel
theorem d_M_comesFirst_2 : decode b_M_comesFirst 2 = .ok (.iload_n 3, 1) := by decide +kernel
theorem d_M_comesFirst_3 : decode b_M_comesFirst 3 = .ok (.aload_n 0, 1) := by decide +kernel
theorem d_M_comesFirst_4 : decode b_M_comesFirst 4 = .ok (.getfield 79, 3) := by decide +kernel
theorem d_M_comesFirst_7 : decode b_M_comesFirst 7 = .ok (.if_icmp .ge 83, 3) := by decide +kernel
theorem d_M_comesFirst_10 : decode b_M_comesFirst 10 = .ok (.aload_n 0, 1) := by decide +kernel
theorem d_M_comesFirst_11 : decode b_M_comesFirst 11 = .ok (.getfield 7, 3) := by decide +kernel
theorem d_M_comesFirst_14 : decode b_M_comesFirst 14 = .ok (.iconst 2, 1) := by decide +kernel
theorem d_M_comesFirst_15 : decode b_M_comesFirst 15 = .ok (.iload_n 1, 1) := by decide +kernel
theorem d_M_comesFirst_16 : decode b_M_comesFirst 16 = .ok (.imul, 1) := by decide +kernel
theorem d_M_comesFirst_17 : decode b_M_comesFirst 17 = .ok (.aload_n 0, 1) := by decide +kernel
theorem d_M_comesFirst_18 : decode b_M_comesFirst 18 = .ok (.getfield 13, 3) := by decide +kernel
theorem d_M_comesFirst_21 : decode b_M_comesFirst 21 = .ok (.iload_n 3, 1) := by decide +kernel
theorem d_M_comesFirst_22 : decode b_M_comesFirst 22 = .ok (.iaload, 1) := by decide +kernel
theorem d_M_comesFirst_23 : decode b_M_comesFirst 23 = .ok (.iadd, 1) := by decide +kernel
theorem d_M_comesFirst_24 : decode b_M_comesFirst 24 = .ok (.iaload, 1) := by decide +kernel
theorem d_M_comesFirst_25 : decode b_M_comesFirst 25 = .ok (.aload_n 0, 1) := by decide +kernel
theorem d_M_comesFirst_26 : decode b_M_comesFirst 26 = .ok (.getfield 16, 3) := by decide +kernel
theorem d_M_comesFirst_29 : decode b_M_comesFirst 29 = .ok (.iload_n 3, 1) := by decide +kernel
theorem d_M_comesFirst_30 : decode b_M_comesFirst 30 = .ok (.iaload, 1) := by decide +kernel
theorem d_M_comesFirst_31 : decode b_M_comesFirst 31 = .ok (.invokestatic 84, 3) := by decide +kernel
theorem d_M_comesFirst_34 : decode b_M_comesFirst 34 = .ok (.lstore 4, 2) := by decide +kernel
theorem d_M_comesFirst_36 : decode b_M_comesFirst 36 = .ok (.aload_n 0, 1) := by decide +kernel
theorem d_M_comesFirst_37 : decode b_M_comesFirst 37 = .ok (.getfield 7, 3) := by decide +kernel
theorem d_M_comesFirst_40 : decode b_M_comesFirst 40 = .ok (.iconst 2, 1) := by decide +kernel
theorem d_M_comesFirst_41 : decode b_M_comesFirst 41 = .ok (.iload_n 2, 1) := by decide +kernel
theorem d_M_comesFirst_42 : decode b_M_comesFirst 42 = .ok (.imul, 1) := by decide +kernel
theorem d_M_comesFirst_43 : decode b_M_comesFirst 43 = .ok (.aload_n 0, 1) := by decide +kernel
theorem d_M_comesFirst_44 : decode b_M_comesFirst 44 = .ok (.getfield 13, 3) := by decide +kernel
theorem d_M_comesFirst_47 : decode b_M_comesFirst 47 = .ok (.iload_n 3, 1) := by decide +kernel
theorem d_M_comesFirst_48 : decode b_M_comesFirst 48 = .ok (.iaload, 1) := by decide +kernel
theorem d_M_comesFirst_49 : decode b_M_comesFirst 49 = .ok (.iadd, 1) := by decide +kernel
theorem d_M_comesFirst_50 : decode b_M_comesFirst 50 = .ok (.iaload, 1) := by decide +kernel
theorem d_M_comesFirst_51 : decode b_M_comesFirst 51 = .ok (.aload_n 0, 1) := by decide +kernel
theorem d_M_comesFirst_52 : decode b_M_comesFirst 52 = .ok (.getfield 16, 3) := by decide +kernel
theorem d_M_comesFirst_55 : decode b_M_comesFirst 55 = .ok (.iload_n 3, 1) := by decide +kernel
theorem d_M_comesFirst_56 : decode b_M_comesFirst 56 = .ok (.iaload, 1) := by decide +kernel
theorem d_M_comesFirst_57 : decode b_M_comesFirst 57 = .ok (.invokestatic 84, 3) := by decide +kernel
theorem d_M_comesFirst_60 : decode b_M_comesFirst 60 = .ok (.lstore 6, 2) := by decide +kernel
theorem d_M_comesFirst_62 : decode b_M_comesFirst 62 = .ok (.lload 4, 2) := by decide +kernel
theorem d_M_comesFirst_64 : decode b_M_comesFirst 64 = .ok (.lload 6, 2) := by decide +kernel
theorem d_M_comesFirst_66 : decode b_M_comesFirst 66 = .ok (.lcmp, 1) := by decide +kernel
theorem d_M_comesFirst_67 : decode b_M_comesFirst 67 = .ok (.ifCond .eq 17, 3) := by decide +kernel
theorem d_M_comesFirst_70 : decode b_M_comesFirst 70 = .ok (.lload 4, 2) := by decide +kernel
theorem d_M_comesFirst_72 : decode b_M_comesFirst 72 = .ok (.lload 6, 2) := by decide +kernel
theorem d_M_comesFirst_74 : decode b_M_comesFirst 74 = .ok (.lcmp, 1) := by decide +kernel
theorem d_M_comesFirst_75 : decode b_M_comesFirst 75 = .ok (.ifCond .ge 7, 3) := by decide +kernel
theorem d_M_comesFirst_78 : decode b_M_comesFirst 78 = .ok (.iconst 1, 1) := by decide +kernel
theorem d_M_comesFirst_79 : decode b_M_comesFirst 79 = .ok (.goto 4, 3) := by decide +kernel
theorem d_M_comesFirst_82 : decode b_M_comesFirst 82 = .ok (.iconst 0, 1) := by decide +kernel
theorem d_M_comesFirst_83 : decode b_M_comesFirst 83 = .ok (.ireturn, 1) := by decide +kernel
theorem d_M_comesFirst_84 : decode b_M_comesFirst 84 = .ok (.iinc 3 1, 3) := by decide +kernel
theorem d_M_comesFirst_87 : decode b_M_comesFirst 87 = .ok (.goto (-85), 3) := by decide +kernel
theorem d_M_comesFirst_90 : decode b_M_comesFirst 90 = .ok (.iload_n 1, 1) := by decide +kernel
theorem d_M_comesFirst_91 : decode b_M_comesFirst 91 = .ok (.iload_n 2, 1) := by decide +kernel
theorem d_M_comesFirst_92 : decode b_M_comesFirst 92 = .ok (.if_icmp .ge 7, 3) := by decide +kernel
theorem d_M_comesFirst_95 : decode b_M_comesFirst 95 = .ok (.iconst 1, 1) := by decide +kernel
theorem d_M_comesFirst_96 : decode b_M_comesFirst 96 = .ok (.goto 4, 3) := by decide +kernel
theorem d_M_comesFirst_99 : decode b_M_comesFirst 99 = .ok (.iconst 0, 1) := by decide +kernel
theorem d_M_comesFirst_100 : decode b_M_comesFirst 100 = .ok (.ireturn, 1) := by decide +kernel
def m_M_comesFirst_2 (N : Nat) : Nat → SX → Int32 → Int32 → Int32 → Option (Int32 × SX)
  | 0, _, _, _, _ => none
  | n2 + 1, σ, v1, v2, v3 =>
    (if ((σ 0).1 3) ≤ v3 then (if v2 ≤ v1 then some (0, σ) else some (1, σ)) else (if inb v3 3 = true then (if inb ((2 * v1) + ((σ 0).2 2 v3.toNatClampNeg)) 300 = true then (if inb v3 3 = true then (bL (m_M_standing ((σ 0).2 1 ((2 * v1) + ((σ 0).2 2 v3.toNatClampNeg)).toNatClampNeg) ((σ 0).2 3 v3.toNatClampNeg)) fun r31 => (if inb v3 3 = true then (if inb ((2 * v2) + ((σ 0).2 2 v3.toNatClampNeg)) 300 = true then (if inb v3 3 = true then (bL (m_M_standing ((σ 0).2 1 ((2 * v2) + ((σ 0).2 2 v3.toNatClampNeg)).toNatClampNeg) ((σ 0).2 3 v3.toNatClampNeg)) fun r57 => (if (lg_cmp r31 r57) = 0 then m_M_comesFirst_2 N n2 σ v1 v2 (v3 + 1) else (if 0 ≤ (lg_cmp r31 r57) then some (0, σ) else some (1, σ)))) else none) else none) else none)) else none) else none) else none))

def m_M_comesFirst (N : Nat) (σ : SX) (a1 : Int32) (a2 : Int32) : Option (Int32 × SX) :=
  m_M_comesFirst_2 N N σ a1 a2 0

set_option maxHeartbeats 4000000 in
set_option maxRecDepth 100000 in
theorem c_M_comesFirst (l : Launch) (dC : Nat → ClassId) (dI : Nat → Nat → Nat) (ad : Nat → Nat → Nat) (cs : Nat → ClassId) (sz N : Nat) (σ : SX) (a1 : Int32) (a2 : Int32) {r0 : Int32} {σ0 : SX} (hM : m_M_comesFirst N σ a1 a2 = some (r0, σ0)) : Met l y_M_comesFirst (wd y_M_comesFirst b_M_comesFirst 8 (some .boolean)) ({ frames := 1, cells := 0, slots := 0, locals := 21 }) (va_Pc [.ref (ad 0 0), .int a1, .int a2] (preM dC dI ad cs sz σ)) (va_Qi (fun (r : Int32) (_ : Unit) => r = r0 ∧ σ = σ0) (fun _ _ => True) (fun q => sz ≤ q)) 0 0 (fun q => sz ≤ q) := by
  refine Met.ofW (cc := b_M_comesFirst) (maxL := 8) (ret := (some .boolean)) (by decide) rfl ?_
  intro p e s m args below meth c s₁ B hml hv
  obtain ⟨rfl, hsz, hP, hK, hD0, hN⟩ := hv
  have hx := B.exec
  have hb := B.bytes
  have hr := B.returns
  have hts := atoms_spec (ws := (wd y_M_comesFirst b_M_comesFirst 8 (some .boolean))) B.pre
  have htb : ∀ w ∈ tb, w.before _ s = true := fun w h => hts w (List.mem_cons_of_mem _ h)
  have hown : s.vm.findClass R_M = some m.cls := findClass_of_methodNamed B.named
  have hlocks := B.notSynchronized
  subst hsz
  have hD := hD0
  have hA : ∀ q : Nat, s.heap.size ≤ q → s.heap.size ≤ q := fun q h => h
  have hS : va_S (fun q => s.heap.size ≤ q) s.heap s.heap [] := va_S.rf
  have hP : va_P (dC, dI) classes (wM ad cs σ) s.heap := hP
  have hl := lv_entry ([.ref (ad 0 0), .int a1, .int a2]) (n := 8) (Nat.le_of_ble_eq_true rfl)
  rw [lg_entry_eq]
  generalize (lg_sl ([.ref (ad 0 0), .int a1, .int a2]) ++ List.replicate (8 - (lg_sl ([.ref (ad 0 0), .int a1, .int a2])).length) Slot.unset).toArray = ls at hl ⊢
  have hl : lv_has ls 8 [(0, .ref (ad 0 0)), (1, .int a1), (2, .int a2)] := hl
  rw [m_M_comesFirst] at hM
  refine W_loop (pc := 2) (fun n2 H locs ls st => ∃ (v1 : Int32) (v2 : Int32) (v3 : Int32), st = [] ∧ m_M_comesFirst_2 N n2 σ v1 v2 v3 = some (r0, σ0) ∧ lv_has ls 8 [(0, .ref (ad 0 0)), (1, .int v1), (2, .int v2), (3, .int v3)] ∧ va_P (dC, dI) classes (wM ad cs σ) H ∧ va_D (fun _ => True) (wM ad cs σ) ∧ va_S (fun q => s.heap.size ≤ q) s.heap H locs) ?_ ?_ ?_
  · rintro H locs ls st ⟨v1, v2, v3, -, hM, -⟩
    rw [m_M_comesFirst_2] at hM; cases hM
  · intro n2 K2 H locs ls st hI
    obtain ⟨v1, v2, v3, rfl, hM, hl, hP, hD, hS⟩ := hI
    rw [m_M_comesFirst_2] at hM
    refine lv_iload_n hx hb d_M_comesFirst_2 rfl (lv_at hl 3 rfl) ?_
    refine lv_aload_n hx hb d_M_comesFirst_3 rfl (lv_at hl 0 rfl) ?_
    refine va_get (D := (dC, dI)) (ci := 7) (v := .int ((σ 0).1 3)) (C := R_M) (T := F_M) (N := 33) hx hb htb in_M hown hK hP 0 (g_M) rfl 4 (by decide) (htb _ k_623) (fun _ h9 => h9) rfl d_M_comesFirst_4 ?_
    refine lv_icmp_ge (tgt := 90) hx hb d_M_comesFirst_7 (by decide) (fun h7 => ?_) (fun h7 => ?_)
    · rw [if_pos h7] at hM
      refine lv_iload_n hx hb d_M_comesFirst_90 rfl (lv_at hl 1 rfl) ?_
      refine lv_iload_n hx hb d_M_comesFirst_91 rfl (lv_at hl 2 rfl) ?_
      refine lv_icmp_ge (tgt := 99) hx hb d_M_comesFirst_92 (by decide) (fun h92 => ?_) (fun h92 => ?_)
      · rw [if_pos h92] at hM
        refine lv_iconst (v := 0) hx hb d_M_comesFirst_99 (by decide) ?_
        have e9 := Prod.mk.inj (Option.some.inj hM)
        exact W.zret (ty := .boolean) (v := 0) hx hb hr rfl (fun t ht hW => ⟨⟨0, (), rfl, e9, trivial⟩, hS.F ht⟩) hS.2.2 d_M_comesFirst_100
      · rw [if_neg h92] at hM
        refine lv_iconst (v := 1) hx hb d_M_comesFirst_95 (by decide) ?_
        refine lv_goto (tgt := 100) hx hb d_M_comesFirst_96 (by decide) ?_
        have e9 := Prod.mk.inj (Option.some.inj hM)
        exact W.zret (ty := .boolean) (v := 1) hx hb hr rfl (fun t ht hW => ⟨⟨1, (), rfl, e9, trivial⟩, hS.F ht⟩) hS.2.2 d_M_comesFirst_100
    · rw [if_neg h7] at hM
      refine lv_aload_n hx hb d_M_comesFirst_10 rfl (lv_at hl 0 rfl) ?_
      refine va_get (D := (dC, dI)) (ci := 7) (v := .ref (ad 0 1)) (C := R_M) (T := F_M) (N := 33) hx hb htb in_M hown hK hP 0 (g_M) rfl 3 (by decide) (htb _ k_622) (fun _ h9 => h9) rfl d_M_comesFirst_11 ?_
      refine lv_iconst (v := 2) hx hb d_M_comesFirst_14 (by decide) ?_
      refine lv_iload_n hx hb d_M_comesFirst_15 rfl (lv_at hl 1 rfl) ?_
      refine lv_imul hx hb d_M_comesFirst_16 ?_
      refine lv_aload_n hx hb d_M_comesFirst_17 rfl (lv_at hl 0 rfl) ?_
      refine va_get (D := (dC, dI)) (ci := 7) (v := .ref (ad 0 2)) (C := R_M) (T := F_M) (N := 33) hx hb htb in_M hown hK hP 0 (g_M) rfl 5 (by decide) (htb _ k_624) (fun _ h9 => h9) rfl d_M_comesFirst_18 ?_
      refine lv_iload_n hx hb d_M_comesFirst_21 rfl (lv_at hl 3 rfl) ?_
      have hg22 := gd_c hM
      have hM := gd_v hM
      refine va_iald hx hb hK hP 2 0 (g_M_a2) rfl (inb_in hg22) d_M_comesFirst_22 ?_
      refine lv_iadd hx hb d_M_comesFirst_23 ?_
      have hg24 := gd_c hM
      have hM := gd_v hM
      refine va_iald hx hb hK hP 1 0 (g_M_a1) rfl (inb_in hg24) d_M_comesFirst_24 ?_
      refine lv_aload_n hx hb d_M_comesFirst_25 rfl (lv_at hl 0 rfl) ?_
      refine va_get (D := (dC, dI)) (ci := 7) (v := .ref (ad 0 3)) (C := R_M) (T := F_M) (N := 33) hx hb htb in_M hown hK hP 0 (g_M) rfl 6 (by decide) (htb _ k_625) (fun _ h9 => h9) rfl d_M_comesFirst_26 ?_
      refine lv_iload_n hx hb d_M_comesFirst_29 rfl (lv_at hl 3 rfl) ?_
      have hg30 := gd_c hM
      have hM := gd_v hM
      refine va_iald hx hb hK hP 3 0 (g_M_a3) rfl (inb_in hg30) d_M_comesFirst_30 ?_
      obtain ⟨x31, hq31, hM⟩ := bL_some hM
      refine va_calll (va_runS (As := [.int ((σ 0).2 1 ((2 * v1) + ((σ 0).2 2 v3.toNatClampNeg)).toNatClampNeg), .int ((σ 0).2 3 v3.toNatClampNeg)]) (rest := []) ⟨hx, hb, hml, hown, hts⟩ (c_M_standing l _ ((σ 0).2 1 ((2 * v1) + ((σ 0).2 2 v3.toNatClampNeg)).toNatClampNeg) ((σ 0).2 3 v3.toNatClampNeg) hq31) (cwS 2 hts (goodS k_739 k_740 k_8 k_741) rfl rfl rfl ⟨rfl, by decide, by decide, by decide +kernel⟩ ⟨Nat.le_of_ble_eq_true rfl, Nat.le_of_ble_eq_true rfl⟩) ⟨blindS, payS⟩ rfl rfl hl.1 rfl (lv_room (Nat.le_of_ble_eq_true rfl)) d_M_comesFirst_31 ⟨Nat.zero_le _, Nat.zero_le _⟩) hS (fun q h0 h => absurd h0 (Nat.not_lt.mpr h)) (fun q h => hA q (Nat.le_trans hS.1 h)) (fun r31 u t H locs ht hvm hpost hB hz1 hk1 hS => ?_)
      subst hpost
      have hP := keepP hP hk1
      refine lv_lstore hx hb d_M_comesFirst_34 hl (by decide) (lv' := [(4, .long r31), (0, .ref (ad 0 0)), (1, .int v1), (2, .int v2), (3, .int v3)]) rfl (fun ls hl => ?_)
      refine lv_aload_n hx hb d_M_comesFirst_36 rfl (lv_at hl 1 rfl) ?_
      refine va_get (D := (dC, dI)) (ci := 7) (v := .ref (ad 0 1)) (C := R_M) (T := F_M) (N := 33) hx hb htb in_M hown hK hP 0 (g_M) rfl 3 (by decide) (htb _ k_622) (fun _ h9 => h9) rfl d_M_comesFirst_37 ?_
      refine lv_iconst (v := 2) hx hb d_M_comesFirst_40 (by decide) ?_
      refine lv_iload_n hx hb d_M_comesFirst_41 rfl (lv_at hl 3 rfl) ?_
      refine lv_imul hx hb d_M_comesFirst_42 ?_
      refine lv_aload_n hx hb d_M_comesFirst_43 rfl (lv_at hl 1 rfl) ?_
      refine va_get (D := (dC, dI)) (ci := 7) (v := .ref (ad 0 2)) (C := R_M) (T := F_M) (N := 33) hx hb htb in_M hown hK hP 0 (g_M) rfl 5 (by decide) (htb _ k_624) (fun _ h9 => h9) rfl d_M_comesFirst_44 ?_
      refine lv_iload_n hx hb d_M_comesFirst_47 rfl (lv_at hl 4 rfl) ?_
      have hg48 := gd_c hM
      have hM := gd_v hM
      refine va_iald hx hb hK hP 2 0 (g_M_a2) rfl (inb_in hg48) d_M_comesFirst_48 ?_
      refine lv_iadd hx hb d_M_comesFirst_49 ?_
      have hg50 := gd_c hM
      have hM := gd_v hM
      refine va_iald hx hb hK hP 1 0 (g_M_a1) rfl (inb_in hg50) d_M_comesFirst_50 ?_
      refine lv_aload_n hx hb d_M_comesFirst_51 rfl (lv_at hl 1 rfl) ?_
      refine va_get (D := (dC, dI)) (ci := 7) (v := .ref (ad 0 3)) (C := R_M) (T := F_M) (N := 33) hx hb htb in_M hown hK hP 0 (g_M) rfl 6 (by decide) (htb _ k_625) (fun _ h9 => h9) rfl d_M_comesFirst_52 ?_
      refine lv_iload_n hx hb d_M_comesFirst_55 rfl (lv_at hl 4 rfl) ?_
      have hg56 := gd_c hM
      have hM := gd_v hM
      refine va_iald hx hb hK hP 3 0 (g_M_a3) rfl (inb_in hg56) d_M_comesFirst_56 ?_
      obtain ⟨x57, hq57, hM⟩ := bL_some hM
      refine va_calll (va_runS (As := [.int ((σ 0).2 1 ((2 * v2) + ((σ 0).2 2 v3.toNatClampNeg)).toNatClampNeg), .int ((σ 0).2 3 v3.toNatClampNeg)]) (rest := []) ⟨hx, hb, hml, hown, hts⟩ (c_M_standing l _ ((σ 0).2 1 ((2 * v2) + ((σ 0).2 2 v3.toNatClampNeg)).toNatClampNeg) ((σ 0).2 3 v3.toNatClampNeg) hq57) (cwS 2 hts (goodS k_739 k_740 k_8 k_741) rfl rfl rfl ⟨rfl, by decide, by decide, by decide +kernel⟩ ⟨Nat.le_of_ble_eq_true rfl, Nat.le_of_ble_eq_true rfl⟩) ⟨blindS, payS⟩ rfl rfl hl.1 rfl (lv_room (Nat.le_of_ble_eq_true rfl)) d_M_comesFirst_57 ⟨Nat.zero_le _, Nat.zero_le _⟩) hS (fun q h0 h => absurd h0 (Nat.not_lt.mpr h)) (fun q h => hA q (Nat.le_trans hS.1 h)) (fun r57 u t H locs ht hvm hpost hB hz1 hk1 hS => ?_)
      subst hpost
      have hP := keepP hP hk1
      refine lv_lstore hx hb d_M_comesFirst_60 hl (by decide) (lv' := [(6, .long r57), (4, .long r31), (0, .ref (ad 0 0)), (1, .int v1), (2, .int v2), (3, .int v3)]) rfl (fun ls hl => ?_)
      refine lv_lload hx hb d_M_comesFirst_62 (lv_at hl 1 rfl) ?_
      refine lv_lload hx hb d_M_comesFirst_64 (lv_at hl 0 rfl) ?_
      refine W.lcmp hx hb d_M_comesFirst_66 ?_
      refine lv_if_eq (tgt := 84) hx hb d_M_comesFirst_67 (by decide) (fun h67 => ?_) (fun h67 => ?_)
      · rw [if_pos h67] at hM
        refine lv_iinc (k := 5) (v := (v3 + 1)) hx hb d_M_comesFirst_84 hl rfl rfl (by decide) (lv' := [(3, .int (v3 + 1)), (6, .long r57), (4, .long r31), (0, .ref (ad 0 0)), (1, .int v1), (2, .int v2)]) rfl (fun ls hl => ?_)
        refine lv_goto (tgt := 2) hx hb d_M_comesFirst_87 (by decide) ?_
        exact K2 _ _ _ _ ⟨v1, v2, (v3 + 1), rfl, hM, lv_sub hl [3, 4, 5, 0] rfl, hP, hD, hS⟩
      · rw [if_neg h67] at hM
        refine lv_lload hx hb d_M_comesFirst_70 (lv_at hl 1 rfl) ?_
        refine lv_lload hx hb d_M_comesFirst_72 (lv_at hl 0 rfl) ?_
        refine W.lcmp hx hb d_M_comesFirst_74 ?_
        refine lv_if_ge (tgt := 82) hx hb d_M_comesFirst_75 (by decide) (fun h75 => ?_) (fun h75 => ?_)
        · rw [if_pos h75] at hM
          refine lv_iconst (v := 0) hx hb d_M_comesFirst_82 (by decide) ?_
          have e9 := Prod.mk.inj (Option.some.inj hM)
          exact W.zret (ty := .boolean) (v := 0) hx hb hr rfl (fun t ht hW => ⟨⟨0, (), rfl, e9, trivial⟩, hS.F ht⟩) hS.2.2 d_M_comesFirst_83
        · rw [if_neg h75] at hM
          refine lv_iconst (v := 1) hx hb d_M_comesFirst_78 (by decide) ?_
          refine lv_goto (tgt := 83) hx hb d_M_comesFirst_79 (by decide) ?_
          have e9 := Prod.mk.inj (Option.some.inj hM)
          exact W.zret (ty := .boolean) (v := 1) hx hb hr rfl (fun t ht hW => ⟨⟨1, (), rfl, e9, trivial⟩, hS.F ht⟩) hS.2.2 d_M_comesFirst_83
  intro K2
  refine lv_iconst (v := 0) hx hb d_M_comesFirst_0 (by decide) ?_
  refine lv_istore_n hx hb d_M_comesFirst_1 rfl hl (by decide) (lv' := [(3, .int 0), (0, .ref (ad 0 0)), (1, .int a1), (2, .int a2)]) rfl (fun ls hl => ?_)
  exact K2 N _ _ _ _ ⟨a1, a2, 0, rfl, hM, lv_sub hl [1, 2, 3, 0] rfl, hP, hD, hS⟩
