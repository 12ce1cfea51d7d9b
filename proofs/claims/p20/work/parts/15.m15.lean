theorem d_O_mergeRuns_0 : decode b_O_mergeRuns 0 = .ok (.aload_n 0, 1) := by decide +kernel
theorem d_O_mergeRuns_1 : decode b_O_mergeRuns 1 = .ok (.invokevirtual 214, 3) := by decide +kernel
theorem d_O_mergeRuns_4 : decode b_O_mergeRuns 4 = .ok (.ifCond .eq 15, 3) := by decide +kernel
theorem d_O_mergeRuns_7 : decode b_O_mergeRuns 7 = .ok (.aload_n 0, 1) := by decide +kernel
theorem d_O_mergeRuns_8 : decode b_O_mergeRuns 8 = .ok (.iconst 3, 1) := by decide +kernel
theorem d_O_mergeRuns_9 : decode b_O_mergeRuns 9 = .ok (.invokevirtual 161, 3) := by decide +kernel
theorem d_O_mergeRuns_12 : decode b_O_mergeRuns 12 = .ok (.iconst 1, 1) := by decide +kernel
theorem d_O_mergeRuns_13 : decode b_O_mergeRuns 13 = .ok (.invokevirtual 189, 3) := by decide +kernel
theorem d_O_mergeRuns_16 : decode b_O_mergeRuns 16 = .ok (.goto 31, 3) := by decide +kernel
theorem d_O_mergeRuns_19 : decode b_O_mergeRuns 19 = .ok (.aload_n 0, 1) := by decide +kernel
theorem d_O_mergeRuns_20 : decode b_O_mergeRuns 20 = .ok (.invokevirtual 217, 3) := by decide +kernel
theorem d_O_mergeRuns_23 : decode b_O_mergeRuns 23 = .ok (.ifCond .eq 10, 3) := by decide +kernel
theorem d_O_mergeRuns_26 : decode b_O_mergeRuns 26 = .ok (.aload_n 0, 1) := by decide +kernel
theorem d_O_mergeRuns_27 : decode b_O_mergeRuns 27 = .ok (.invokevirtual 220, 3) := by decide +kernel
theorem d_O_mergeRuns_30 : decode b_O_mergeRuns 30 = .ok (.ifCond .ne 5, 3) := by decide +kernel
theorem d_O_mergeRuns_33 : decode b_O_mergeRuns 33 = .ok (.iconst 0, 1) := by decide +kernel
theorem d_O_mergeRuns_34 : decode b_O_mergeRuns 34 = .ok (.ireturn, 1) := by decide +kernel
theorem d_O_mergeRuns_35 : decode b_O_mergeRuns 35 = .ok (.aload_n 0, 1) := by decide +kernel
theorem d_O_mergeRuns_36 : decode b_O_mergeRuns 36 = .ok (.iconst 3, 1) := by decide +kernel
theorem d_O_mergeRuns_37 : decode b_O_mergeRuns 37 = .ok (.invokevirtual 161, 3) := by decide +kernel
theorem d_O_mergeRuns_40 : decode b_O_mergeRuns 40 = .ok (.aload_n 0, 1) := by decide +kernel
theorem d_O_mergeRuns_41 : decode b_O_mergeRuns 41 = .ok (.getfield 33, 3) := by decide +kernel
theorem d_O_mergeRuns_44 : decode b_O_mergeRuns 44 = .ok (.invokevirtual 192, 3) := by decide +kernel
theorem d_O_mergeRuns_47 : decode b_O_mergeRuns 47 = .ok (.aload_n 0, 1) := by decide +kernel
theorem d_O_mergeRuns_48 : decode b_O_mergeRuns 48 = .ok (.invokevirtual 223, 3) := by decide +kernel
theorem d_O_mergeRuns_51 : decode b_O_mergeRuns 51 = .ok (.aload_n 0, 1) := by decide +kernel
theorem d_O_mergeRuns_52 : decode b_O_mergeRuns 52 = .ok (.iconst 2, 1) := by decide +kernel
theorem d_O_mergeRuns_53 : decode b_O_mergeRuns 53 = .ok (.invokevirtual 161, 3) := by decide +kernel
theorem d_O_mergeRuns_56 : decode b_O_mergeRuns 56 = .ok (.invokevirtual 226, 3) := by decide +kernel
theorem d_O_mergeRuns_59 : decode b_O_mergeRuns 59 = .ok (.ifCond .eq 7, 3) := by decide +kernel
theorem d_O_mergeRuns_62 : decode b_O_mergeRuns 62 = .ok (.aload_n 0, 1) := by decide +kernel
theorem d_O_mergeRuns_63 : decode b_O_mergeRuns 63 = .ok (.invokevirtual 229, 3) := by decide +kernel
theorem d_O_mergeRuns_66 : decode b_O_mergeRuns 66 = .ok (.iconst 1, 1) := by decide +kernel
theorem d_O_mergeRuns_67 : decode b_O_mergeRuns 67 = .ok (.ireturn, 1) := by decide +kernel
def m_O_mergeRuns_47 (N : Nat) (σ : SX) : Option (Int32 × SX) :=
    (bV (m_O_takeFromSources N σ) fun σ48 => (bR (m_O_tapeInRole N σ48 2) fun x53 σ53 => (bI (m_T_isBare N σ48 x53) fun r56 σ56 => (if r56 = 0 then some (1, σ48) else (bV (m_O_endLevel N σ48) fun σ63 => some (1, σ63))))))

def m_O_mergeRuns (N : Nat) (σ : SX) : Option (Int32 × SX) :=
  (bI (m_O_everySourceHasDummy N σ) fun r1 σ1 => (if r1 = 0 then (bI (m_O_sourcesCanBeRead N σ) fun r20 σ20 => (if r20 = 0 then some (0, σ20) else (bI (m_O_writeMergedRun N σ20) fun r27 σ27 => (if r27 = 0 then some (0, σ27) else (bR (m_O_tapeInRole N σ27 3) fun x37 σ37 => (bV (m_T_append N σ27 x37) fun σ44 => m_O_mergeRuns_47 N σ44)))))) else (bR (m_O_tapeInRole N σ 3) fun x9 σ9 => (bV (m_T_addDummies N σ x9 1) fun σ13 => m_O_mergeRuns_47 N σ13))))

set_option maxHeartbeats 4000000 in
set_option maxRecDepth 100000 in
theorem c_O_mergeRuns (l : Launch) (dC : Nat → ClassId) (dI : Nat → Nat → Nat) (ad : Nat → Nat → Nat) (cs : Nat → ClassId) (sz N : Nat) (σ : SX) {r0 : Int32} {σ0 : SX} (hM : m_O_mergeRuns N σ = some (r0, σ0)) : Met l y_O_mergeRuns (wd y_O_mergeRuns b_O_mergeRuns 1 (some .boolean)) ({ frames := 5, cells := 0, slots := 0, locals := 114 }) (va_Pc [.ref (ad 0 0)] (preX dC dI ad cs sz σ)) (va_Qi (fun (r : Int32) (u : SX) => r = r0 ∧ u = σ0) (atX dC dI ad cs (va_A (wX ad cs σ) sz)) (va_A (wX ad cs σ) sz)) 0 0 (va_A (wX ad cs σ) sz) := by
  refine Met.ofW (cc := b_O_mergeRuns) (maxL := 1) (ret := (some .boolean)) (by decide) rfl ?_
  intro p e s m args below meth c s₁ B hml hv
  obtain ⟨rfl, hsz, hP, hK, hD0, hN⟩ := hv
  have hx := B.exec
  have hb := B.bytes
  have hr := B.returns
  have hts := atoms_spec (ws := (wd y_O_mergeRuns b_O_mergeRuns 1 (some .boolean))) B.pre
  have htb : ∀ w ∈ tb, w.before _ s = true := fun w h => hts w (List.mem_cons_of_mem _ h)
  have hown : s.vm.findClass R_O = some m.cls := findClass_of_methodNamed B.named
  have hlocks := B.notSynchronized
  subst hsz
  have hD := hD0.self (sz := s.heap.size)
  generalize hAe : va_A (wX ad cs σ) s.heap.size = A at hD ⊢
  have hA : ∀ q : Nat, s.heap.size ≤ q → A q := fun q h => by rw [← hAe]; exact Or.inr h
  have hS : va_S A s.heap s.heap [] := va_S.rf
  have hP : va_P (dC, dI) classes (wX ad cs σ) s.heap := hP
  have hl := lv_entry ([.ref (ad 0 0)]) (n := 1) (Nat.le_of_ble_eq_true rfl)
  rw [lg_entry_eq]
  generalize (lg_sl ([.ref (ad 0 0)]) ++ List.replicate (1 - (lg_sl ([.ref (ad 0 0)])).length) Slot.unset).toArray = ls at hl ⊢
  have hl : lv_has ls 1 [(0, .ref (ad 0 0))] := hl
  rw [m_O_mergeRuns] at hM
  refine W_cut (pc := 47) (fun H locs ls st => ∃ (σ : SX), st = [] ∧ m_O_mergeRuns_47 N σ = some (r0, σ0) ∧ lv_has ls 1 [(0, .ref (ad 0 0))] ∧ va_P (dC, dI) classes (wX ad cs σ) H ∧ va_D A (wX ad cs σ) ∧ va_S A s.heap H locs) ?_ ?_
  · intro H locs ls st hI
    obtain ⟨σ, rfl, hM, hl, hP, hD, hS⟩ := hI
    rw [m_O_mergeRuns_47] at hM
    refine lv_aload_n hx hb d_O_mergeRuns_47 rfl (lv_at hl 0 rfl) ?_
    have hF1 := free_all hD hS hA
    obtain ⟨y48, hq48, hM⟩ := bV_some hM
    refine va_callv (va_runV (As := []) (rest := []) ⟨hx, hb, hml, hown, hts⟩ (c_O_takeFromSources l dC dI ad cs _ N σ hq48) (cwV 0 hts (goodV k_582 k_584 ks_O_takeFromSources k_1 k_585) rfl rfl rfl ⟨rfl, by decide, by decide, by decide +kernel⟩ ⟨Nat.le_of_ble_eq_true rfl, Nat.le_of_ble_eq_true rfl⟩) ⟨blindX, va_recv hK hP rfl (g_O), payX hP hK hD hN⟩ rfl rfl hl.1 rfl (lv_room (Nat.le_of_ble_eq_true rfl)) d_O_mergeRuns_48 ⟨Nat.zero_le _, Nat.zero_le _⟩) hS (fun q _ h => hF1 q h) hF1 (fun σ48 t H locs ht hvm hpost hB hz1 hk1 hS => ?_)
    subst hpost
    obtain ⟨hP1, hK1, hD1⟩ := hB
    rw [ht] at hP1
    have hP := hP1
    have hD := hD1.weaken (fun _ _ _ h => hF1 _ h)
    refine lv_aload_n hx hb d_O_mergeRuns_51 rfl (lv_at hl 0 rfl) ?_
    refine lv_iconst (v := 2) hx hb d_O_mergeRuns_52 (by decide) ?_
    obtain ⟨x53, y53, hq53, hM⟩ := bR_some hM
    refine va_callr (va_runV (As := [.int 2]) (rest := []) ⟨hx, hb, hml, hown, hts⟩ (c_O_tapeInRole l dC dI ad cs _ N σ48 2 hq53) (cwV 1 hts (goodV k_305 k_307 ks_O_tapeInRole k_1 k_308) rfl rfl rfl ⟨rfl, by decide, by decide, by decide +kernel⟩ ⟨Nat.le_of_ble_eq_true rfl, Nat.le_of_ble_eq_true rfl⟩) ⟨blindX, va_recv hK hP rfl (g_O), payX hP hK hD hN⟩ rfl rfl hl.1 rfl (lv_room (Nat.le_of_ble_eq_true rfl)) d_O_mergeRuns_53 ⟨Nat.zero_le _, Nat.zero_le _⟩) hS (fun q h0 h => absurd h0 (Nat.not_lt.mpr h)) (fun q h => hA q (Nat.le_trans hS.1 h)) (fun u ra t H locs ht hvm hpost hB hz1 hk1 hS => ?_)
    subst hpost
    obtain ⟨rfl, hx53⟩ := hB
    have hP := keepP hP hk1
    obtain ⟨x56, y56, hq56, hM⟩ := bI_some hM
    refine va_calli (va_runV (As := []) (rest := []) ⟨hx, hb, hml, hown, hts⟩ (c_T_isBare l dC dI ad cs _ N σ48 x53 hx53 hq56) (cwV 0 hts (goodV k_590 k_591 k_592 k_7 k_593) rfl rfl rfl ⟨rfl, by decide, by decide, by decide +kernel⟩ ⟨Nat.le_of_ble_eq_true rfl, Nat.le_of_ble_eq_true rfl⟩) ⟨blindX, va_recv hK hP rfl (g_T hx53), payX hP hK hD hN⟩ rfl rfl hl.1 rfl (lv_room (Nat.le_of_ble_eq_true rfl)) d_O_mergeRuns_56 ⟨Nat.zero_le _, Nat.zero_le _⟩) hS (fun q h0 h => absurd h0 (Nat.not_lt.mpr h)) (fun q h => hA q (Nat.le_trans hS.1 h)) (fun r56 u t H locs ht hvm hpost hB hz1 hk1 hS => ?_)
    obtain ⟨e1, e2⟩ := hpost
    subst e1
    subst e2
    have hP := keepP hP hk1
    refine lv_if_eq (tgt := 66) hx hb d_O_mergeRuns_59 (by decide) (fun h59 => ?_) (fun h59 => ?_)
    · rw [if_pos h59] at hM
      refine lv_iconst (v := 1) hx hb d_O_mergeRuns_66 (by decide) ?_
      have e9 := Prod.mk.inj (Option.some.inj hM)
      exact W.zret (ty := .boolean) (v := 1) hx hb hr rfl (fun t ht hW => ⟨⟨1, σ48, rfl, e9, by rw [ht]; exact hP, va_K.moved hW.alike hK, hD⟩, hS.F ht⟩) hS.2.2 d_O_mergeRuns_67
    · rw [if_neg h59] at hM
      refine lv_aload_n hx hb d_O_mergeRuns_62 rfl (lv_at hl 0 rfl) ?_
      have hF1 := free_all hD hS hA
      obtain ⟨y63, hq63, hM⟩ := bV_some hM
      refine va_callv (va_runV (As := []) (rest := []) ⟨hx, hb, hml, hown, hts⟩ (c_O_endLevel l dC dI ad cs _ N σ48 hq63) (cwV 0 hts (goodV k_594 k_596 ks_O_endLevel k_1 k_597) rfl rfl rfl ⟨rfl, by decide, by decide, by decide +kernel⟩ ⟨Nat.le_of_ble_eq_true rfl, Nat.le_of_ble_eq_true rfl⟩) ⟨blindX, va_recv hK hP rfl (g_O), payX hP hK hD hN⟩ rfl rfl hl.1 rfl (lv_room (Nat.le_of_ble_eq_true rfl)) d_O_mergeRuns_63 ⟨Nat.zero_le _, Nat.zero_le _⟩) hS (fun q _ h => hF1 q h) hF1 (fun σ63 t H locs ht hvm hpost hB hz1 hk1 hS => ?_)
      subst hpost
      obtain ⟨hP1, hK1, hD1⟩ := hB
      rw [ht] at hP1
      have hP := hP1
      have hD := hD1.weaken (fun _ _ _ h => hF1 _ h)
      refine lv_iconst (v := 1) hx hb d_O_mergeRuns_66 (by decide) ?_
      have e9 := Prod.mk.inj (Option.some.inj hM)
      exact W.zret (ty := .boolean) (v := 1) hx hb hr rfl (fun t ht hW => ⟨⟨1, σ63, rfl, e9, by rw [ht]; exact hP, va_K.moved hW.alike hK, hD⟩, hS.F ht⟩) hS.2.2 d_O_mergeRuns_67
  intro K47
  refine lv_aload_n hx hb d_O_mergeRuns_0 rfl (lv_at hl 0 rfl) ?_
  obtain ⟨x1, y1, hq1, hM⟩ := bI_some hM
  refine va_calli (va_runV (As := []) (rest := []) ⟨hx, hb, hml, hown, hts⟩ (c_O_everySourceHasDummy l dC dI ad cs _ N σ hq1) (cwV 0 hts (goodV k_554 k_556 ks_O_everySourceHasDummy k_1 k_557) rfl rfl rfl ⟨rfl, by decide, by decide, by decide +kernel⟩ ⟨Nat.le_of_ble_eq_true rfl, Nat.le_of_ble_eq_true rfl⟩) ⟨blindX, va_recv hK hP rfl (g_O), payX hP hK hD hN⟩ rfl rfl hl.1 rfl (lv_room (Nat.le_of_ble_eq_true rfl)) d_O_mergeRuns_1 ⟨Nat.zero_le _, Nat.zero_le _⟩) hS (fun q h0 h => absurd h0 (Nat.not_lt.mpr h)) (fun q h => hA q (Nat.le_trans hS.1 h)) (fun r1 u t H locs ht hvm hpost hB hz1 hk1 hS => ?_)
  obtain ⟨e1, e2⟩ := hpost
  subst e1
  subst e2
  have hP := keepP hP hk1
  refine lv_if_eq (tgt := 19) hx hb d_O_mergeRuns_4 (by decide) (fun h4 => ?_) (fun h4 => ?_)
  · rw [if_pos h4] at hM
    refine lv_aload_n hx hb d_O_mergeRuns_19 rfl (lv_at hl 0 rfl) ?_
    have hF1 := free_all hD hS hA
    obtain ⟨x20, y20, hq20, hM⟩ := bI_some hM
    refine va_calli (va_runV (As := []) (rest := []) ⟨hx, hb, hml, hown, hts⟩ (c_O_sourcesCanBeRead l dC dI ad cs _ N σ hq20) (cwV 0 hts (goodV k_562 k_564 ks_O_sourcesCanBeRead k_1 k_565) rfl rfl rfl ⟨rfl, by decide, by decide, by decide +kernel⟩ ⟨Nat.le_of_ble_eq_true rfl, Nat.le_of_ble_eq_true rfl⟩) ⟨blindX, va_recv hK hP rfl (g_O), payX hP hK hD hN⟩ rfl rfl hl.1 rfl (lv_room (Nat.le_of_ble_eq_true rfl)) d_O_mergeRuns_20 ⟨Nat.zero_le _, Nat.zero_le _⟩) hS (fun q _ h => hF1 q h) hF1 (fun r20 σ20 t H locs ht hvm hpost hB hz1 hk1 hS => ?_)
    obtain ⟨e1, e2⟩ := hpost
    subst e1
    subst e2
    obtain ⟨hP1, hK1, hD1⟩ := hB
    rw [ht] at hP1
    have hP := hP1
    have hD := hD1.weaken (fun _ _ _ h => hF1 _ h)
    refine lv_if_eq (tgt := 33) hx hb d_O_mergeRuns_23 (by decide) (fun h23 => ?_) (fun h23 => ?_)
    · rw [if_pos h23] at hM
      refine lv_iconst (v := 0) hx hb d_O_mergeRuns_33 (by decide) ?_
      have e9 := Prod.mk.inj (Option.some.inj hM)
      exact W.zret (ty := .boolean) (v := 0) hx hb hr rfl (fun t ht hW => ⟨⟨0, σ20, rfl, e9, by rw [ht]; exact hP, va_K.moved hW.alike hK, hD⟩, hS.F ht⟩) hS.2.2 d_O_mergeRuns_34
    · rw [if_neg h23] at hM
      refine lv_aload_n hx hb d_O_mergeRuns_26 rfl (lv_at hl 0 rfl) ?_
      have hF1 := free_all hD hS hA
      obtain ⟨x27, y27, hq27, hM⟩ := bI_some hM
      refine va_calli (va_runV (As := []) (rest := []) ⟨hx, hb, hml, hown, hts⟩ (c_O_writeMergedRun l dC dI ad cs _ N σ20 hq27) (cwV 0 hts (goodV k_570 k_572 ks_O_writeMergedRun k_1 k_573) rfl rfl rfl ⟨rfl, by decide, by decide, by decide +kernel⟩ ⟨Nat.le_of_ble_eq_true rfl, Nat.le_of_ble_eq_true rfl⟩) ⟨blindX, va_recv hK hP rfl (g_O), payX hP hK hD hN⟩ rfl rfl hl.1 rfl (lv_room (Nat.le_of_ble_eq_true rfl)) d_O_mergeRuns_27 ⟨Nat.zero_le _, Nat.zero_le _⟩) hS (fun q _ h => hF1 q h) hF1 (fun r27 σ27 t H locs ht hvm hpost hB hz1 hk1 hS => ?_)
      obtain ⟨e1, e2⟩ := hpost
      subst e1
      subst e2
      obtain ⟨hP1, hK1, hD1⟩ := hB
      rw [ht] at hP1
      have hP := hP1
      have hD := hD1.weaken (fun _ _ _ h => hF1 _ h)
      refine lv_if_ne (tgt := 35) hx hb d_O_mergeRuns_30 (by decide) (fun h30 => ?_) (fun h30 => ?_)
      · rw [if_neg h30] at hM
        refine lv_aload_n hx hb d_O_mergeRuns_35 rfl (lv_at hl 0 rfl) ?_
        refine lv_iconst (v := 3) hx hb d_O_mergeRuns_36 (by decide) ?_
        obtain ⟨x37, y37, hq37, hM⟩ := bR_some hM
        refine va_callr (va_runV (As := [.int 3]) (rest := []) ⟨hx, hb, hml, hown, hts⟩ (c_O_tapeInRole l dC dI ad cs _ N σ27 3 hq37) (cwV 1 hts (goodV k_305 k_307 ks_O_tapeInRole k_1 k_308) rfl rfl rfl ⟨rfl, by decide, by decide, by decide +kernel⟩ ⟨Nat.le_of_ble_eq_true rfl, Nat.le_of_ble_eq_true rfl⟩) ⟨blindX, va_recv hK hP rfl (g_O), payX hP hK hD hN⟩ rfl rfl hl.1 rfl (lv_room (Nat.le_of_ble_eq_true rfl)) d_O_mergeRuns_37 ⟨Nat.zero_le _, Nat.zero_le _⟩) hS (fun q h0 h => absurd h0 (Nat.not_lt.mpr h)) (fun q h => hA q (Nat.le_trans hS.1 h)) (fun u ra t H locs ht hvm hpost hB hz1 hk1 hS => ?_)
        subst hpost
        obtain ⟨rfl, hx37⟩ := hB
        have hP := keepP hP hk1
        refine lv_aload_n hx hb d_O_mergeRuns_40 rfl (lv_at hl 0 rfl) ?_
        refine va_get (D := (dC, dI)) (ci := 0) (v := .ref (ad 6 0)) (C := R_O) (T := F_O) (N := 12) hx hb htb in_O hown hK hP 0 (g_O) rfl 5 (by decide) (htb _ k_153) (fun _ h9 => h9) rfl d_O_mergeRuns_41 ?_
        have hF1 := free_all hD hS hA
        obtain ⟨y44, hq44, hM⟩ := bV_some hM
        refine va_callv (va_runV (As := [.ref (ad 6 0)]) (rest := []) ⟨hx, hb, hml, hown, hts⟩ (c_T_append l dC dI ad cs _ N σ27 x37 hx37 hq44) (cwV 1 hts (goodV k_543 k_544 k_545 k_7 k_546) rfl rfl rfl ⟨rfl, by decide, by decide, by decide +kernel⟩ ⟨Nat.le_of_ble_eq_true rfl, Nat.le_of_ble_eq_true rfl⟩) ⟨blindX, va_recv hK hP rfl (g_T hx37), payX hP hK hD hN⟩ rfl rfl hl.1 rfl (lv_room (Nat.le_of_ble_eq_true rfl)) d_O_mergeRuns_44 ⟨Nat.zero_le _, Nat.zero_le _⟩) hS (fun q _ h => hF1 q h) hF1 (fun σ44 t H locs ht hvm hpost hB hz1 hk1 hS => ?_)
        subst hpost
        obtain ⟨hP1, hK1, hD1⟩ := hB
        rw [ht] at hP1
        have hP := hP1
        have hD := hD1.weaken (fun _ _ _ h => hF1 _ h)
        exact K47 _ _ _ _ ⟨σ44, rfl, hM, lv_sub hl [0] rfl, hP, hD, hS⟩
      · rw [if_pos h30] at hM
        refine lv_iconst (v := 0) hx hb d_O_mergeRuns_33 (by decide) ?_
        have e9 := Prod.mk.inj (Option.some.inj hM)
        exact W.zret (ty := .boolean) (v := 0) hx hb hr rfl (fun t ht hW => ⟨⟨0, σ27, rfl, e9, by rw [ht]; exact hP, va_K.moved hW.alike hK, hD⟩, hS.F ht⟩) hS.2.2 d_O_mergeRuns_34
  · rw [if_neg h4] at hM
    refine lv_aload_n hx hb d_O_mergeRuns_7 rfl (lv_at hl 0 rfl) ?_
    refine lv_iconst (v := 3) hx hb d_O_mergeRuns_8 (by decide) ?_
    obtain ⟨x9, y9, hq9, hM⟩ := bR_some hM
    refine va_callr (va_runV (As := [.int 3]) (rest := []) ⟨hx, hb, hml, hown, hts⟩ (c_O_tapeInRole l dC dI ad cs _ N σ 3 hq9) (cwV 1 hts (goodV k_305 k_307 ks_O_tapeInRole k_1 k_308) rfl rfl rfl ⟨rfl, by decide, by decide, by decide +kernel⟩ ⟨Nat.le_of_ble_eq_true rfl, Nat.le_of_ble_eq_true rfl⟩) ⟨blindX, va_recv hK hP rfl (g_O), payX hP hK hD hN⟩ rfl rfl hl.1 rfl (lv_room (Nat.le_of_ble_eq_true rfl)) d_O_mergeRuns_9 ⟨Nat.zero_le _, Nat.zero_le _⟩) hS (fun q h0 h => absurd h0 (Nat.not_lt.mpr h)) (fun q h => hA q (Nat.le_trans hS.1 h)) (fun u ra t H locs ht hvm hpost hB hz1 hk1 hS => ?_)
    subst hpost
    obtain ⟨rfl, hx9⟩ := hB
    have hP := keepP hP hk1
    refine lv_iconst (v := 1) hx hb d_O_mergeRuns_12 (by decide) ?_
    have hF1 := free_all hD hS hA
    obtain ⟨y13, hq13, hM⟩ := bV_some hM
    refine va_callv (va_runV (As := [.int 1]) (rest := []) ⟨hx, hb, hml, hown, hts⟩ (c_T_addDummies l dC dI ad cs _ N σ x9 hx9 1 hq13) (cwV 1 hts (goodV k_542 k_465 k_466 k_7 k_467) rfl rfl rfl ⟨rfl, by decide, by decide, by decide +kernel⟩ ⟨Nat.le_of_ble_eq_true rfl, Nat.le_of_ble_eq_true rfl⟩) ⟨blindX, va_recv hK hP rfl (g_T hx9), payX hP hK hD hN⟩ rfl rfl hl.1 rfl (lv_room (Nat.le_of_ble_eq_true rfl)) d_O_mergeRuns_13 ⟨Nat.zero_le _, Nat.zero_le _⟩) hS (fun q _ h => hF1 q h) hF1 (fun σ13 t H locs ht hvm hpost hB hz1 hk1 hS => ?_)
    subst hpost
    obtain ⟨hP1, hK1, hD1⟩ := hB
    rw [ht] at hP1
    have hP := hP1
    have hD := hD1.weaken (fun _ _ _ h => hF1 _ h)
    refine lv_goto (tgt := 47) hx hb d_O_mergeRuns_16 (by decide) ?_
    exact K47 _ _ _ _ ⟨σ13, rfl, hM, lv_sub hl [0] rfl, hP, hD, hS⟩

theorem d_S_copyFrom_0 : decode b_S_copyFrom 0 = .ok (.aload_n 0, 1) := by decide +kernel
theorem d_S_copyFrom_1 : decode b_S_copyFrom 1 = .ok (.aload_n 1, 1) := by decide +kernel
theorem d_S_copyFrom_2 : decode b_S_copyFrom 2 = .ok (.getfield 19, 3) := by decide +kernel
theorem d_S_copyFrom_5 : decode b_S_copyFrom 5 = .ok (.putfield 19, 3) := by decide +kernel
theorem d_S_copyFrom_8 : decode b_S_copyFrom 8 = .ok (.aload_n 0, 1) := by decide +kernel
theorem d_S_copyFrom_9 : decode b_S_copyFrom 9 = .ok (.aload_n 1, 1) := by decide +kernel
theorem d_S_copyFrom_10 : decode b_S_copyFrom 10 = .ok (.getfield 23, 3) := by decide +kernel
theorem d_S_copyFrom_13 : decode b_S_copyFrom 13 = .ok (.putfield 23, 3) := by decide +kernel
theorem d_S_copyFrom_16 : decode b_S_copyFrom 16 = .ok (.iconst 0, 1) := by decide +kernel
theorem d_S_copyFrom_17 : decode b_S_copyFrom 17 = .ok (.istore_n 2, 1) := by decide +kernel
theorem d_S_copyFrom_18 : decode b_S_copyFrom 18 = .ok (.iload_n 2, 1) := by decide +kernel
theorem d_S_copyFrom_19 : decode b_S_copyFrom 19 = .ok (.aload_n 0, 1) := by decide +kernel
theorem d_S_copyFrom_20 : decode b_S_copyFrom 20 = .ok (.getfield 19, 3) := by decide +kernel
theorem d_S_copyFrom_23 : decode b_S_copyFrom 23 = .ok (.if_icmp .ge 33, 3) := by decide +kernel
theorem d_S_copyFrom_26 : decode b_S_copyFrom 26 = .ok (.aload_n 0, 1) := by decide +kernel
theorem d_S_copyFrom_27 : decode b_S_copyFrom 27 = .ok (.getfield 9, 3) := by decide +kernel
theorem d_S_copyFrom_30 : decode b_S_copyFrom 30 = .ok (.iload_n 2, 1) := by decide +kernel
theorem d_S_copyFrom_31 : decode b_S_copyFrom 31 = .ok (.aload_n 1, 1) := by decide +kernel
theorem d_S_copyFrom_32 : decode b_S_copyFrom 32 = .ok (.getfield 9, 3) := by decide +kernel
theorem d_S_copyFrom_35 : decode b_S_copyFrom 35 = .ok (.iload_n 2, 1) := by decide +kernel
theorem d_S_copyFrom_36 : decode b_S_copyFrom 36 = .ok (.iaload, 1) := by decide +kernel
theorem d_S_copyFrom_37 : decode b_S_copyFrom 37 = .ok (.iastore, 1) := by decide +kernel
theorem d_S_copyFrom_38 : decode b_S_copyFrom 38 = .ok (.aload_n 0, 1) := by decide +kernel
theorem d_S_copyFrom_39 : decode b_S_copyFrom 39 = .ok (.getfield 15, 3) := by decide +kernel
theorem d_S_copyFrom_42 : decode b_S_copyFrom 42 = .ok (.iload_n 2, 1) := by decide +kernel
theorem d_S_copyFrom_43 : decode b_S_copyFrom 43 = .ok (.aload_n 1, 1) := by decide +kernel
theorem d_S_copyFrom_44 : decode b_S_copyFrom 44 = .ok (.getfield 15, 3) := by decide +kernel
theorem d_S_copyFrom_47 : decode b_S_copyFrom 47 = .ok (.iload_n 2, 1) := by decide +kernel
theorem d_S_copyFrom_48 : decode b_S_copyFrom 48 = .ok (.baload, 1) := by decide +kernel
theorem d_S_copyFrom_49 : decode b_S_copyFrom 49 = .ok (.bastore, 1) := by decide +kernel
theorem d_S_copyFrom_50 : decode b_S_copyFrom 50 = .ok (.iinc 2 1, 3) := by decide +kernel
theorem d_S_copyFrom_53 : decode b_S_copyFrom 53 = .ok (.goto (-35), 3) := by decide +kernel
theorem d_S_copyFrom_56 : decode b_S_copyFrom 56 = .ok (.return_, 1) := by decide +kernel
def m_S_copyFrom_18 (N : Nat) (j : Nat) (j2 : Nat) : Nat → SX → Int32 → Option (SX)
  | 0, _, _ => none
  | n18 + 1, σ, v2 =>
    (if ((σ j).1 1) ≤ v2 then some σ else (if inb v2 8 = true then (if inb v2 8 = true then (if inb v2 8 = true then (if inb v2 8 = true then m_S_copyFrom_18 N j j2 n18 (w3 (w3 σ j 1 v2 ((σ j2).2 1 v2.toNatClampNeg)) j 2 v2 (vp_nar .boolean (((w3 σ j 1 v2 ((σ j2).2 1 v2.toNatClampNeg)) j2).2 2 v2.toNatClampNeg))) (v2 + 1) else none) else none) else none) else none))

def m_S_copyFrom (N : Nat) (σ : SX) (j : Nat) (j2 : Nat) : Option (SX) :=
  m_S_copyFrom_18 N j j2 N (w1 (w1 σ j 1 ((σ j2).1 1)) j 2 (((w1 σ j 1 ((σ j2).1 1)) j2).1 2)) 0

set_option maxHeartbeats 4000000 in
set_option maxRecDepth 100000 in
theorem c_S_copyFrom (l : Launch) (dC : Nat → ClassId) (dI : Nat → Nat → Nat) (ad : Nat → Nat → Nat) (cs : Nat → ClassId) (sz N : Nat) (σ : SX) (j : Nat) (hj : j = 2 ∨ j = 3) (j2 : Nat) (hj2 : j2 = 2 ∨ j2 = 3) {σ0 : SX} (hM : m_S_copyFrom N σ j j2 = some σ0) : Met l y_S_copyFrom (wd y_S_copyFrom b_S_copyFrom 3 none) ({ frames := 0, cells := 0, slots := 0, locals := 0 }) (va_Pc [.ref (ad j 0), .ref (ad j2 0)] (preX dC dI ad cs sz σ)) (va_Qv (fun (u : SX) => u = σ0) (atX dC dI ad cs (va_A (wX ad cs σ) sz)) (va_A (wX ad cs σ) sz)) 0 0 (va_A (wX ad cs σ) sz) := by
  refine Met.ofW (cc := b_S_copyFrom) (maxL := 3) (ret := none) (by decide) rfl ?_
  intro p e s m args below meth c s₁ B hml hv
  obtain ⟨rfl, hsz, hP, hK, hD0, hN⟩ := hv
  have hx := B.exec
  have hb := B.bytes
  have hr := B.returns
  have hts := atoms_spec (ws := (wd y_S_copyFrom b_S_copyFrom 3 none)) B.pre
  have htb : ∀ w ∈ tb, w.before _ s = true := fun w h => hts w (List.mem_cons_of_mem _ h)
  have hown : s.vm.findClass R_S = some m.cls := findClass_of_methodNamed B.named
  have hlocks := B.notSynchronized
  subst hsz
  have hD := hD0.self (sz := s.heap.size)
  generalize hAe : va_A (wX ad cs σ) s.heap.size = A at hD ⊢
  have hA : ∀ q : Nat, s.heap.size ≤ q → A q := fun q h => by rw [← hAe]; exact Or.inr h
  have hS : va_S A s.heap s.heap [] := va_S.rf
  have hP : va_P (dC, dI) classes (wX ad cs σ) s.heap := hP
  have hl := lv_entry ([.ref (ad j 0), .ref (ad j2 0)]) (n := 3) (Nat.le_of_ble_eq_true rfl)
  rw [lg_entry_eq]
  generalize (lg_sl ([.ref (ad j 0), .ref (ad j2 0)]) ++ List.replicate (3 - (lg_sl ([.ref (ad j 0), .ref (ad j2 0)])).length) Slot.unset).toArray = ls at hl ⊢
  have hl : lv_has ls 3 [(0, .ref (ad j 0)), (1, .ref (ad j2 0))] := hl
  rw [m_S_copyFrom] at hM
  refine W_loop (pc := 18) (fun n18 H locs ls st => ∃ (σ : SX) (v2 : Int32), st = [] ∧ m_S_copyFrom_18 N j j2 n18 σ v2 = some σ0 ∧ lv_has ls 3 [(0, .ref (ad j 0)), (1, .ref (ad j2 0)), (2, .int v2)] ∧ va_P (dC, dI) classes (wX ad cs σ) H ∧ va_D A (wX ad cs σ) ∧ va_S A s.heap H locs) ?_ ?_ ?_
  · rintro H locs ls st ⟨σ, v2, -, hM, -⟩
    rw [m_S_copyFrom_18] at hM; cases hM
  · intro n18 K18 H locs ls st hI
    obtain ⟨σ, v2, rfl, hM, hl, hP, hD, hS⟩ := hI
    rw [m_S_copyFrom_18] at hM
    refine lv_iload_n hx hb d_S_copyFrom_18 rfl (lv_at hl 2 rfl) ?_
    refine lv_aload_n hx hb d_S_copyFrom_19 rfl (lv_at hl 0 rfl) ?_
    refine va_get (D := (dC, dI)) (ci := 2) (v := .int ((σ j).1 1)) (C := R_S) (T := F_S) (N := 5) hx hb htb in_S hown hK hP (3 * j + 1) (g_S hj) rfl 3 (by decide) (htb _ k_110) (fun _ h9 => h9) rfl d_S_copyFrom_20 ?_
    refine lv_icmp_ge (tgt := 56) hx hb d_S_copyFrom_23 (by decide) (fun h23 => ?_) (fun h23 => ?_)
    · rw [if_pos h23] at hM
      have e9 := Option.some.inj hM
      exact W.vret hx hb hr (fun t ht hW => ⟨⟨σ, rfl, e9, by rw [ht]; exact hP, va_K.moved hW.alike hK, hD⟩, hS.F ht⟩) hS.2.2 d_S_copyFrom_56
    · rw [if_neg h23] at hM
      refine lv_aload_n hx hb d_S_copyFrom_26 rfl (lv_at hl 0 rfl) ?_
      refine va_get (D := (dC, dI)) (ci := 2) (v := .ref (ad j 1)) (C := R_S) (T := F_S) (N := 5) hx hb htb in_S hown hK hP (3 * j + 1) (g_S hj) rfl 1 (by decide) (htb _ k_108) (fun _ h9 => h9) rfl d_S_copyFrom_27 ?_
      refine lv_iload_n hx hb d_S_copyFrom_30 rfl (lv_at hl 2 rfl) ?_
      refine lv_aload_n hx hb d_S_copyFrom_31 rfl (lv_at hl 1 rfl) ?_
      refine va_get (D := (dC, dI)) (ci := 2) (v := .ref (ad j2 1)) (C := R_S) (T := F_S) (N := 5) hx hb htb in_S hown hK hP (3 * j2 + 1) (g_S hj2) rfl 1 (by decide) (htb _ k_108) (fun _ h9 => h9) rfl d_S_copyFrom_32 ?_
      refine lv_iload_n hx hb d_S_copyFrom_35 rfl (lv_at hl 2 rfl) ?_
      have hg36 := gd_c hM
      have hM := gd_v hM
      refine va_iald hx hb hK hP (3 * j2 + 2) 0 (g_S_a1 hj2) rfl (inb_in hg36) d_S_copyFrom_36 ?_
      have hg37 := gd_c hM
      have hM := gd_v hM
      refine va_iast (i := v2) (x := ((σ j2).2 1 v2.toNatClampNeg)) hx hb hK hP hD hS (3 * j + 2) 0 (g_S_a1 hj) rfl (inb_in hg37) d_S_copyFrom_37 (fun H locs hP hD hS => ?_)
      have hP := P_eq (t_S_1 hj) hP
      have hD := D_eq (t_S_1 hj) hD
      refine lv_aload_n hx hb d_S_copyFrom_38 rfl (lv_at hl 0 rfl) ?_
      refine va_get (D := (dC, dI)) (ci := 2) (v := .ref (ad j 2)) (C := R_S) (T := F_S) (N := 5) hx hb htb in_S hown hK hP (3 * j + 1) (g_S hj) rfl 2 (by decide) (htb _ k_109) (fun _ h9 => h9) rfl d_S_copyFrom_39 ?_
      refine lv_iload_n hx hb d_S_copyFrom_42 rfl (lv_at hl 2 rfl) ?_
      refine lv_aload_n hx hb d_S_copyFrom_43 rfl (lv_at hl 1 rfl) ?_
      refine va_get (D := (dC, dI)) (ci := 2) (v := .ref (ad j2 2)) (C := R_S) (T := F_S) (N := 5) hx hb htb in_S hown hK hP (3 * j2 + 1) (g_S hj2) rfl 2 (by decide) (htb _ k_109) (fun _ h9 => h9) rfl d_S_copyFrom_44 ?_
      refine lv_iload_n hx hb d_S_copyFrom_47 rfl (lv_at hl 2 rfl) ?_
      have hg48 := gd_c hM
      have hM := gd_v hM
      refine va_zald hx hb hK hP (3 * j2 + 3) 1 (g_S_a2 hj2) rfl (inb_in hg48) d_S_copyFrom_48 ?_
      have hg49 := gd_c hM
      have hM := gd_v hM
      refine va_zast (i := v2) (x := (((w3 σ j 1 v2 ((σ j2).2 1 v2.toNatClampNeg)) j2).2 2 v2.toNatClampNeg)) hx hb hK hP hD hS (3 * j + 3) 1 (g_S_a2 hj) rfl (inb_in hg49) d_S_copyFrom_49 (fun H locs hP hD hS => ?_)
      have hP := P_eq (t_S_2 hj) hP
      have hD := D_eq (t_S_2 hj) hD
      refine lv_iinc (k := 2) (v := (v2 + 1)) hx hb d_S_copyFrom_50 hl rfl rfl (by decide) (lv' := [(2, .int (v2 + 1)), (0, .ref (ad j 0)), (1, .ref (ad j2 0))]) rfl (fun ls hl => ?_)
      refine lv_goto (tgt := 18) hx hb d_S_copyFrom_53 (by decide) ?_
      exact K18 _ _ _ _ ⟨(w3 (w3 σ j 1 v2 ((σ j2).2 1 v2.toNatClampNeg)) j 2 v2 (vp_nar .boolean (((w3 σ j 1 v2 ((σ j2).2 1 v2.toNatClampNeg)) j2).2 2 v2.toNatClampNeg))), (v2 + 1), rfl, hM, lv_sub hl [1, 2, 0] rfl, hP, hD, hS⟩
  intro K18
  refine lv_aload_n hx hb d_S_copyFrom_0 rfl (lv_at hl 0 rfl) ?_
  refine lv_aload_n hx hb d_S_copyFrom_1 rfl (lv_at hl 1 rfl) ?_
  refine va_get (D := (dC, dI)) (ci := 2) (v := .int ((σ j2).1 1)) (C := R_S) (T := F_S) (N := 5) hx hb htb in_S hown hK hP (3 * j2 + 1) (g_S hj2) rfl 3 (by decide) (htb _ k_110) (fun _ h9 => h9) rfl d_S_copyFrom_2 ?_
  refine va_put (D := (dC, dI)) (ci := 2) (v := .int ((σ j2).1 1)) (ty := .int) (C := R_S) (T := F_S) (N := 5) hx hb htb in_S ft_S ft_S_ok n_S hown hK hP hD hS (3 * j + 1) (g_S hj) rfl 3 (by decide) (htb _ k_110) (fun _ h9 => h9) rfl (by decide +kernel) rfl rfl (Nat.le_of_ble_eq_true rfl) d_S_copyFrom_5 (fun H locs hP hD hS => ?_)
  have hP := P_eq (s_S_1 hj) hP
  have hD := D_eq (s_S_1 hj) hD
  refine lv_aload_n hx hb d_S_copyFrom_8 rfl (lv_at hl 0 rfl) ?_
  refine lv_aload_n hx hb d_S_copyFrom_9 rfl (lv_at hl 1 rfl) ?_
  refine va_get (D := (dC, dI)) (ci := 2) (v := .int (((w1 σ j 1 ((σ j2).1 1)) j2).1 2)) (C := R_S) (T := F_S) (N := 5) hx hb htb in_S hown hK hP (3 * j2 + 1) (g_S hj2) rfl 4 (by decide) (htb _ k_111) (fun _ h9 => h9) rfl d_S_copyFrom_10 ?_
  refine va_put (D := (dC, dI)) (ci := 2) (v := .int (((w1 σ j 1 ((σ j2).1 1)) j2).1 2)) (ty := .int) (C := R_S) (T := F_S) (N := 5) hx hb htb in_S ft_S ft_S_ok n_S hown hK hP hD hS (3 * j + 1) (g_S hj) rfl 4 (by decide) (htb _ k_111) (fun _ h9 => h9) rfl (by decide +kernel) rfl rfl (Nat.le_of_ble_eq_true rfl) d_S_copyFrom_13 (fun H locs hP hD hS => ?_)
  have hP := P_eq (s_S_2 hj) hP
  have hD := D_eq (s_S_2 hj) hD
  refine lv_iconst (v := 0) hx hb d_S_copyFrom_16 (by decide) ?_
  refine lv_istore_n hx hb d_S_copyFrom_17 rfl hl (by decide) (lv' := [(2, .int 0), (0, .ref (ad j 0)), (1, .ref (ad j2 0))]) rfl (fun ls hl => ?_)
  exact K18 N _ _ _ _ ⟨(w1 (w1 σ j 1 ((σ j2).1 1)) j 2 (((w1 σ j 1 ((σ j2).1 1)) j2).1 2)), 0, rfl, hM, lv_sub hl [1, 2, 0] rfl, hP, hD, hS⟩

theorem d_S_slotOfFirst_0 : decode b_S_slotOfFirst 0 = .ok (.iconst (-1), 1) := by decide +kernel
theorem d_S_slotOfFirst_1 : decode b_S_slotOfFirst 1 = .ok (.istore_n 2, 1) := by decide +kernel
theorem d_S_slotOfFirst_2 : decode b_S_slotOfFirst 2 = .ok (.iconst 0, 1) := by decide +kernel
theorem d_S_slotOfFirst_3 : decode b_S_slotOfFirst 3 = .ok (.istore_n 3, 1) := by decide +kernel
theorem d_S_slotOfFirst_4 : decode b_S_slotOfFirst 4 = .ok (.iload_n 3, 1) := by decide +kernel
theorem d_S_slotOfFirst_5 : decode b_S_slotOfFirst 5 = .ok (.aload_n 0, 1) := by decide +kernel
theorem d_S_slotOfFirst_6 : decode b_S_slotOfFirst 6 = .ok (.getfield 19, 3) := by decide +kernel
theorem d_S_slotOfFirst_9 : decode b_S_slotOfFirst 9 = .ok (.if_icmp .ge 44, 3) := by decide +kernel
theorem d_S_slotOfFirst_12 : decode b_S_slotOfFirst 12 = .ok (.aload_n 0, 1) := by decide +kernel
theorem d_S_slotOfFirst_13 : decode b_S_slotOfFirst 13 = .ok (.getfield 15, 3) := by decide +kernel
theorem d_S_slotOfFirst_16 : decode b_S_slotOfFirst 16 = .ok (.iload_n 3, 1) := by decide +kernel
theorem d_S_slotOfFirst_17 : decode b_S_slotOfFirst 17 = .ok (.baload, 1) := by decide +kernel
theorem d_S_slotOfFirst_18 : decode b_S_slotOfFirst 18 = .ok (.ifCond .ne 29, 3) := by decide +kernel
theorem d_S_slotOfFirst_21 : decode b_S_slotOfFirst 21 = .ok (.iload_n 2, 1) := by decide +kernel
theorem d_S_slotOfFirst_22 : decode b_S_slotOfFirst 22 = .ok (.iconst (-1), 1) := by decide +kernel
theorem d_S_slotOfFirst_23 : decode b_S_slotOfFirst 23 = .ok (.if_icmp .eq 22, 3) := by decide +kernel
theorem d_S_slotOfFirst_26 : decode b_S_slotOfFirst 26 = .ok (.aload_n 1, 1) := by decide +kernel
theorem d_S_slotOfFirst_27 : decode b_S_slotOfFirst 27 = .ok (.aload_n 0, 1) := by decide +kernel
theorem d_S_slotOfFirst_28 : decode b_S_slotOfFirst 28 = .ok (.getfield 9, 3) := by decide +kernel
theorem d_S_slotOfFirst_31 : decode b_S_slotOfFirst 31 = .ok (.iload_n 3, 1) := by decide +kernel
theorem d_S_slotOfFirst_32 : decode b_S_slotOfFirst 32 = .ok (.iaload, 1) := by decide +kernel
theorem d_S_slotOfFirst_33 : decode b_S_slotOfFirst 33 = .ok (.aload_n 0, 1) := by decide +kernel
theorem d_S_slotOfFirst_34 : decode b_S_slotOfFirst 34 = .ok (.getfield 9, 3) := by decide +kernel
theorem d_S_slotOfFirst_37 : decode b_S_slotOfFirst 37 = .ok (.iload_n 2, 1) := by decide +kernel
theorem d_S_slotOfFirst_38 : decode b_S_slotOfFirst 38 = .ok (.iaload, 1) := by decide +kernel
theorem d_S_slotOfFirst_39 : decode b_S_slotOfFirst 39 = .ok (.invokevirtual 41, 3) := by decide +kernel
theorem d_S_slotOfFirst_42 : decode b_S_slotOfFirst 42 = .ok (.ifCond .eq 5, 3) := by decide +kernel
theorem d_S_slotOfFirst_45 : decode b_S_slotOfFirst 45 = .ok (.iload_n 3, 1) := by decide +kernel
theorem d_S_slotOfFirst_46 : decode b_S_slotOfFirst 46 = .ok (.istore_n 2, 1) := by decide +kernel
theorem d_S_slotOfFirst_47 : decode b_S_slotOfFirst 47 = .ok (.iinc 3 1, 3) := by decide +kernel
theorem d_S_slotOfFirst_50 : decode b_S_slotOfFirst 50 = .ok (.goto (-46), 3) := by decide +kernel
theorem d_S_slotOfFirst_53 : decode b_S_slotOfFirst 53 = .ok (.iload_n 2, 1) := by decide +kernel
theorem d_S_slotOfFirst_54 : decode b_S_slotOfFirst 54 = .ok (.ireturn, 1) := by decide +kernel
def m_S_slotOfFirst_4 (N : Nat) (j : Nat) : Nat → SX → Int32 → Int32 → Option (Int32 × SX)
  | 0, _, _, _ => none
  | n4 + 1, σ, v2, v3 =>
    (if ((σ j).1 1) ≤ v3 then some (v2, σ) else (if inb v3 8 = true then (if ((σ j).2 2 v3.toNatClampNeg) = 0 then (if v2 = (-1) then m_S_slotOfFirst_4 N j n4 σ v3 (v3 + 1) else (if inb v3 8 = true then (if inb v2 8 = true then (bI (m_D_comesBefore N σ ((σ j).2 1 v3.toNatClampNeg) ((σ j).2 1 v2.toNatClampNeg)) fun r39 σ39 => (if r39 = 0 then m_S_slotOfFirst_4 N j n4 σ v2 (v3 + 1) else m_S_slotOfFirst_4 N j n4 σ v3 (v3 + 1))) else none) else none)) else m_S_slotOfFirst_4 N j n4 σ v2 (v3 + 1)) else none))

def m_S_slotOfFirst (N : Nat) (σ : SX) (j : Nat) : Option (Int32 × SX) :=
  m_S_slotOfFirst_4 N j N σ (-1) 0

set_option maxHeartbeats 4000000 in
set_option maxRecDepth 100000 in
theorem c_S_slotOfFirst (l : Launch) (dC : Nat → ClassId) (dI : Nat → Nat → Nat) (ad : Nat → Nat → Nat) (cs : Nat → ClassId) (sz N : Nat) (σ : SX) (j : Nat) (hj : j = 2 ∨ j = 3) {r0 : Int32} {σ0 : SX} (hM : m_S_slotOfFirst N σ j = some (r0, σ0)) : Met l y_S_slotOfFirst (wd y_S_slotOfFirst b_S_slotOfFirst 4 (some .int)) ({ frames := 3, cells := 0, slots := 0, locals := 70 }) (va_Pc [.ref (ad j 0), .ref (ad 1 0)] (preX dC dI ad cs sz σ)) (va_Qi (fun (r : Int32) (_ : Unit) => r = r0 ∧ σ = σ0) (fun _ _ => True) (fun q => sz ≤ q)) 0 0 (fun q => sz ≤ q) := by
  refine Met.ofW (cc := b_S_slotOfFirst) (maxL := 4) (ret := (some .int)) (by decide) rfl ?_
  intro p e s m args below meth c s₁ B hml hv
  obtain ⟨rfl, hsz, hP, hK, hD0, hN⟩ := hv
  have hx := B.exec
  have hb := B.bytes
  have hr := B.returns
  have hts := atoms_spec (ws := (wd y_S_slotOfFirst b_S_slotOfFirst 4 (some .int))) B.pre
  have htb : ∀ w ∈ tb, w.before _ s = true := fun w h => hts w (List.mem_cons_of_mem _ h)
  have hown : s.vm.findClass R_S = some m.cls := findClass_of_methodNamed B.named
  have hlocks := B.notSynchronized
  subst hsz
  have hD := hD0
  have hA : ∀ q : Nat, s.heap.size ≤ q → s.heap.size ≤ q := fun q h => h
  have hS : va_S (fun q => s.heap.size ≤ q) s.heap s.heap [] := va_S.rf
  have hP : va_P (dC, dI) classes (wX ad cs σ) s.heap := hP
  have hl := lv_entry ([.ref (ad j 0), .ref (ad 1 0)]) (n := 4) (Nat.le_of_ble_eq_true rfl)
  rw [lg_entry_eq]
  generalize (lg_sl ([.ref (ad j 0), .ref (ad 1 0)]) ++ List.replicate (4 - (lg_sl ([.ref (ad j 0), .ref (ad 1 0)])).length) Slot.unset).toArray = ls at hl ⊢
  have hl : lv_has ls 4 [(0, .ref (ad j 0)), (1, .ref (ad 1 0))] := hl
  rw [m_S_slotOfFirst] at hM
  refine W_loop (pc := 4) (fun n4 H locs ls st => ∃ (v2 : Int32) (v3 : Int32), st = [] ∧ m_S_slotOfFirst_4 N j n4 σ v2 v3 = some (r0, σ0) ∧ lv_has ls 4 [(0, .ref (ad j 0)), (1, .ref (ad 1 0)), (2, .int v2), (3, .int v3)] ∧ va_P (dC, dI) classes (wX ad cs σ) H ∧ va_D (fun _ => True) (wX ad cs σ) ∧ va_S (fun q => s.heap.size ≤ q) s.heap H locs) ?_ ?_ ?_
  · rintro H locs ls st ⟨v2, v3, -, hM, -⟩
    rw [m_S_slotOfFirst_4] at hM; cases hM
  · intro n4 K4 H locs ls st hI
    obtain ⟨v2, v3, rfl, hM, hl, hP, hD, hS⟩ := hI
    rw [m_S_slotOfFirst_4] at hM
    refine lv_iload_n hx hb d_S_slotOfFirst_4 rfl (lv_at hl 3 rfl) ?_
    refine lv_aload_n hx hb d_S_slotOfFirst_5 rfl (lv_at hl 0 rfl) ?_
    refine va_get (D := (dC, dI)) (ci := 2) (v := .int ((σ j).1 1)) (C := R_S) (T := F_S) (N := 5) hx hb htb in_S hown hK hP (3 * j + 1) (g_S hj) rfl 3 (by decide) (htb _ k_110) (fun _ h9 => h9) rfl d_S_slotOfFirst_6 ?_
    refine lv_icmp_ge (tgt := 53) hx hb d_S_slotOfFirst_9 (by decide) (fun h9 => ?_) (fun h9 => ?_)
    · rw [if_pos h9] at hM
      refine lv_iload_n hx hb d_S_slotOfFirst_53 rfl (lv_at hl 2 rfl) ?_
      have e9 := Prod.mk.inj (Option.some.inj hM)
      exact W.iret (v := v2) hx hb hr (fun t ht hW => ⟨⟨v2, (), rfl, e9, trivial⟩, hS.F ht⟩) hS.2.2 d_S_slotOfFirst_54
    · rw [if_neg h9] at hM
      refine lv_aload_n hx hb d_S_slotOfFirst_12 rfl (lv_at hl 0 rfl) ?_
      refine va_get (D := (dC, dI)) (ci := 2) (v := .ref (ad j 2)) (C := R_S) (T := F_S) (N := 5) hx hb htb in_S hown hK hP (3 * j + 1) (g_S hj) rfl 2 (by decide) (htb _ k_109) (fun _ h9 => h9) rfl d_S_slotOfFirst_13 ?_
      refine lv_iload_n hx hb d_S_slotOfFirst_16 rfl (lv_at hl 3 rfl) ?_
      have hg17 := gd_c hM
      have hM := gd_v hM
      refine va_zald hx hb hK hP (3 * j + 3) 1 (g_S_a2 hj) rfl (inb_in hg17) d_S_slotOfFirst_17 ?_
      refine lv_if_ne (tgt := 47) hx hb d_S_slotOfFirst_18 (by decide) (fun h18 => ?_) (fun h18 => ?_)
      · rw [if_neg h18] at hM
        refine lv_iinc (k := 3) (v := (v3 + 1)) hx hb d_S_slotOfFirst_47 hl rfl rfl (by decide) (lv' := [(3, .int (v3 + 1)), (0, .ref (ad j 0)), (1, .ref (ad 1 0)), (2, .int v2)]) rfl (fun ls hl => ?_)
        refine lv_goto (tgt := 4) hx hb d_S_slotOfFirst_50 (by decide) ?_
        exact K4 _ _ _ _ ⟨v2, (v3 + 1), rfl, hM, lv_sub hl [1, 2, 3, 0] rfl, hP, hD, hS⟩
      · rw [if_pos h18] at hM
        refine lv_iload_n hx hb d_S_slotOfFirst_21 rfl (lv_at hl 2 rfl) ?_
        refine lv_iconst (v := (-1)) hx hb d_S_slotOfFirst_22 (by decide) ?_
        refine lv_icmp_eq (tgt := 45) hx hb d_S_slotOfFirst_23 (by decide) (fun h23 => ?_) (fun h23 => ?_)
        · rw [if_pos h23] at hM
          refine lv_iload_n hx hb d_S_slotOfFirst_45 rfl (lv_at hl 3 rfl) ?_
          refine lv_istore_n hx hb d_S_slotOfFirst_46 rfl hl (by decide) (lv' := [(2, .int v3), (0, .ref (ad j 0)), (1, .ref (ad 1 0)), (3, .int v3)]) rfl (fun ls hl => ?_)
          refine lv_iinc (k := 3) (v := (v3 + 1)) hx hb d_S_slotOfFirst_47 hl rfl rfl (by decide) (lv' := [(3, .int (v3 + 1)), (2, .int v3), (0, .ref (ad j 0)), (1, .ref (ad 1 0))]) rfl (fun ls hl => ?_)
          refine lv_goto (tgt := 4) hx hb d_S_slotOfFirst_50 (by decide) ?_
          exact K4 _ _ _ _ ⟨v3, (v3 + 1), rfl, hM, lv_sub hl [2, 3, 1, 0] rfl, hP, hD, hS⟩
        · rw [if_neg h23] at hM
          refine lv_aload_n hx hb d_S_slotOfFirst_26 rfl (lv_at hl 1 rfl) ?_
          refine lv_aload_n hx hb d_S_slotOfFirst_27 rfl (lv_at hl 0 rfl) ?_
          refine va_get (D := (dC, dI)) (ci := 2) (v := .ref (ad j 1)) (C := R_S) (T := F_S) (N := 5) hx hb htb in_S hown hK hP (3 * j + 1) (g_S hj) rfl 1 (by decide) (htb _ k_108) (fun _ h9 => h9) rfl d_S_slotOfFirst_28 ?_
          refine lv_iload_n hx hb d_S_slotOfFirst_31 rfl (lv_at hl 3 rfl) ?_
          have hg32 := gd_c hM
          have hM := gd_v hM
          refine va_iald hx hb hK hP (3 * j + 2) 0 (g_S_a1 hj) rfl (inb_in hg32) d_S_slotOfFirst_32 ?_
          refine lv_aload_n hx hb d_S_slotOfFirst_33 rfl (lv_at hl 0 rfl) ?_
          refine va_get (D := (dC, dI)) (ci := 2) (v := .ref (ad j 1)) (C := R_S) (T := F_S) (N := 5) hx hb htb in_S hown hK hP (3 * j + 1) (g_S hj) rfl 1 (by decide) (htb _ k_108) (fun _ h9 => h9) rfl d_S_slotOfFirst_34 ?_
          refine lv_iload_n hx hb d_S_slotOfFirst_37 rfl (lv_at hl 2 rfl) ?_
          have hg38 := gd_c hM
          have hM := gd_v hM
          refine va_iald hx hb hK hP (3 * j + 2) 0 (g_S_a1 hj) rfl (inb_in hg38) d_S_slotOfFirst_38 ?_
          obtain ⟨x39, y39, hq39, hM⟩ := bI_some hM
          refine va_calli (va_runV (As := [.int ((σ j).2 1 v3.toNatClampNeg), .int ((σ j).2 1 v2.toNatClampNeg)]) (rest := []) ⟨hx, hb, hml, hown, hts⟩ (c_D_comesBefore l dC dI ad cs _ N σ ((σ j).2 1 v3.toNatClampNeg) ((σ j).2 1 v2.toNatClampNeg) hq39) (cwV 2 hts (goodV k_507 k_318 k_319 k_2 k_320) rfl rfl rfl ⟨rfl, by decide, by decide, by decide +kernel⟩ ⟨Nat.le_of_ble_eq_true rfl, Nat.le_of_ble_eq_true rfl⟩) ⟨blindX, va_recv hK hP rfl (g_D), payX hP hK hD hN⟩ rfl rfl hl.1 rfl (lv_room (Nat.le_of_ble_eq_true rfl)) d_S_slotOfFirst_39 ⟨Nat.zero_le _, Nat.zero_le _⟩) hS (fun q h0 h => absurd h0 (Nat.not_lt.mpr h)) (fun q h => hA q (Nat.le_trans hS.1 h)) (fun r39 u t H locs ht hvm hpost hB hz1 hk1 hS => ?_)
          obtain ⟨e1, e2⟩ := hpost
          subst e1
          subst e2
          have hP := keepP hP hk1
          refine lv_if_eq (tgt := 47) hx hb d_S_slotOfFirst_42 (by decide) (fun h42 => ?_) (fun h42 => ?_)
          · rw [if_pos h42] at hM
            refine lv_iinc (k := 3) (v := (v3 + 1)) hx hb d_S_slotOfFirst_47 hl rfl rfl (by decide) (lv' := [(3, .int (v3 + 1)), (0, .ref (ad j 0)), (1, .ref (ad 1 0)), (2, .int v2)]) rfl (fun ls hl => ?_)
            refine lv_goto (tgt := 4) hx hb d_S_slotOfFirst_50 (by decide) ?_
            exact K4 _ _ _ _ ⟨v2, (v3 + 1), rfl, hM, lv_sub hl [1, 2, 3, 0] rfl, hP, hD, hS⟩
          · rw [if_neg h42] at hM
            refine lv_iload_n hx hb d_S_slotOfFirst_45 rfl (lv_at hl 3 rfl) ?_
            refine lv_istore_n hx hb d_S_slotOfFirst_46 rfl hl (by decide) (lv' := [(2, .int v3), (0, .ref (ad j 0)), (1, .ref (ad 1 0)), (3, .int v3)]) rfl (fun ls hl => ?_)
            refine lv_iinc (k := 3) (v := (v3 + 1)) hx hb d_S_slotOfFirst_47 hl rfl rfl (by decide) (lv' := [(3, .int (v3 + 1)), (2, .int v3), (0, .ref (ad j 0)), (1, .ref (ad 1 0))]) rfl (fun ls hl => ?_)
            refine lv_goto (tgt := 4) hx hb d_S_slotOfFirst_50 (by decide) ?_
            exact K4 _ _ _ _ ⟨v3, (v3 + 1), rfl, hM, lv_sub hl [2, 3, 1, 0] rfl, hP, hD, hS⟩
  intro K4
  refine lv_iconst (v := (-1)) hx hb d_S_slotOfFirst_0 (by decide) ?_
  refine lv_istore_n hx hb d_S_slotOfFirst_1 rfl hl (by decide) (lv' := [(2, .int (-1)), (0, .ref (ad j 0)), (1, .ref (ad 1 0))]) rfl (fun ls hl => ?_)
  refine lv_iconst (v := 0) hx hb d_S_slotOfFirst_2 (by decide) ?_
  refine lv_istore_n hx hb d_S_slotOfFirst_3 rfl hl (by decide) (lv' := [(3, .int 0), (2, .int (-1)), (0, .ref (ad j 0)), (1, .ref (ad 1 0))]) rfl (fun ls hl => ?_)
  exact K4 N _ _ _ _ ⟨(-1), 0, rfl, hM, lv_sub hl [2, 3, 1, 0] rfl, hP, hD, hS⟩

theorem d_S_cardIn_0 : decode b_S_cardIn 0 = .ok (.iload_n 1, 1) := by decide +kernel
theorem d_S_cardIn_1 : decode b_S_cardIn 1 = .ok (.ifCond .lt 20, 3) := by decide +kernel
theorem d_S_cardIn_4 : decode b_S_cardIn 4 = .ok (.iload_n 1, 1) := by decide +kernel
theorem d_S_cardIn_5 : decode b_S_cardIn 5 = .ok (.aload_n 0, 1) := by decide +kernel
theorem d_S_cardIn_6 : decode b_S_cardIn 6 = .ok (.getfield 19, 3) := by decide +kernel
theorem d_S_cardIn_9 : decode b_S_cardIn 9 = .ok (.if_icmp .ge 12, 3) := by decide +kernel
theorem d_S_cardIn_12 : decode b_S_cardIn 12 = .ok (.aload_n 0, 1) := by decide +kernel
theorem d_S_cardIn_13 : decode b_S_cardIn 13 = .ok (.getfield 9, 3) := by decide +kernel
theorem d_S_cardIn_16 : decode b_S_cardIn 16 = .ok (.iload_n 1, 1) := by decide +kernel
theorem d_S_cardIn_17 : decode b_S_cardIn 17 = .ok (.iaload, 1) := by decide +kernel
theorem d_S_cardIn_18 : decode b_S_cardIn 18 = .ok (.goto 4, 3) := by decide +kernel
theorem d_S_cardIn_21 : decode b_S_cardIn 21 = .ok (.iconst (-1), 1) := by decide +kernel
theorem d_S_cardIn_22 : decode b_S_cardIn 22 = .ok (.ireturn, 1) := by decide +kernel
def m_S_cardIn (N : Nat) (σ : SX) (j : Nat) (a1 : Int32) : Option (Int32 × SX) :=
  (if a1 < 0 then some ((-1), σ) else (if ((σ j).1 1) ≤ a1 then some ((-1), σ) else (if inb a1 8 = true then some (((σ j).2 1 a1.toNatClampNeg), σ) else none)))

set_option maxHeartbeats 4000000 in
set_option maxRecDepth 100000 in
theorem c_S_cardIn (l : Launch) (dC : Nat → ClassId) (dI : Nat → Nat → Nat) (ad : Nat → Nat → Nat) (cs : Nat → ClassId) (sz N : Nat) (σ : SX) (j : Nat) (hj : j = 2 ∨ j = 3) (a1 : Int32) {r0 : Int32} {σ0 : SX} (hM : m_S_cardIn N σ j a1 = some (r0, σ0)) : Met l y_S_cardIn (wd y_S_cardIn b_S_cardIn 2 (some .int)) ({ frames := 0, cells := 0, slots := 0, locals := 0 }) (va_Pc [.ref (ad j 0), .int a1] (preX dC dI ad cs sz σ)) (va_Qi (fun (r : Int32) (_ : Unit) => r = r0 ∧ σ = σ0) (fun _ _ => True) (fun q => sz ≤ q)) 0 0 (fun q => sz ≤ q) := by
  refine Met.ofW (cc := b_S_cardIn) (maxL := 2) (ret := (some .int)) (by decide) rfl ?_
  intro p e s m args below meth c s₁ B hml hv
  obtain ⟨rfl, hsz, hP, hK, hD0, hN⟩ := hv
  have hx := B.exec
  have hb := B.bytes
  have hr := B.returns
  have hts := atoms_spec (ws := (wd y_S_cardIn b_S_cardIn 2 (some .int))) B.pre
  have htb : ∀ w ∈ tb, w.before _ s = true := fun w h => hts w (List.mem_cons_of_mem _ h)
  have hown : s.vm.findClass R_S = some m.cls := findClass_of_methodNamed B.named
  have hlocks := B.notSynchronized
  subst hsz
  have hD := hD0
  have hA : ∀ q : Nat, s.heap.size ≤ q → s.heap.size ≤ q := fun q h => h
  have hS : va_S (fun q => s.heap.size ≤ q) s.heap s.heap [] := va_S.rf
  have hP : va_P (dC, dI) classes (wX ad cs σ) s.heap := hP
  have hl := lv_entry ([.ref (ad j 0), .int a1]) (n := 2) (Nat.le_of_ble_eq_true rfl)
  rw [lg_entry_eq]
  generalize (lg_sl ([.ref (ad j 0), .int a1]) ++ List.replicate (2 - (lg_sl ([.ref (ad j 0), .int a1])).length) Slot.unset).toArray = ls at hl ⊢
  have hl : lv_has ls 2 [(0, .ref (ad j 0)), (1, .int a1)] := hl
  rw [m_S_cardIn] at hM
  refine lv_iload_n hx hb d_S_cardIn_0 rfl (lv_at hl 1 rfl) ?_
  refine lv_if_lt (tgt := 21) hx hb d_S_cardIn_1 (by decide) (fun h1 => ?_) (fun h1 => ?_)
  · rw [if_pos h1] at hM
    refine lv_iconst (v := (-1)) hx hb d_S_cardIn_21 (by decide) ?_
    have e9 := Prod.mk.inj (Option.some.inj hM)
    exact W.iret (v := (-1)) hx hb hr (fun t ht hW => ⟨⟨(-1), (), rfl, e9, trivial⟩, hS.F ht⟩) hS.2.2 d_S_cardIn_22
  · rw [if_neg h1] at hM
    refine lv_iload_n hx hb d_S_cardIn_4 rfl (lv_at hl 1 rfl) ?_
    refine lv_aload_n hx hb d_S_cardIn_5 rfl (lv_at hl 0 rfl) ?_
    refine va_get (D := (dC, dI)) (ci := 2) (v := .int ((σ j).1 1)) (C := R_S) (T := F_S) (N := 5) hx hb htb in_S hown hK hP (3 * j + 1) (g_S hj) rfl 3 (by decide) (htb _ k_110) (fun _ h9 => h9) rfl d_S_cardIn_6 ?_
    refine lv_icmp_ge (tgt := 21) hx hb d_S_cardIn_9 (by decide) (fun h9 => ?_) (fun h9 => ?_)
    · rw [if_pos h9] at hM
      refine lv_iconst (v := (-1)) hx hb d_S_cardIn_21 (by decide) ?_
      have e9 := Prod.mk.inj (Option.some.inj hM)
      exact W.iret (v := (-1)) hx hb hr (fun t ht hW => ⟨⟨(-1), (), rfl, e9, trivial⟩, hS.F ht⟩) hS.2.2 d_S_cardIn_22
    · rw [if_neg h9] at hM
      refine lv_aload_n hx hb d_S_cardIn_12 rfl (lv_at hl 0 rfl) ?_
      refine va_get (D := (dC, dI)) (ci := 2) (v := .ref (ad j 1)) (C := R_S) (T := F_S) (N := 5) hx hb htb in_S hown hK hP (3 * j + 1) (g_S hj) rfl 1 (by decide) (htb _ k_108) (fun _ h9 => h9) rfl d_S_cardIn_13 ?_
      refine lv_iload_n hx hb d_S_cardIn_16 rfl (lv_at hl 1 rfl) ?_
      have hg17 := gd_c hM
      have hM := gd_v hM
      refine va_iald hx hb hK hP (3 * j + 2) 0 (g_S_a1 hj) rfl (inb_in hg17) d_S_cardIn_17 ?_
      refine lv_goto (tgt := 22) hx hb d_S_cardIn_18 (by decide) ?_
      have e9 := Prod.mk.inj (Option.some.inj hM)
      exact W.iret (v := ((σ j).2 1 a1.toNatClampNeg)) hx hb hr (fun t ht hW => ⟨⟨((σ j).2 1 a1.toNatClampNeg), (), rfl, e9, trivial⟩, hS.F ht⟩) hS.2.2 d_S_cardIn_22

theorem d_S_replaceCard_0 : decode b_S_replaceCard 0 = .ok (.iload_n 1, 1) := by decide +kernel
theorem d_S_replaceCard_1 : decode b_S_replaceCard 1 = .ok (.ifCond .lt 11, 3) := by decide +kernel
theorem d_S_replaceCard_4 : decode b_S_replaceCard 4 = .ok (.iload_n 1, 1) := by decide +kernel
theorem d_S_replaceCard_5 : decode b_S_replaceCard 5 = .ok (.aload_n 0, 1) := by decide +kernel
theorem d_S_replaceCard_6 : decode b_S_replaceCard 6 = .ok (.getfield 19, 3) := by decide +kernel
theorem d_S_replaceCard_9 : decode b_S_replaceCard 9 = .ok (.if_icmp .lt 4, 3) := by decide +kernel
theorem d_S_replaceCard_12 : decode b_S_replaceCard 12 = .ok (.return_, 1) := by decide +kernel
theorem d_S_replaceCard_13 : decode b_S_replaceCard 13 = .ok (.aload_n 2, 1) := by decide +kernel
theorem d_S_replaceCard_14 : decode b_S_replaceCard 14 = .ok (.aload_n 0, 1) := by decide +kernel
theorem d_S_replaceCard_15 : decode b_S_replaceCard 15 = .ok (.getfield 23, 3) := by decide +kernel
theorem d_S_replaceCard_18 : decode b_S_replaceCard 18 = .ok (.invokevirtual 45, 3) := by decide +kernel
theorem d_S_replaceCard_21 : decode b_S_replaceCard 21 = .ok (.ifCond .eq 46, 3) := by decide +kernel
theorem d_S_replaceCard_24 : decode b_S_replaceCard 24 = .ok (.aload_n 0, 1) := by decide +kernel
theorem d_S_replaceCard_25 : decode b_S_replaceCard 25 = .ok (.getfield 15, 3) := by decide +kernel
theorem d_S_replaceCard_28 : decode b_S_replaceCard 28 = .ok (.iload_n 1, 1) := by decide +kernel
theorem d_S_replaceCard_29 : decode b_S_replaceCard 29 = .ok (.aload_n 2, 1) := by decide +kernel
theorem d_S_replaceCard_30 : decode b_S_replaceCard 30 = .ok (.aload_n 0, 1) := by decide +kernel
theorem d_S_replaceCard_31 : decode b_S_replaceCard 31 = .ok (.getfield 23, 3) := by decide +kernel
theorem d_S_replaceCard_34 : decode b_S_replaceCard 34 = .ok (.aload_n 0, 1) := by decide +kernel
theorem d_S_replaceCard_35 : decode b_S_replaceCard 35 = .ok (.getfield 9, 3) := by decide +kernel
theorem d_S_replaceCard_38 : decode b_S_replaceCard 38 = .ok (.iload_n 1, 1) := by decide +kernel
theorem d_S_replaceCard_39 : decode b_S_replaceCard 39 = .ok (.iaload, 1) := by decide +kernel
theorem d_S_replaceCard_40 : decode b_S_replaceCard 40 = .ok (.invokevirtual 41, 3) := by decide +kernel
theorem d_S_replaceCard_43 : decode b_S_replaceCard 43 = .ok (.bastore, 1) := by decide +kernel
theorem d_S_replaceCard_44 : decode b_S_replaceCard 44 = .ok (.aload_n 0, 1) := by decide +kernel
theorem d_S_replaceCard_45 : decode b_S_replaceCard 45 = .ok (.getfield 9, 3) := by decide +kernel
theorem d_S_replaceCard_48 : decode b_S_replaceCard 48 = .ok (.iload_n 1, 1) := by decide +kernel
theorem d_S_replaceCard_49 : decode b_S_replaceCard 49 = .ok (.aload_n 0, 1) := by decide +kernel
theorem d_S_replaceCard_50 : decode b_S_replaceCard 50 = .ok (.getfield 23, 3) := by decide +kernel
theorem d_S_replaceCard_53 : decode b_S_replaceCard 53 = .ok (.iastore, 1) := by decide +kernel
theorem d_S_replaceCard_54 : decode b_S_replaceCard 54 = .ok (.aload_n 0, 1) := by decide +kernel
theorem d_S_replaceCard_55 : decode b_S_replaceCard 55 = .ok (.dup, 1) := by decide +kernel
theorem d_S_replaceCard_56 : decode b_S_replaceCard 56 = .ok (.getfield 23, 3) := by decide +kernel
theorem d_S_replaceCard_59 : decode b_S_replaceCard 59 = .ok (.iconst 1, 1) := by decide +kernel
theorem d_S_replaceCard_60 : decode b_S_replaceCard 60 = .ok (.iadd, 1) := by decide +kernel
theorem d_S_replaceCard_61 : decode b_S_replaceCard 61 = .ok (.putfield 23, 3) := by decide +kernel
theorem d_S_replaceCard_64 : decode b_S_replaceCard 64 = .ok (.goto 43, 3) := by decide +kernel
theorem d_S_replaceCard_67 : decode b_S_replaceCard 67 = .ok (.aload_n 0, 1) := by decide +kernel
theorem d_S_replaceCard_68 : decode b_S_replaceCard 68 = .ok (.dup, 1) := by decide +kernel
theorem d_S_replaceCard_69 : decode b_S_replaceCard 69 = .ok (.getfield 19, 3) := by decide +kernel
theorem d_S_replaceCard_72 : decode b_S_replaceCard 72 = .ok (.iconst 1, 1) := by decide +kernel
theorem d_S_replaceCard_73 : decode b_S_replaceCard 73 = .ok (.isub, 1) := by decide +kernel
theorem d_S_replaceCard_74 : decode b_S_replaceCard 74 = .ok (.putfield 19, 3) := by decide +kernel
theorem d_S_replaceCard_77 : decode b_S_replaceCard 77 = .ok (.aload_n 0, 1) := by decide +kernel
theorem d_S_replaceCard_78 : decode b_S_replaceCard 78 = .ok (.getfield 9, 3) := by decide +kernel
theorem d_S_replaceCard_81 : decode b_S_replaceCard 81 = .ok (.iload_n 1, 1) := by decide +kernel
theorem d_S_replaceCard_82 : decode b_S_replaceCard 82 = .ok (.aload_n 0, 1) := by decide +kernel
theorem d_S_replaceCard_83 : decode b_S_replaceCard 83 = .ok (.getfield 9, 3) := by decide +kernel
theorem d_S_replaceCard_86 : decode b_S_replaceCard 86 = .ok (.aload_n 0, 1) := by decide +kernel
theorem d_S_replaceCard_87 : decode b_S_replaceCard 87 = .ok (.getfield 19, 3) := by decide +kernel
theorem d_S_replaceCard_90 : decode b_S_replaceCard 90 = .ok (.iaload, 1) := by decide +kernel
theorem d_S_replaceCard_91 : decode b_S_replaceCard 91 = .ok (.iastore, 1) := by decide +kernel
theorem d_S_replaceCard_92 : decode b_S_replaceCard 92 = .ok (.aload_n 0, 1) := by decide +kernel
theorem d_S_replaceCard_93 : decode b_S_replaceCard 93 = .ok (.getfield 15, 3) := by decide +kernel
theorem d_S_replaceCard_96 : decode b_S_replaceCard 96 = .ok (.iload_n 1, 1) := by decide +kernel
theorem d_S_replaceCard_97 : decode b_S_replaceCard 97 = .ok (.aload_n 0, 1) := by decide +kernel
theorem d_S_replaceCard_98 : decode b_S_replaceCard 98 = .ok (.getfield 15, 3) := by decide +kernel
theorem d_S_replaceCard_101 : decode b_S_replaceCard 101 = .ok (.aload_n 0, 1) := by decide +kernel
theorem d_S_replaceCard_102 : decode b_S_replaceCard 102 = .ok (.getfield 19, 3) := by decide +kernel
theorem d_S_replaceCard_105 : decode b_S_replaceCard 105 = .ok (.baload, 1) := by decide +kernel
theorem d_S_replaceCard_106 : decode b_S_replaceCard 106 = .ok (.bastore, 1) := by decide +kernel
theorem d_S_replaceCard_107 : decode b_S_replaceCard 107 = .ok (.return_, 1) := by decide +kernel
def m_S_replaceCard (N : Nat) (σ : SX) (j : Nat) (a1 : Int32) : Option (SX) :=
  (if a1 < 0 then some σ else (if a1 < ((σ j).1 1) then (bI (m_D_hasCard N σ ((σ j).1 2)) fun r18 σ18 => (if r18 = 0 then (if inb (((w1 σ j 1 (((σ j).1 1) - 1)) j).1 1) 8 = true then (if inb a1 8 = true then (if inb (((w3 (w1 σ j 1 (((σ j).1 1) - 1)) j 1 a1 (((w1 σ j 1 (((σ j).1 1) - 1)) j).2 1 (((w1 σ j 1 (((σ j).1 1) - 1)) j).1 1).toNatClampNeg)) j).1 1) 8 = true then (if inb a1 8 = true then some (w3 (w3 (w1 σ j 1 (((σ j).1 1) - 1)) j 1 a1 (((w1 σ j 1 (((σ j).1 1) - 1)) j).2 1 (((w1 σ j 1 (((σ j).1 1) - 1)) j).1 1).toNatClampNeg)) j 2 a1 (vp_nar .boolean (((w3 (w1 σ j 1 (((σ j).1 1) - 1)) j 1 a1 (((w1 σ j 1 (((σ j).1 1) - 1)) j).2 1 (((w1 σ j 1 (((σ j).1 1) - 1)) j).1 1).toNatClampNeg)) j).2 2 (((w3 (w1 σ j 1 (((σ j).1 1) - 1)) j 1 a1 (((w1 σ j 1 (((σ j).1 1) - 1)) j).2 1 (((w1 σ j 1 (((σ j).1 1) - 1)) j).1 1).toNatClampNeg)) j).1 1).toNatClampNeg))) else none) else none) else none) else none) else (if inb a1 8 = true then (bI (m_D_comesBefore N σ ((σ j).1 2) ((σ j).2 1 a1.toNatClampNeg)) fun r40 σ40 => (if inb a1 8 = true then (if inb a1 8 = true then some (w1 (w3 (w3 σ j 2 a1 (vp_nar .boolean r40)) j 1 a1 (((w3 σ j 2 a1 (vp_nar .boolean r40)) j).1 2)) j 2 ((((w3 (w3 σ j 2 a1 (vp_nar .boolean r40)) j 1 a1 (((w3 σ j 2 a1 (vp_nar .boolean r40)) j).1 2)) j).1 2) + 1)) else none) else none)) else none))) else some σ))

set_option maxHeartbeats 4000000 in
set_option maxRecDepth 100000 in
theorem c_S_replaceCard (l : Launch) (dC : Nat → ClassId) (dI : Nat → Nat → Nat) (ad : Nat → Nat → Nat) (cs : Nat → ClassId) (sz N : Nat) (σ : SX) (j : Nat) (hj : j = 2 ∨ j = 3) (a1 : Int32) {σ0 : SX} (hM : m_S_replaceCard N σ j a1 = some σ0) : Met l y_S_replaceCard (wd y_S_replaceCard b_S_replaceCard 3 none) ({ frames := 3, cells := 0, slots := 0, locals := 70 }) (va_Pc [.ref (ad j 0), .int a1, .ref (ad 1 0)] (preX dC dI ad cs sz σ)) (va_Qv (fun (u : SX) => u = σ0) (atX dC dI ad cs (va_A (wX ad cs σ) sz)) (va_A (wX ad cs σ) sz)) 0 0 (va_A (wX ad cs σ) sz) := by
  refine Met.ofW (cc := b_S_replaceCard) (maxL := 3) (ret := none) (by decide) rfl ?_
  intro p e s m args below meth c s₁ B hml hv
  obtain ⟨rfl, hsz, hP, hK, hD0, hN⟩ := hv
  have hx := B.exec
  have hb := B.bytes
  have hr := B.returns
  have hts := atoms_spec (ws := (wd y_S_replaceCard b_S_replaceCard 3 none)) B.pre
  have htb : ∀ w ∈ tb, w.before _ s = true := fun w h => hts w (List.mem_cons_of_mem _ h)
  have hown : s.vm.findClass R_S = some m.cls := findClass_of_methodNamed B.named
  have hlocks := B.notSynchronized
  subst hsz
  have hD := hD0.self (sz := s.heap.size)
  generalize hAe : va_A (wX ad cs σ) s.heap.size = A at hD ⊢
  have hA : ∀ q : Nat, s.heap.size ≤ q → A q := fun q h => by rw [← hAe]; exact Or.inr h
  have hS : va_S A s.heap s.heap [] := va_S.rf
  have hP : va_P (dC, dI) classes (wX ad cs σ) s.heap := hP
  have hl := lv_entry ([.ref (ad j 0), .int a1, .ref (ad 1 0)]) (n := 3) (Nat.le_of_ble_eq_true rfl)
  rw [lg_entry_eq]
  generalize (lg_sl ([.ref (ad j 0), .int a1, .ref (ad 1 0)]) ++ List.replicate (3 - (lg_sl ([.ref (ad j 0), .int a1, .ref (ad 1 0)])).length) Slot.unset).toArray = ls at hl ⊢
  have hl : lv_has ls 3 [(0, .ref (ad j 0)), (1, .int a1), (2, .ref (ad 1 0))] := hl
  rw [m_S_replaceCard] at hM
  refine lv_iload_n hx hb d_S_replaceCard_0 rfl (lv_at hl 1 rfl) ?_
  refine lv_if_lt (tgt := 12) hx hb d_S_replaceCard_1 (by decide) (fun h1 => ?_) (fun h1 => ?_)
  · rw [if_pos h1] at hM
    have e9 := Option.some.inj hM
    exact W.vret hx hb hr (fun t ht hW => ⟨⟨σ, rfl, e9, by rw [ht]; exact hP, va_K.moved hW.alike hK, hD⟩, hS.F ht⟩) hS.2.2 d_S_replaceCard_12
  · rw [if_neg h1] at hM
    refine lv_iload_n hx hb d_S_replaceCard_4 rfl (lv_at hl 1 rfl) ?_
    refine lv_aload_n hx hb d_S_replaceCard_5 rfl (lv_at hl 0 rfl) ?_
    refine va_get (D := (dC, dI)) (ci := 2) (v := .int ((σ j).1 1)) (C := R_S) (T := F_S) (N := 5) hx hb htb in_S hown hK hP (3 * j + 1) (g_S hj) rfl 3 (by decide) (htb _ k_110) (fun _ h9 => h9) rfl d_S_replaceCard_6 ?_
    refine lv_icmp_lt (tgt := 13) hx hb d_S_replaceCard_9 (by decide) (fun h9 => ?_) (fun h9 => ?_)
    · rw [if_pos h9] at hM
      refine lv_aload_n hx hb d_S_replaceCard_13 rfl (lv_at hl 2 rfl) ?_
      refine lv_aload_n hx hb d_S_replaceCard_14 rfl (lv_at hl 0 rfl) ?_
      refine va_get (D := (dC, dI)) (ci := 2) (v := .int ((σ j).1 2)) (C := R_S) (T := F_S) (N := 5) hx hb htb in_S hown hK hP (3 * j + 1) (g_S hj) rfl 4 (by decide) (htb _ k_111) (fun _ h9 => h9) rfl d_S_replaceCard_15 ?_
      obtain ⟨x18, y18, hq18, hM⟩ := bI_some hM
      refine va_calli (va_runV (As := [.int ((σ j).1 2)]) (rest := []) ⟨hx, hb, hml, hown, hts⟩ (c_D_hasCard l dC dI ad cs _ N σ ((σ j).1 2) hq18) (cwV 1 hts (goodV k_524 k_314 k_315 k_2 k_316) rfl rfl rfl ⟨rfl, by decide, by decide, by decide +kernel⟩ ⟨Nat.le_of_ble_eq_true rfl, Nat.le_of_ble_eq_true rfl⟩) ⟨blindX, va_recv hK hP rfl (g_D), payX hP hK hD hN⟩ rfl rfl hl.1 rfl (lv_room (Nat.le_of_ble_eq_true rfl)) d_S_replaceCard_18 ⟨Nat.zero_le _, Nat.zero_le _⟩) hS (fun q h0 h => absurd h0 (Nat.not_lt.mpr h)) (fun q h => hA q (Nat.le_trans hS.1 h)) (fun r18 u t H locs ht hvm hpost hB hz1 hk1 hS => ?_)
      obtain ⟨e1, e2⟩ := hpost
      subst e1
      subst e2
      have hP := keepP hP hk1
      refine lv_if_eq (tgt := 67) hx hb d_S_replaceCard_21 (by decide) (fun h21 => ?_) (fun h21 => ?_)
      · rw [if_pos h21] at hM
        refine lv_aload_n hx hb d_S_replaceCard_67 rfl (lv_at hl 0 rfl) ?_
        refine lv_dup hx hb d_S_replaceCard_68 rfl ?_
        refine va_get (D := (dC, dI)) (ci := 2) (v := .int ((σ j).1 1)) (C := R_S) (T := F_S) (N := 5) hx hb htb in_S hown hK hP (3 * j + 1) (g_S hj) rfl 3 (by decide) (htb _ k_110) (fun _ h9 => h9) rfl d_S_replaceCard_69 ?_
        refine lv_iconst (v := 1) hx hb d_S_replaceCard_72 (by decide) ?_
        refine lv_isub hx hb d_S_replaceCard_73 ?_
        refine va_put (D := (dC, dI)) (ci := 2) (v := .int (((σ j).1 1) - 1)) (ty := .int) (C := R_S) (T := F_S) (N := 5) hx hb htb in_S ft_S ft_S_ok n_S hown hK hP hD hS (3 * j + 1) (g_S hj) rfl 3 (by decide) (htb _ k_110) (fun _ h9 => h9) rfl (by decide +kernel) rfl rfl (Nat.le_of_ble_eq_true rfl) d_S_replaceCard_74 (fun H locs hP hD hS => ?_)
        have hP := P_eq (s_S_1 hj) hP
        have hD := D_eq (s_S_1 hj) hD
        refine lv_aload_n hx hb d_S_replaceCard_77 rfl (lv_at hl 0 rfl) ?_
        refine va_get (D := (dC, dI)) (ci := 2) (v := .ref (ad j 1)) (C := R_S) (T := F_S) (N := 5) hx hb htb in_S hown hK hP (3 * j + 1) (g_S hj) rfl 1 (by decide) (htb _ k_108) (fun _ h9 => h9) rfl d_S_replaceCard_78 ?_
        refine lv_iload_n hx hb d_S_replaceCard_81 rfl (lv_at hl 1 rfl) ?_
        refine lv_aload_n hx hb d_S_replaceCard_82 rfl (lv_at hl 0 rfl) ?_
        refine va_get (D := (dC, dI)) (ci := 2) (v := .ref (ad j 1)) (C := R_S) (T := F_S) (N := 5) hx hb htb in_S hown hK hP (3 * j + 1) (g_S hj) rfl 1 (by decide) (htb _ k_108) (fun _ h9 => h9) rfl d_S_replaceCard_83 ?_
        refine lv_aload_n hx hb d_S_replaceCard_86 rfl (lv_at hl 0 rfl) ?_
        refine va_get (D := (dC, dI)) (ci := 2) (v := .int (((w1 σ j 1 (((σ j).1 1) - 1)) j).1 1)) (C := R_S) (T := F_S) (N := 5) hx hb htb in_S hown hK hP (3 * j + 1) (g_S hj) rfl 3 (by decide) (htb _ k_110) (fun _ h9 => h9) rfl d_S_replaceCard_87 ?_
        have hg90 := gd_c hM
        have hM := gd_v hM
        refine va_iald hx hb hK hP (3 * j + 2) 0 (g_S_a1 hj) rfl (inb_in hg90) d_S_replaceCard_90 ?_
        have hg91 := gd_c hM
        have hM := gd_v hM
        refine va_iast (i := a1) (x := (((w1 σ j 1 (((σ j).1 1) - 1)) j).2 1 (((w1 σ j 1 (((σ j).1 1) - 1)) j).1 1).toNatClampNeg)) hx hb hK hP hD hS (3 * j + 2) 0 (g_S_a1 hj) rfl (inb_in hg91) d_S_replaceCard_91 (fun H locs hP hD hS => ?_)
        have hP := P_eq (t_S_1 hj) hP
        have hD := D_eq (t_S_1 hj) hD
        refine lv_aload_n hx hb d_S_replaceCard_92 rfl (lv_at hl 0 rfl) ?_
        refine va_get (D := (dC, dI)) (ci := 2) (v := .ref (ad j 2)) (C := R_S) (T := F_S) (N := 5) hx hb htb in_S hown hK hP (3 * j + 1) (g_S hj) rfl 2 (by decide) (htb _ k_109) (fun _ h9 => h9) rfl d_S_replaceCard_93 ?_
        refine lv_iload_n hx hb d_S_replaceCard_96 rfl (lv_at hl 1 rfl) ?_
        refine lv_aload_n hx hb d_S_replaceCard_97 rfl (lv_at hl 0 rfl) ?_
        refine va_get (D := (dC, dI)) (ci := 2) (v := .ref (ad j 2)) (C := R_S) (T := F_S) (N := 5) hx hb htb in_S hown hK hP (3 * j + 1) (g_S hj) rfl 2 (by decide) (htb _ k_109) (fun _ h9 => h9) rfl d_S_replaceCard_98 ?_
        refine lv_aload_n hx hb d_S_replaceCard_101 rfl (lv_at hl 0 rfl) ?_
        refine va_get (D := (dC, dI)) (ci := 2) (v := .int (((w3 (w1 σ j 1 (((σ j).1 1) - 1)) j 1 a1 (((w1 σ j 1 (((σ j).1 1) - 1)) j).2 1 (((w1 σ j 1 (((σ j).1 1) - 1)) j).1 1).toNatClampNeg)) j).1 1)) (C := R_S) (T := F_S) (N := 5) hx hb htb in_S hown hK hP (3 * j + 1) (g_S hj) rfl 3 (by decide) (htb _ k_110) (fun _ h9 => h9) rfl d_S_replaceCard_102 ?_
        have hg105 := gd_c hM
        have hM := gd_v hM
        refine va_zald hx hb hK hP (3 * j + 3) 1 (g_S_a2 hj) rfl (inb_in hg105) d_S_replaceCard_105 ?_
        have hg106 := gd_c hM
        have hM := gd_v hM
        refine va_zast (i := a1) (x := (((w3 (w1 σ j 1 (((σ j).1 1) - 1)) j 1 a1 (((w1 σ j 1 (((σ j).1 1) - 1)) j).2 1 (((w1 σ j 1 (((σ j).1 1) - 1)) j).1 1).toNatClampNeg)) j).2 2 (((w3 (w1 σ j 1 (((σ j).1 1) - 1)) j 1 a1 (((w1 σ j 1 (((σ j).1 1) - 1)) j).2 1 (((w1 σ j 1 (((σ j).1 1) - 1)) j).1 1).toNatClampNeg)) j).1 1).toNatClampNeg)) hx hb hK hP hD hS (3 * j + 3) 1 (g_S_a2 hj) rfl (inb_in hg106) d_S_replaceCard_106 (fun H locs hP hD hS => ?_)
        have hP := P_eq (t_S_2 hj) hP
        have hD := D_eq (t_S_2 hj) hD
        have e9 := Option.some.inj hM
        exact W.vret hx hb hr (fun t ht hW => ⟨⟨(w3 (w3 (w1 σ j 1 (((σ j).1 1) - 1)) j 1 a1 (((w1 σ j 1 (((σ j).1 1) - 1)) j).2 1 (((w1 σ j 1 (((σ j).1 1) - 1)) j).1 1).toNatClampNeg)) j 2 a1 (vp_nar .boolean (((w3 (w1 σ j 1 (((σ j).1 1) - 1)) j 1 a1 (((w1 σ j 1 (((σ j).1 1) - 1)) j).2 1 (((w1 σ j 1 (((σ j).1 1) - 1)) j).1 1).toNatClampNeg)) j).2 2 (((w3 (w1 σ j 1 (((σ j).1 1) - 1)) j 1 a1 (((w1 σ j 1 (((σ j).1 1) - 1)) j).2 1 (((w1 σ j 1 (((σ j).1 1) - 1)) j).1 1).toNatClampNeg)) j).1 1).toNatClampNeg))), rfl, e9, by rw [ht]; exact hP, va_K.moved hW.alike hK, hD⟩, hS.F ht⟩) hS.2.2 d_S_replaceCard_107
      · rw [if_neg h21] at hM
        refine lv_aload_n hx hb d_S_replaceCard_24 rfl (lv_at hl 0 rfl) ?_
        refine va_get (D := (dC, dI)) (ci := 2) (v := .ref (ad j 2)) (C := R_S) (T := F_S) (N := 5) hx hb htb in_S hown hK hP (3 * j + 1) (g_S hj) rfl 2 (by decide) (htb _ k_109) (fun _ h9 => h9) rfl d_S_replaceCard_25 ?_
        refine lv_iload_n hx hb d_S_replaceCard_28 rfl (lv_at hl 1 rfl) ?_
        refine lv_aload_n hx hb d_S_replaceCard_29 rfl (lv_at hl 2 rfl) ?_
        refine lv_aload_n hx hb d_S_replaceCard_30 rfl (lv_at hl 0 rfl) ?_
        refine va_get (D := (dC, dI)) (ci := 2) (v := .int ((σ j).1 2)) (C := R_S) (T := F_S) (N := 5) hx hb htb in_S hown hK hP (3 * j + 1) (g_S hj) rfl 4 (by decide) (htb _ k_111) (fun _ h9 => h9) rfl d_S_replaceCard_31 ?_
        refine lv_aload_n hx hb d_S_replaceCard_34 rfl (lv_at hl 0 rfl) ?_
        refine va_get (D := (dC, dI)) (ci := 2) (v := .ref (ad j 1)) (C := R_S) (T := F_S) (N := 5) hx hb htb in_S hown hK hP (3 * j + 1) (g_S hj) rfl 1 (by decide) (htb _ k_108) (fun _ h9 => h9) rfl d_S_replaceCard_35 ?_
        refine lv_iload_n hx hb d_S_replaceCard_38 rfl (lv_at hl 1 rfl) ?_
        have hg39 := gd_c hM
        have hM := gd_v hM
        refine va_iald hx hb hK hP (3 * j + 2) 0 (g_S_a1 hj) rfl (inb_in hg39) d_S_replaceCard_39 ?_
        obtain ⟨x40, y40, hq40, hM⟩ := bI_some hM
        refine va_calli (va_runV (As := [.int ((σ j).1 2), .int ((σ j).2 1 a1.toNatClampNeg)]) (rest := [.int a1, .ref (ad j 2)]) ⟨hx, hb, hml, hown, hts⟩ (c_D_comesBefore l dC dI ad cs _ N σ ((σ j).1 2) ((σ j).2 1 a1.toNatClampNeg) hq40) (cwV 2 hts (goodV k_507 k_318 k_319 k_2 k_320) rfl rfl rfl ⟨rfl, by decide, by decide, by decide +kernel⟩ ⟨Nat.le_of_ble_eq_true rfl, Nat.le_of_ble_eq_true rfl⟩) ⟨blindX, va_recv hK hP rfl (g_D), payX hP hK hD hN⟩ rfl rfl hl.1 rfl (lv_room (Nat.le_of_ble_eq_true rfl)) d_S_replaceCard_40 ⟨Nat.zero_le _, Nat.zero_le _⟩) hS (fun q h0 h => absurd h0 (Nat.not_lt.mpr h)) (fun q h => hA q (Nat.le_trans hS.1 h)) (fun r40 u t H locs ht hvm hpost hB hz1 hk1 hS => ?_)
        obtain ⟨e1, e2⟩ := hpost
        subst e1
        subst e2
        have hP := keepP hP hk1
        have hg43 := gd_c hM
        have hM := gd_v hM
        refine va_zast (i := a1) (x := r40) hx hb hK hP hD hS (3 * j + 3) 1 (g_S_a2 hj) rfl (inb_in hg43) d_S_replaceCard_43 (fun H locs hP hD hS => ?_)
        have hP := P_eq (t_S_2 hj) hP
        have hD := D_eq (t_S_2 hj) hD
        refine lv_aload_n hx hb d_S_replaceCard_44 rfl (lv_at hl 0 rfl) ?_
        refine va_get (D := (dC, dI)) (ci := 2) (v := .ref (ad j 1)) (C := R_S) (T := F_S) (N := 5) hx hb htb in_S hown hK hP (3 * j + 1) (g_S hj) rfl 1 (by decide) (htb _ k_108) (fun _ h9 => h9) rfl d_S_replaceCard_45 ?_
        refine lv_iload_n hx hb d_S_replaceCard_48 rfl (lv_at hl 1 rfl) ?_
        refine lv_aload_n hx hb d_S_replaceCard_49 rfl (lv_at hl 0 rfl) ?_
        refine va_get (D := (dC, dI)) (ci := 2) (v := .int (((w3 σ j 2 a1 (vp_nar .boolean r40)) j).1 2)) (C := R_S) (T := F_S) (N := 5) hx hb htb in_S hown hK hP (3 * j + 1) (g_S hj) rfl 4 (by decide) (htb _ k_111) (fun _ h9 => h9) rfl d_S_replaceCard_50 ?_
        have hg53 := gd_c hM
        have hM := gd_v hM
        refine va_iast (i := a1) (x := (((w3 σ j 2 a1 (vp_nar .boolean r40)) j).1 2)) hx hb hK hP hD hS (3 * j + 2) 0 (g_S_a1 hj) rfl (inb_in hg53) d_S_replaceCard_53 (fun H locs hP hD hS => ?_)
        have hP := P_eq (t_S_1 hj) hP
        have hD := D_eq (t_S_1 hj) hD
        refine lv_aload_n hx hb d_S_replaceCard_54 rfl (lv_at hl 0 rfl) ?_
        refine lv_dup hx hb d_S_replaceCard_55 rfl ?_
        refine va_get (D := (dC, dI)) (ci := 2) (v := .int (((w3 (w3 σ j 2 a1 (vp_nar .boolean r40)) j 1 a1 (((w3 σ j 2 a1 (vp_nar .boolean r40)) j).1 2)) j).1 2)) (C := R_S) (T := F_S) (N := 5) hx hb htb in_S hown hK hP (3 * j + 1) (g_S hj) rfl 4 (by decide) (htb _ k_111) (fun _ h9 => h9) rfl d_S_replaceCard_56 ?_
        refine lv_iconst (v := 1) hx hb d_S_replaceCard_59 (by decide) ?_
        refine lv_iadd hx hb d_S_replaceCard_60 ?_
        refine va_put (D := (dC, dI)) (ci := 2) (v := .int ((((w3 (w3 σ j 2 a1 (vp_nar .boolean r40)) j 1 a1 (((w3 σ j 2 a1 (vp_nar .boolean r40)) j).1 2)) j).1 2) + 1)) (ty := .int) (C := R_S) (T := F_S) (N := 5) hx hb htb in_S ft_S ft_S_ok n_S hown hK hP hD hS (3 * j + 1) (g_S hj) rfl 4 (by decide) (htb _ k_111) (fun _ h9 => h9) rfl (by decide +kernel) rfl rfl (Nat.le_of_ble_eq_true rfl) d_S_replaceCard_61 (fun H locs hP hD hS => ?_)
        have hP := P_eq (s_S_2 hj) hP
        have hD := D_eq (s_S_2 hj) hD
        refine lv_goto (tgt := 107) hx hb d_S_replaceCard_64 (by decide) ?_
        have e9 := Option.some.inj hM
        exact W.vret hx hb hr (fun t ht hW => ⟨⟨(w1 (w3 (w3 σ j 2 a1 (vp_nar .boolean r40)) j 1 a1 (((w3 σ j 2 a1 (vp_nar .boolean r40)) j).1 2)) j 2 ((((w3 (w3 σ j 2 a1 (vp_nar .boolean r40)) j 1 a1 (((w3 σ j 2 a1 (vp_nar .boolean r40)) j).1 2)) j).1 2) + 1)), rfl, e9, by rw [ht]; exact hP, va_K.moved hW.alike hK, hD⟩, hS.F ht⟩) hS.2.2 d_S_replaceCard_107
    · rw [if_neg h9] at hM
      have e9 := Option.some.inj hM
      exact W.vret hx hb hr (fun t ht hW => ⟨⟨σ, rfl, e9, by rw [ht]; exact hP, va_K.moved hW.alike hK, hD⟩, hS.F ht⟩) hS.2.2 d_S_replaceCard_12
