theorem d_P_goUp_0 : decode b_P_goUp 0 = .ok (.aload_n 0, 1) := by decide +kernel
theorem d_P_goUp_1 : decode b_P_goUp 1 = .ok (.getfield 9, 3) := by decide +kernel
theorem d_P_goUp_4 : decode b_P_goUp 4 = .ok (.iconst 0, 1) := by decide +kernel
theorem d_P_goUp_5 : decode b_P_goUp 5 = .ok (.iaload, 1) := by decide +kernel
theorem d_P_goUp_6 : decode b_P_goUp 6 = .ok (.istore_n 2, 1) := by decide +kernel
theorem d_P_goUp_7 : decode b_P_goUp 7 = .ok (.aload_n 0, 1) := by decide +kernel
theorem d_P_goUp_8 : decode b_P_goUp 8 = .ok (.getfield 9, 3) := by decide +kernel
theorem d_P_goUp_11 : decode b_P_goUp 11 = .ok (.iconst 1, 1) := by decide +kernel
theorem d_P_goUp_12 : decode b_P_goUp 12 = .ok (.iaload, 1) := by decide +kernel
theorem d_P_goUp_13 : decode b_P_goUp 13 = .ok (.istore_n 3, 1) := by decide +kernel
theorem d_P_goUp_14 : decode b_P_goUp 14 = .ok (.aload_n 0, 1) := by decide +kernel
theorem d_P_goUp_15 : decode b_P_goUp 15 = .ok (.getfield 9, 3) := by decide +kernel
theorem d_P_goUp_18 : decode b_P_goUp 18 = .ok (.iconst 2, 1) := by decide +kernel
theorem d_P_goUp_19 : decode b_P_goUp 19 = .ok (.iaload, 1) := by decide +kernel
theorem d_P_goUp_20 : decode b_P_goUp 20 = .ok (.istore 4, 2) := by decide +kernel
theorem d_P_goUp_22 : decode b_P_goUp 22 = .ok (.aload_n 0, 1) := by decide +kernel
theorem d_P_goUp_23 : decode b_P_goUp 23 = .ok (.dup, 1) := by decide +kernel
theorem d_P_goUp_24 : decode b_P_goUp 24 = .ok (.getfield 15, 3) := by decide +kernel
theorem d_P_goUp_27 : decode b_P_goUp 27 = .ok (.iconst 1, 1) := by decide +kernel
theorem d_P_goUp_28 : decode b_P_goUp 28 = .ok (.iadd, 1) := by decide +kernel
theorem d_P_goUp_29 : decode b_P_goUp 29 = .ok (.putfield 15, 3) := by decide +kernel
theorem d_P_goUp_32 : decode b_P_goUp 32 = .ok (.aload_n 0, 1) := by decide +kernel
theorem d_P_goUp_33 : decode b_P_goUp 33 = .ok (.iconst 0, 1) := by decide +kernel
theorem d_P_goUp_34 : decode b_P_goUp 34 = .ok (.iload_n 2, 1) := by decide +kernel
theorem d_P_goUp_35 : decode b_P_goUp 35 = .ok (.iload_n 3, 1) := by decide +kernel
theorem d_P_goUp_36 : decode b_P_goUp 36 = .ok (.iadd, 1) := by decide +kernel
theorem d_P_goUp_37 : decode b_P_goUp 37 = .ok (.aload_n 1, 1) := by decide +kernel
theorem d_P_goUp_38 : decode b_P_goUp 38 = .ok (.invokevirtual 36, 3) := by decide +kernel
theorem d_P_goUp_41 : decode b_P_goUp 41 = .ok (.aload_n 0, 1) := by decide +kernel
theorem d_P_goUp_42 : decode b_P_goUp 42 = .ok (.iconst 1, 1) := by decide +kernel
theorem d_P_goUp_43 : decode b_P_goUp 43 = .ok (.iload_n 2, 1) := by decide +kernel
theorem d_P_goUp_44 : decode b_P_goUp 44 = .ok (.iload 4, 2) := by decide +kernel
theorem d_P_goUp_46 : decode b_P_goUp 46 = .ok (.iadd, 1) := by decide +kernel
theorem d_P_goUp_47 : decode b_P_goUp 47 = .ok (.aload_n 1, 1) := by decide +kernel
theorem d_P_goUp_48 : decode b_P_goUp 48 = .ok (.invokevirtual 36, 3) := by decide +kernel
theorem d_P_goUp_51 : decode b_P_goUp 51 = .ok (.aload_n 0, 1) := by decide +kernel
theorem d_P_goUp_52 : decode b_P_goUp 52 = .ok (.iconst 2, 1) := by decide +kernel
theorem d_P_goUp_53 : decode b_P_goUp 53 = .ok (.iload_n 2, 1) := by decide +kernel
theorem d_P_goUp_54 : decode b_P_goUp 54 = .ok (.aload_n 1, 1) := by decide +kernel
theorem d_P_goUp_55 : decode b_P_goUp 55 = .ok (.invokevirtual 36, 3) := by decide +kernel
theorem d_P_goUp_58 : decode b_P_goUp 58 = .ok (.return_, 1) := by decide +kernel
def m_P_goUp (N : Nat) (σ : SX) : Option (SX) :=
  (bV (m_P_growTo N (w1 σ 4 0 (((σ 4).1 0) + 1)) 0 (((σ 4).2 1 (0 : Int32).toNatClampNeg) + ((σ 4).2 1 (1 : Int32).toNatClampNeg))) fun σ38 => (bV (m_P_growTo N σ38 1 (((σ 4).2 1 (0 : Int32).toNatClampNeg) + ((σ 4).2 1 (2 : Int32).toNatClampNeg))) fun σ48 => (bV (m_P_growTo N σ48 2 ((σ 4).2 1 (0 : Int32).toNatClampNeg)) fun σ55 => some σ55)))

set_option maxHeartbeats 4000000 in
set_option maxRecDepth 100000 in
theorem c_P_goUp (l : Launch) (dC : Nat → ClassId) (dI : Nat → Nat → Nat) (ad : Nat → Nat → Nat) (cs : Nat → ClassId) (sz N : Nat) (σ : SX) {σ0 : SX} (hM : m_P_goUp N σ = some σ0) : Met l y_P_goUp (wd y_P_goUp b_P_goUp 5 none) ({ frames := 2, cells := 0, slots := 0, locals := 44 }) (va_Pc [.ref (ad 4 0), .ref (ad 0 9)] (preX dC dI ad cs sz σ)) (va_Qv (fun (u : SX) => u = σ0) (atX dC dI ad cs (va_A (wX ad cs σ) sz)) (va_A (wX ad cs σ) sz)) 0 0 (va_A (wX ad cs σ) sz) := by
  refine Met.ofW (cc := b_P_goUp) (maxL := 5) (ret := none) (by decide) rfl ?_
  intro p e s m args below meth c s₁ B hml hv
  obtain ⟨rfl, hsz, hP, hK, hD0, hN⟩ := hv
  have hx := B.exec
  have hb := B.bytes
  have hr := B.returns
  have hts := atoms_spec (ws := (wd y_P_goUp b_P_goUp 5 none)) B.pre
  have htb : ∀ w ∈ tb, w.before _ s = true := fun w h => hts w (List.mem_cons_of_mem _ h)
  have hown : s.vm.findClass R_P = some m.cls := findClass_of_methodNamed B.named
  have hlocks := B.notSynchronized
  subst hsz
  have hD := hD0.self (sz := s.heap.size)
  generalize hAe : va_A (wX ad cs σ) s.heap.size = A at hD ⊢
  have hA : ∀ q : Nat, s.heap.size ≤ q → A q := fun q h => by rw [← hAe]; exact Or.inr h
  have hS : va_S A s.heap s.heap [] := va_S.rf
  have hP : va_P (dC, dI) classes (wX ad cs σ) s.heap := hP
  have hl := lv_entry ([.ref (ad 4 0), .ref (ad 0 9)]) (n := 5) (Nat.le_of_ble_eq_true rfl)
  rw [lg_entry_eq]
  generalize (lg_sl ([.ref (ad 4 0), .ref (ad 0 9)]) ++ List.replicate (5 - (lg_sl ([.ref (ad 4 0), .ref (ad 0 9)])).length) Slot.unset).toArray = ls at hl ⊢
  have hl : lv_has ls 5 [(0, .ref (ad 4 0)), (1, .ref (ad 0 9))] := hl
  rw [m_P_goUp] at hM
  refine lv_aload_n hx hb d_P_goUp_0 rfl (lv_at hl 0 rfl) ?_
  refine va_get (D := (dC, dI)) (ci := 3) (v := .ref (ad 4 1)) (C := R_P) (T := F_P) (N := 3) hx hb htb in_P hown hK hP 13 (g_P) rfl 0 (by decide) (htb _ k_55) (fun _ h9 => h9) rfl d_P_goUp_1 ?_
  refine lv_iconst (v := 0) hx hb d_P_goUp_4 (by decide) ?_
  refine va_iald hx hb hK hP 14 0 (g_P_a1) rfl (inb_in (by decide)) d_P_goUp_5 ?_
  refine lv_istore_n hx hb d_P_goUp_6 rfl hl (by decide) (lv' := [(2, .int ((σ 4).2 1 (0 : Int32).toNatClampNeg)), (0, .ref (ad 4 0)), (1, .ref (ad 0 9))]) rfl (fun ls hl => ?_)
  refine lv_aload_n hx hb d_P_goUp_7 rfl (lv_at hl 1 rfl) ?_
  refine va_get (D := (dC, dI)) (ci := 3) (v := .ref (ad 4 1)) (C := R_P) (T := F_P) (N := 3) hx hb htb in_P hown hK hP 13 (g_P) rfl 0 (by decide) (htb _ k_55) (fun _ h9 => h9) rfl d_P_goUp_8 ?_
  refine lv_iconst (v := 1) hx hb d_P_goUp_11 (by decide) ?_
  refine va_iald hx hb hK hP 14 0 (g_P_a1) rfl (inb_in (by decide)) d_P_goUp_12 ?_
  refine lv_istore_n hx hb d_P_goUp_13 rfl hl (by decide) (lv' := [(3, .int ((σ 4).2 1 (1 : Int32).toNatClampNeg)), (2, .int ((σ 4).2 1 (0 : Int32).toNatClampNeg)), (0, .ref (ad 4 0)), (1, .ref (ad 0 9))]) rfl (fun ls hl => ?_)
  refine lv_aload_n hx hb d_P_goUp_14 rfl (lv_at hl 2 rfl) ?_
  refine va_get (D := (dC, dI)) (ci := 3) (v := .ref (ad 4 1)) (C := R_P) (T := F_P) (N := 3) hx hb htb in_P hown hK hP 13 (g_P) rfl 0 (by decide) (htb _ k_55) (fun _ h9 => h9) rfl d_P_goUp_15 ?_
  refine lv_iconst (v := 2) hx hb d_P_goUp_18 (by decide) ?_
  refine va_iald hx hb hK hP 14 0 (g_P_a1) rfl (inb_in (by decide)) d_P_goUp_19 ?_
  refine lv_istore hx hb d_P_goUp_20 hl (by decide) (lv' := [(4, .int ((σ 4).2 1 (2 : Int32).toNatClampNeg)), (3, .int ((σ 4).2 1 (1 : Int32).toNatClampNeg)), (2, .int ((σ 4).2 1 (0 : Int32).toNatClampNeg)), (0, .ref (ad 4 0)), (1, .ref (ad 0 9))]) rfl (fun ls hl => ?_)
  refine lv_aload_n hx hb d_P_goUp_22 rfl (lv_at hl 3 rfl) ?_
  refine lv_dup hx hb d_P_goUp_23 rfl ?_
  refine va_get (D := (dC, dI)) (ci := 3) (v := .int ((σ 4).1 0)) (C := R_P) (T := F_P) (N := 3) hx hb htb in_P hown hK hP 13 (g_P) rfl 1 (by decide) (htb _ k_56) (fun _ h9 => h9) rfl d_P_goUp_24 ?_
  refine lv_iconst (v := 1) hx hb d_P_goUp_27 (by decide) ?_
  refine lv_iadd hx hb d_P_goUp_28 ?_
  refine va_put (D := (dC, dI)) (ci := 3) (v := .int (((σ 4).1 0) + 1)) (ty := .int) (C := R_P) (T := F_P) (N := 3) hx hb htb in_P ft_P ft_P_ok n_P hown hK hP hD hS 13 (g_P) rfl 1 (by decide) (htb _ k_56) (fun _ h9 => h9) rfl (by decide +kernel) rfl rfl (Nat.le_of_ble_eq_true rfl) d_P_goUp_29 (fun H locs hP hD hS => ?_)
  have hP := P_eq (s_P_0) hP
  have hD := D_eq (s_P_0) hD
  refine lv_aload_n hx hb d_P_goUp_32 rfl (lv_at hl 3 rfl) ?_
  refine lv_iconst (v := 0) hx hb d_P_goUp_33 (by decide) ?_
  refine lv_iload_n hx hb d_P_goUp_34 rfl (lv_at hl 2 rfl) ?_
  refine lv_iload_n hx hb d_P_goUp_35 rfl (lv_at hl 1 rfl) ?_
  refine lv_iadd hx hb d_P_goUp_36 ?_
  refine lv_aload_n hx hb d_P_goUp_37 rfl (lv_at hl 4 rfl) ?_
  have hF1 := free_all hD hS hA
  obtain ⟨y38, hq38, hM⟩ := bV_some hM
  refine va_callv (va_runV (As := [.int 0, .int (((σ 4).2 1 (0 : Int32).toNatClampNeg) + ((σ 4).2 1 (1 : Int32).toNatClampNeg)), .ref (ad 0 9)]) (rest := []) ⟨hx, hb, hml, hown, hts⟩ (c_P_growTo l dC dI ad cs _ N (w1 σ 4 0 (((σ 4).1 0) + 1)) 0 (((σ 4).2 1 (0 : Int32).toNatClampNeg) + ((σ 4).2 1 (1 : Int32).toNatClampNeg)) hq38) (cwV 3 hts (goodV k_538 k_540 ks_P_growTo k_3 k_541) rfl rfl rfl ⟨rfl, by decide, by decide, by decide +kernel⟩ ⟨Nat.le_of_ble_eq_true rfl, Nat.le_of_ble_eq_true rfl⟩) ⟨blindX, va_recv hK hP rfl (g_P), payX hP hK hD hN⟩ rfl rfl hl.1 rfl (lv_room (Nat.le_of_ble_eq_true rfl)) d_P_goUp_38 ⟨Nat.zero_le _, Nat.zero_le _⟩) hS (fun q _ h => hF1 q h) hF1 (fun σ38 t H locs ht hvm hpost hB hz1 hk1 hS => ?_)
  subst hpost
  obtain ⟨hP1, hK1, hD1⟩ := hB
  rw [ht] at hP1
  have hP := hP1
  have hD := hD1.weaken (fun _ _ _ h => hF1 _ h)
  refine lv_aload_n hx hb d_P_goUp_41 rfl (lv_at hl 3 rfl) ?_
  refine lv_iconst (v := 1) hx hb d_P_goUp_42 (by decide) ?_
  refine lv_iload_n hx hb d_P_goUp_43 rfl (lv_at hl 2 rfl) ?_
  refine lv_iload hx hb d_P_goUp_44 (lv_at hl 0 rfl) ?_
  refine lv_iadd hx hb d_P_goUp_46 ?_
  refine lv_aload_n hx hb d_P_goUp_47 rfl (lv_at hl 4 rfl) ?_
  have hF1 := free_all hD hS hA
  obtain ⟨y48, hq48, hM⟩ := bV_some hM
  refine va_callv (va_runV (As := [.int 1, .int (((σ 4).2 1 (0 : Int32).toNatClampNeg) + ((σ 4).2 1 (2 : Int32).toNatClampNeg)), .ref (ad 0 9)]) (rest := []) ⟨hx, hb, hml, hown, hts⟩ (c_P_growTo l dC dI ad cs _ N σ38 1 (((σ 4).2 1 (0 : Int32).toNatClampNeg) + ((σ 4).2 1 (2 : Int32).toNatClampNeg)) hq48) (cwV 3 hts (goodV k_538 k_540 ks_P_growTo k_3 k_541) rfl rfl rfl ⟨rfl, by decide, by decide, by decide +kernel⟩ ⟨Nat.le_of_ble_eq_true rfl, Nat.le_of_ble_eq_true rfl⟩) ⟨blindX, va_recv hK hP rfl (g_P), payX hP hK hD hN⟩ rfl rfl hl.1 rfl (lv_room (Nat.le_of_ble_eq_true rfl)) d_P_goUp_48 ⟨Nat.zero_le _, Nat.zero_le _⟩) hS (fun q _ h => hF1 q h) hF1 (fun σ48 t H locs ht hvm hpost hB hz1 hk1 hS => ?_)
  subst hpost
  obtain ⟨hP1, hK1, hD1⟩ := hB
  rw [ht] at hP1
  have hP := hP1
  have hD := hD1.weaken (fun _ _ _ h => hF1 _ h)
  refine lv_aload_n hx hb d_P_goUp_51 rfl (lv_at hl 3 rfl) ?_
  refine lv_iconst (v := 2) hx hb d_P_goUp_52 (by decide) ?_
  refine lv_iload_n hx hb d_P_goUp_53 rfl (lv_at hl 2 rfl) ?_
  refine lv_aload_n hx hb d_P_goUp_54 rfl (lv_at hl 4 rfl) ?_
  have hF1 := free_all hD hS hA
  obtain ⟨y55, hq55, hM⟩ := bV_some hM
  refine va_callv (va_runV (As := [.int 2, .int ((σ 4).2 1 (0 : Int32).toNatClampNeg), .ref (ad 0 9)]) (rest := []) ⟨hx, hb, hml, hown, hts⟩ (c_P_growTo l dC dI ad cs _ N σ48 2 ((σ 4).2 1 (0 : Int32).toNatClampNeg) hq55) (cwV 3 hts (goodV k_538 k_540 ks_P_growTo k_3 k_541) rfl rfl rfl ⟨rfl, by decide, by decide, by decide +kernel⟩ ⟨Nat.le_of_ble_eq_true rfl, Nat.le_of_ble_eq_true rfl⟩) ⟨blindX, va_recv hK hP rfl (g_P), payX hP hK hD hN⟩ rfl rfl hl.1 rfl (lv_room (Nat.le_of_ble_eq_true rfl)) d_P_goUp_55 ⟨Nat.zero_le _, Nat.zero_le _⟩) hS (fun q _ h => hF1 q h) hF1 (fun σ55 t H locs ht hvm hpost hB hz1 hk1 hS => ?_)
  subst hpost
  obtain ⟨hP1, hK1, hD1⟩ := hB
  rw [ht] at hP1
  have hP := hP1
  have hD := hD1.weaken (fun _ _ _ h => hF1 _ h)
  have e9 := Option.some.inj hM
  exact W.vret hx hb hr (fun t ht hW => ⟨⟨σ55, rfl, e9, by rw [ht]; exact hP, va_K.moved hW.alike hK, hD⟩, hS.F ht⟩) hS.2.2 d_P_goUp_58

theorem d_P_placeOfNextRun_0 : decode b_P_placeOfNextRun 0 = .ok (.aload_n 1, 1) := by decide +kernel
theorem d_P_placeOfNextRun_1 : decode b_P_placeOfNextRun 1 = .ok (.aload_n 0, 1) := by decide +kernel
theorem d_P_placeOfNextRun_2 : decode b_P_placeOfNextRun 2 = .ok (.getfield 19, 3) := by decide +kernel
theorem d_P_placeOfNextRun_5 : decode b_P_placeOfNextRun 5 = .ok (.aaload, 1) := by decide +kernel
theorem d_P_placeOfNextRun_6 : decode b_P_placeOfNextRun 6 = .ok (.invokevirtual 28, 3) := by decide +kernel
theorem d_P_placeOfNextRun_9 : decode b_P_placeOfNextRun 9 = .ok (.istore_n 2, 1) := by decide +kernel
theorem d_P_placeOfNextRun_10 : decode b_P_placeOfNextRun 10 = .ok (.aload_n 0, 1) := by decide +kernel
theorem d_P_placeOfNextRun_11 : decode b_P_placeOfNextRun 11 = .ok (.getfield 19, 3) := by decide +kernel
theorem d_P_placeOfNextRun_14 : decode b_P_placeOfNextRun 14 = .ok (.iconst 1, 1) := by decide +kernel
theorem d_P_placeOfNextRun_15 : decode b_P_placeOfNextRun 15 = .ok (.iadd, 1) := by decide +kernel
theorem d_P_placeOfNextRun_16 : decode b_P_placeOfNextRun 16 = .ok (.iconst 3, 1) := by decide +kernel
theorem d_P_placeOfNextRun_17 : decode b_P_placeOfNextRun 17 = .ok (.if_icmp .ge 33, 3) := by decide +kernel
theorem d_P_placeOfNextRun_20 : decode b_P_placeOfNextRun 20 = .ok (.iload_n 2, 1) := by decide +kernel
theorem d_P_placeOfNextRun_21 : decode b_P_placeOfNextRun 21 = .ok (.aload_n 1, 1) := by decide +kernel
theorem d_P_placeOfNextRun_22 : decode b_P_placeOfNextRun 22 = .ok (.aload_n 0, 1) := by decide +kernel
theorem d_P_placeOfNextRun_23 : decode b_P_placeOfNextRun 23 = .ok (.getfield 19, 3) := by decide +kernel
theorem d_P_placeOfNextRun_26 : decode b_P_placeOfNextRun 26 = .ok (.iconst 1, 1) := by decide +kernel
theorem d_P_placeOfNextRun_27 : decode b_P_placeOfNextRun 27 = .ok (.iadd, 1) := by decide +kernel
theorem d_P_placeOfNextRun_28 : decode b_P_placeOfNextRun 28 = .ok (.aaload, 1) := by decide +kernel
theorem d_P_placeOfNextRun_29 : decode b_P_placeOfNextRun 29 = .ok (.invokevirtual 28, 3) := by decide +kernel
theorem d_P_placeOfNextRun_32 : decode b_P_placeOfNextRun 32 = .ok (.if_icmp .ge 18, 3) := by decide +kernel
theorem d_P_placeOfNextRun_35 : decode b_P_placeOfNextRun 35 = .ok (.aload_n 0, 1) := by decide +kernel
theorem d_P_placeOfNextRun_36 : decode b_P_placeOfNextRun 36 = .ok (.dup, 1) := by decide +kernel
theorem d_P_placeOfNextRun_37 : decode b_P_placeOfNextRun 37 = .ok (.getfield 19, 3) := by decide +kernel
theorem d_P_placeOfNextRun_40 : decode b_P_placeOfNextRun 40 = .ok (.iconst 1, 1) := by decide +kernel
theorem d_P_placeOfNextRun_41 : decode b_P_placeOfNextRun 41 = .ok (.iadd, 1) := by decide +kernel
theorem d_P_placeOfNextRun_42 : decode b_P_placeOfNextRun 42 = .ok (.putfield 19, 3) := by decide +kernel
theorem d_P_placeOfNextRun_45 : decode b_P_placeOfNextRun 45 = .ok (.aload_n 0, 1) := by decide +kernel
theorem d_P_placeOfNextRun_46 : decode b_P_placeOfNextRun 46 = .ok (.getfield 19, 3) := by decide +kernel
theorem d_P_placeOfNextRun_49 : decode b_P_placeOfNextRun 49 = .ok (.ireturn, 1) := by decide +kernel
theorem d_P_placeOfNextRun_50 : decode b_P_placeOfNextRun 50 = .ok (.iload_n 2, 1) := by decide +kernel
theorem d_P_placeOfNextRun_51 : decode b_P_placeOfNextRun 51 = .ok (.ifCond .ne 8, 3) := by decide +kernel
theorem d_P_placeOfNextRun_54 : decode b_P_placeOfNextRun 54 = .ok (.aload_n 0, 1) := by decide +kernel
theorem d_P_placeOfNextRun_55 : decode b_P_placeOfNextRun 55 = .ok (.aload_n 1, 1) := by decide +kernel
theorem d_P_placeOfNextRun_56 : decode b_P_placeOfNextRun 56 = .ok (.invokevirtual 32, 3) := by decide +kernel
theorem d_P_placeOfNextRun_59 : decode b_P_placeOfNextRun 59 = .ok (.aload_n 0, 1) := by decide +kernel
theorem d_P_placeOfNextRun_60 : decode b_P_placeOfNextRun 60 = .ok (.iconst 0, 1) := by decide +kernel
theorem d_P_placeOfNextRun_61 : decode b_P_placeOfNextRun 61 = .ok (.putfield 19, 3) := by decide +kernel
theorem d_P_placeOfNextRun_64 : decode b_P_placeOfNextRun 64 = .ok (.aload_n 0, 1) := by decide +kernel
theorem d_P_placeOfNextRun_65 : decode b_P_placeOfNextRun 65 = .ok (.getfield 19, 3) := by decide +kernel
theorem d_P_placeOfNextRun_68 : decode b_P_placeOfNextRun 68 = .ok (.ireturn, 1) := by decide +kernel
def m_P_placeOfNextRun_50 (N : Nat) (σ : SX) (v2 : Int32) : Option (Int32 × SX) :=
    (if v2 = 0 then (bV (m_P_goUp N σ) fun σ56 => some ((((w1 σ56 4 1 0) 4).1 1), (w1 σ56 4 1 0))) else some ((((w1 σ 4 1 0) 4).1 1), (w1 σ 4 1 0)))

def m_P_placeOfNextRun (N : Nat) (σ : SX) : Option (Int32 × SX) :=
  (if inb ((σ 4).1 1) 4 = true then (bI (m_T_dummyCount N σ (((σ 4).1 1).toNatClampNeg)) fun r6 σ6 => (if 3 ≤ (((σ 4).1 1) + 1) then m_P_placeOfNextRun_50 N σ r6 else (if inb (((σ 4).1 1) + 1) 4 = true then (bI (m_T_dummyCount N σ ((((σ 4).1 1) + 1).toNatClampNeg)) fun r29 σ29 => (if r29 ≤ r6 then m_P_placeOfNextRun_50 N σ r6 else some ((((w1 σ 4 1 (((σ 4).1 1) + 1)) 4).1 1), (w1 σ 4 1 (((σ 4).1 1) + 1))))) else none))) else none)

set_option maxHeartbeats 4000000 in
set_option maxRecDepth 100000 in
theorem c_P_placeOfNextRun (l : Launch) (dC : Nat → ClassId) (dI : Nat → Nat → Nat) (ad : Nat → Nat → Nat) (cs : Nat → ClassId) (sz N : Nat) (σ : SX) {r0 : Int32} {σ0 : SX} (hM : m_P_placeOfNextRun N σ = some (r0, σ0)) : Met l y_P_placeOfNextRun (wd y_P_placeOfNextRun b_P_placeOfNextRun 3 (some .int)) ({ frames := 3, cells := 0, slots := 0, locals := 68 }) (va_Pc [.ref (ad 4 0), .ref (ad 0 9)] (preX dC dI ad cs sz σ)) (va_Qi (fun (r : Int32) (u : SX) => r = r0 ∧ u = σ0) (atX dC dI ad cs (va_A (wX ad cs σ) sz)) (va_A (wX ad cs σ) sz)) 0 0 (va_A (wX ad cs σ) sz) := by
  refine Met.ofW (cc := b_P_placeOfNextRun) (maxL := 3) (ret := (some .int)) (by decide) rfl ?_
  intro p e s m args below meth c s₁ B hml hv
  obtain ⟨rfl, hsz, hP, hK, hD0, hN⟩ := hv
  have hx := B.exec
  have hb := B.bytes
  have hr := B.returns
  have hts := atoms_spec (ws := (wd y_P_placeOfNextRun b_P_placeOfNextRun 3 (some .int))) B.pre
  have htb : ∀ w ∈ tb, w.before _ s = true := fun w h => hts w (List.mem_cons_of_mem _ h)
  have hown : s.vm.findClass R_P = some m.cls := findClass_of_methodNamed B.named
  have hlocks := B.notSynchronized
  subst hsz
  have hD := hD0.self (sz := s.heap.size)
  generalize hAe : va_A (wX ad cs σ) s.heap.size = A at hD ⊢
  have hA : ∀ q : Nat, s.heap.size ≤ q → A q := fun q h => by rw [← hAe]; exact Or.inr h
  have hS : va_S A s.heap s.heap [] := va_S.rf
  have hP : va_P (dC, dI) classes (wX ad cs σ) s.heap := hP
  have hl := lv_entry ([.ref (ad 4 0), .ref (ad 0 9)]) (n := 3) (Nat.le_of_ble_eq_true rfl)
  rw [lg_entry_eq]
  generalize (lg_sl ([.ref (ad 4 0), .ref (ad 0 9)]) ++ List.replicate (3 - (lg_sl ([.ref (ad 4 0), .ref (ad 0 9)])).length) Slot.unset).toArray = ls at hl ⊢
  have hl : lv_has ls 3 [(0, .ref (ad 4 0)), (1, .ref (ad 0 9))] := hl
  rw [m_P_placeOfNextRun] at hM
  refine W_cut (pc := 50) (fun H locs ls st => ∃ (σ : SX) (v2 : Int32), st = [] ∧ m_P_placeOfNextRun_50 N σ v2 = some (r0, σ0) ∧ lv_has ls 3 [(0, .ref (ad 4 0)), (1, .ref (ad 0 9)), (2, .int v2)] ∧ va_P (dC, dI) classes (wX ad cs σ) H ∧ va_D A (wX ad cs σ) ∧ va_S A s.heap H locs) ?_ ?_
  · intro H locs ls st hI
    obtain ⟨σ, v2, rfl, hM, hl, hP, hD, hS⟩ := hI
    rw [m_P_placeOfNextRun_50] at hM
    refine lv_iload_n hx hb d_P_placeOfNextRun_50 rfl (lv_at hl 2 rfl) ?_
    refine lv_if_ne (tgt := 59) hx hb d_P_placeOfNextRun_51 (by decide) (fun h51 => ?_) (fun h51 => ?_)
    · rw [if_neg h51] at hM
      refine lv_aload_n hx hb d_P_placeOfNextRun_59 rfl (lv_at hl 0 rfl) ?_
      refine lv_iconst (v := 0) hx hb d_P_placeOfNextRun_60 (by decide) ?_
      refine va_put (D := (dC, dI)) (ci := 3) (v := .int 0) (ty := .int) (C := R_P) (T := F_P) (N := 3) hx hb htb in_P ft_P ft_P_ok n_P hown hK hP hD hS 13 (g_P) rfl 2 (by decide) (htb _ k_57) (fun _ h9 => h9) rfl (by decide +kernel) rfl rfl (Nat.le_of_ble_eq_true rfl) d_P_placeOfNextRun_61 (fun H locs hP hD hS => ?_)
      have hP := P_eq (s_P_1) hP
      have hD := D_eq (s_P_1) hD
      refine lv_aload_n hx hb d_P_placeOfNextRun_64 rfl (lv_at hl 0 rfl) ?_
      refine va_get (D := (dC, dI)) (ci := 3) (v := .int (((w1 σ 4 1 0) 4).1 1)) (C := R_P) (T := F_P) (N := 3) hx hb htb in_P hown hK hP 13 (g_P) rfl 2 (by decide) (htb _ k_57) (fun _ h9 => h9) rfl d_P_placeOfNextRun_65 ?_
      have e9 := Prod.mk.inj (Option.some.inj hM)
      exact W.iret (v := (((w1 σ 4 1 0) 4).1 1)) hx hb hr (fun t ht hW => ⟨⟨(((w1 σ 4 1 0) 4).1 1), (w1 σ 4 1 0), rfl, e9, by rw [ht]; exact hP, va_K.moved hW.alike hK, hD⟩, hS.F ht⟩) hS.2.2 d_P_placeOfNextRun_68
    · rw [if_pos h51] at hM
      refine lv_aload_n hx hb d_P_placeOfNextRun_54 rfl (lv_at hl 0 rfl) ?_
      refine lv_aload_n hx hb d_P_placeOfNextRun_55 rfl (lv_at hl 1 rfl) ?_
      have hF1 := free_all hD hS hA
      obtain ⟨y56, hq56, hM⟩ := bV_some hM
      refine va_callv (va_runV (As := [.ref (ad 0 9)]) (rest := []) ⟨hx, hb, hml, hown, hts⟩ (c_P_goUp l dC dI ad cs _ N σ hq56) (cwV 1 hts (goodV k_534 k_536 ks_P_goUp k_3 k_537) rfl rfl rfl ⟨rfl, by decide, by decide, by decide +kernel⟩ ⟨Nat.le_of_ble_eq_true rfl, Nat.le_of_ble_eq_true rfl⟩) ⟨blindX, va_recv hK hP rfl (g_P), payX hP hK hD hN⟩ rfl rfl hl.1 rfl (lv_room (Nat.le_of_ble_eq_true rfl)) d_P_placeOfNextRun_56 ⟨Nat.zero_le _, Nat.zero_le _⟩) hS (fun q _ h => hF1 q h) hF1 (fun σ56 t H locs ht hvm hpost hB hz1 hk1 hS => ?_)
      subst hpost
      obtain ⟨hP1, hK1, hD1⟩ := hB
      rw [ht] at hP1
      have hP := hP1
      have hD := hD1.weaken (fun _ _ _ h => hF1 _ h)
      refine lv_aload_n hx hb d_P_placeOfNextRun_59 rfl (lv_at hl 0 rfl) ?_
      refine lv_iconst (v := 0) hx hb d_P_placeOfNextRun_60 (by decide) ?_
      refine va_put (D := (dC, dI)) (ci := 3) (v := .int 0) (ty := .int) (C := R_P) (T := F_P) (N := 3) hx hb htb in_P ft_P ft_P_ok n_P hown hK hP hD hS 13 (g_P) rfl 2 (by decide) (htb _ k_57) (fun _ h9 => h9) rfl (by decide +kernel) rfl rfl (Nat.le_of_ble_eq_true rfl) d_P_placeOfNextRun_61 (fun H locs hP hD hS => ?_)
      have hP := P_eq (s_P_1) hP
      have hD := D_eq (s_P_1) hD
      refine lv_aload_n hx hb d_P_placeOfNextRun_64 rfl (lv_at hl 0 rfl) ?_
      refine va_get (D := (dC, dI)) (ci := 3) (v := .int (((w1 σ56 4 1 0) 4).1 1)) (C := R_P) (T := F_P) (N := 3) hx hb htb in_P hown hK hP 13 (g_P) rfl 2 (by decide) (htb _ k_57) (fun _ h9 => h9) rfl d_P_placeOfNextRun_65 ?_
      have e9 := Prod.mk.inj (Option.some.inj hM)
      exact W.iret (v := (((w1 σ56 4 1 0) 4).1 1)) hx hb hr (fun t ht hW => ⟨⟨(((w1 σ56 4 1 0) 4).1 1), (w1 σ56 4 1 0), rfl, e9, by rw [ht]; exact hP, va_K.moved hW.alike hK, hD⟩, hS.F ht⟩) hS.2.2 d_P_placeOfNextRun_68
  intro K50
  refine lv_aload_n hx hb d_P_placeOfNextRun_0 rfl (lv_at hl 1 rfl) ?_
  refine lv_aload_n hx hb d_P_placeOfNextRun_1 rfl (lv_at hl 0 rfl) ?_
  refine va_get (D := (dC, dI)) (ci := 3) (v := .int ((σ 4).1 1)) (C := R_P) (T := F_P) (N := 3) hx hb htb in_P hown hK hP 13 (g_P) rfl 2 (by decide) (htb _ k_57) (fun _ h9 => h9) rfl d_P_placeOfNextRun_2 ?_
  have hg5 := gd_c hM
  have hM := gd_v hM
  refine va_aldq hx hb hK hP 18 2 (f := fun i => some (ad (7 + i) 0)) g_tapes rfl (inb_in hg5) d_P_placeOfNextRun_5 ?_
  refine W.eq (g2 := F0 m 6 ls [.ref (ad (7 + ((σ 4).1 1).toNatClampNeg) 0)]) rfl ?_
  obtain ⟨x6, y6, hq6, hM⟩ := bI_some hM
  refine va_calli (va_runV (As := []) (rest := []) ⟨hx, hb, hml, hown, hts⟩ (c_T_dummyCount l dC dI ad cs _ N σ (((σ 4).1 1).toNatClampNeg) (inb_lt hg5) hq6) (cwV 0 hts (goodV k_533 k_257 k_258 k_7 k_259) rfl rfl rfl ⟨rfl, by decide, by decide, by decide +kernel⟩ ⟨Nat.le_of_ble_eq_true rfl, Nat.le_of_ble_eq_true rfl⟩) ⟨blindX, va_recv hK hP rfl (g_T (inb_lt hg5)), payX hP hK hD hN⟩ rfl rfl hl.1 rfl (lv_room (Nat.le_of_ble_eq_true rfl)) d_P_placeOfNextRun_6 ⟨Nat.zero_le _, Nat.zero_le _⟩) hS (fun q h0 h => absurd h0 (Nat.not_lt.mpr h)) (fun q h => hA q (Nat.le_trans hS.1 h)) (fun r6 u t H locs ht hvm hpost hB hz1 hk1 hS => ?_)
  obtain ⟨e1, e2⟩ := hpost
  subst e1
  subst e2
  have hP := keepP hP hk1
  refine lv_istore_n hx hb d_P_placeOfNextRun_9 rfl hl (by decide) (lv' := [(2, .int r6), (0, .ref (ad 4 0)), (1, .ref (ad 0 9))]) rfl (fun ls hl => ?_)
  refine lv_aload_n hx hb d_P_placeOfNextRun_10 rfl (lv_at hl 1 rfl) ?_
  refine va_get (D := (dC, dI)) (ci := 3) (v := .int ((σ 4).1 1)) (C := R_P) (T := F_P) (N := 3) hx hb htb in_P hown hK hP 13 (g_P) rfl 2 (by decide) (htb _ k_57) (fun _ h9 => h9) rfl d_P_placeOfNextRun_11 ?_
  refine lv_iconst (v := 1) hx hb d_P_placeOfNextRun_14 (by decide) ?_
  refine lv_iadd hx hb d_P_placeOfNextRun_15 ?_
  refine lv_iconst (v := 3) hx hb d_P_placeOfNextRun_16 (by decide) ?_
  refine lv_icmp_ge (tgt := 50) hx hb d_P_placeOfNextRun_17 (by decide) (fun h17 => ?_) (fun h17 => ?_)
  · rw [if_pos h17] at hM
    exact K50 _ _ _ _ ⟨σ, r6, rfl, hM, lv_sub hl [1, 2, 0] rfl, hP, hD, hS⟩
  · rw [if_neg h17] at hM
    refine lv_iload_n hx hb d_P_placeOfNextRun_20 rfl (lv_at hl 0 rfl) ?_
    refine lv_aload_n hx hb d_P_placeOfNextRun_21 rfl (lv_at hl 2 rfl) ?_
    refine lv_aload_n hx hb d_P_placeOfNextRun_22 rfl (lv_at hl 1 rfl) ?_
    refine va_get (D := (dC, dI)) (ci := 3) (v := .int ((σ 4).1 1)) (C := R_P) (T := F_P) (N := 3) hx hb htb in_P hown hK hP 13 (g_P) rfl 2 (by decide) (htb _ k_57) (fun _ h9 => h9) rfl d_P_placeOfNextRun_23 ?_
    refine lv_iconst (v := 1) hx hb d_P_placeOfNextRun_26 (by decide) ?_
    refine lv_iadd hx hb d_P_placeOfNextRun_27 ?_
    have hg28 := gd_c hM
    have hM := gd_v hM
    refine va_aldq hx hb hK hP 18 2 (f := fun i => some (ad (7 + i) 0)) g_tapes rfl (inb_in hg28) d_P_placeOfNextRun_28 ?_
    refine W.eq (g2 := F0 m 29 ls [.ref (ad (7 + (((σ 4).1 1) + 1).toNatClampNeg) 0), .int r6]) rfl ?_
    obtain ⟨x29, y29, hq29, hM⟩ := bI_some hM
    refine va_calli (va_runV (As := []) (rest := [.int r6]) ⟨hx, hb, hml, hown, hts⟩ (c_T_dummyCount l dC dI ad cs _ N σ ((((σ 4).1 1) + 1).toNatClampNeg) (inb_lt hg28) hq29) (cwV 0 hts (goodV k_533 k_257 k_258 k_7 k_259) rfl rfl rfl ⟨rfl, by decide, by decide, by decide +kernel⟩ ⟨Nat.le_of_ble_eq_true rfl, Nat.le_of_ble_eq_true rfl⟩) ⟨blindX, va_recv hK hP rfl (g_T (inb_lt hg28)), payX hP hK hD hN⟩ rfl rfl hl.1 rfl (lv_room (Nat.le_of_ble_eq_true rfl)) d_P_placeOfNextRun_29 ⟨Nat.zero_le _, Nat.zero_le _⟩) hS (fun q h0 h => absurd h0 (Nat.not_lt.mpr h)) (fun q h => hA q (Nat.le_trans hS.1 h)) (fun r29 u t H locs ht hvm hpost hB hz1 hk1 hS => ?_)
    obtain ⟨e1, e2⟩ := hpost
    subst e1
    subst e2
    have hP := keepP hP hk1
    refine lv_icmp_ge (tgt := 50) hx hb d_P_placeOfNextRun_32 (by decide) (fun h32 => ?_) (fun h32 => ?_)
    · rw [if_pos h32] at hM
      exact K50 _ _ _ _ ⟨σ, r6, rfl, hM, lv_sub hl [1, 2, 0] rfl, hP, hD, hS⟩
    · rw [if_neg h32] at hM
      refine lv_aload_n hx hb d_P_placeOfNextRun_35 rfl (lv_at hl 1 rfl) ?_
      refine lv_dup hx hb d_P_placeOfNextRun_36 rfl ?_
      refine va_get (D := (dC, dI)) (ci := 3) (v := .int ((σ 4).1 1)) (C := R_P) (T := F_P) (N := 3) hx hb htb in_P hown hK hP 13 (g_P) rfl 2 (by decide) (htb _ k_57) (fun _ h9 => h9) rfl d_P_placeOfNextRun_37 ?_
      refine lv_iconst (v := 1) hx hb d_P_placeOfNextRun_40 (by decide) ?_
      refine lv_iadd hx hb d_P_placeOfNextRun_41 ?_
      refine va_put (D := (dC, dI)) (ci := 3) (v := .int (((σ 4).1 1) + 1)) (ty := .int) (C := R_P) (T := F_P) (N := 3) hx hb htb in_P ft_P ft_P_ok n_P hown hK hP hD hS 13 (g_P) rfl 2 (by decide) (htb _ k_57) (fun _ h9 => h9) rfl (by decide +kernel) rfl rfl (Nat.le_of_ble_eq_true rfl) d_P_placeOfNextRun_42 (fun H locs hP hD hS => ?_)
      have hP := P_eq (s_P_1) hP
      have hD := D_eq (s_P_1) hD
      refine lv_aload_n hx hb d_P_placeOfNextRun_45 rfl (lv_at hl 1 rfl) ?_
      refine va_get (D := (dC, dI)) (ci := 3) (v := .int (((w1 σ 4 1 (((σ 4).1 1) + 1)) 4).1 1)) (C := R_P) (T := F_P) (N := 3) hx hb htb in_P hown hK hP 13 (g_P) rfl 2 (by decide) (htb _ k_57) (fun _ h9 => h9) rfl d_P_placeOfNextRun_46 ?_
      have e9 := Prod.mk.inj (Option.some.inj hM)
      exact W.iret (v := (((w1 σ 4 1 (((σ 4).1 1) + 1)) 4).1 1)) hx hb hr (fun t ht hW => ⟨⟨(((w1 σ 4 1 (((σ 4).1 1) + 1)) 4).1 1), (w1 σ 4 1 (((σ 4).1 1) + 1)), rfl, e9, by rw [ht]; exact hP, va_K.moved hW.alike hK, hD⟩, hS.F ht⟩) hS.2.2 d_P_placeOfNextRun_49

theorem d_T_append_0 : decode b_T_append 0 = .ok (.aload_n 0, 1) := by decide +kernel
theorem d_T_append_1 : decode b_T_append 1 = .ok (.getfield 22, 3) := by decide +kernel
theorem d_T_append_4 : decode b_T_append 4 = .ok (.sipush 150, 3) := by decide +kernel
theorem d_T_append_7 : decode b_T_append 7 = .ok (.if_icmp .ge 18, 3) := by decide +kernel
theorem d_T_append_10 : decode b_T_append 10 = .ok (.aload_n 1, 1) := by decide +kernel
theorem d_T_append_11 : decode b_T_append 11 = .ok (.getfield 35, 3) := by decide +kernel
theorem d_T_append_14 : decode b_T_append 14 = .ok (.sipush 150, 3) := by decide +kernel
theorem d_T_append_17 : decode b_T_append 17 = .ok (.aload_n 0, 1) := by decide +kernel
theorem d_T_append_18 : decode b_T_append 18 = .ok (.getfield 18, 3) := by decide +kernel
theorem d_T_append_21 : decode b_T_append 21 = .ok (.isub, 1) := by decide +kernel
theorem d_T_append_22 : decode b_T_append 22 = .ok (.if_icmp .le 4, 3) := by decide +kernel
theorem d_T_append_25 : decode b_T_append 25 = .ok (.return_, 1) := by decide +kernel
theorem d_T_append_26 : decode b_T_append 26 = .ok (.aload_n 1, 1) := by decide +kernel
theorem d_T_append_27 : decode b_T_append 27 = .ok (.getfield 40, 3) := by decide +kernel
theorem d_T_append_30 : decode b_T_append 30 = .ok (.iconst 0, 1) := by decide +kernel
theorem d_T_append_31 : decode b_T_append 31 = .ok (.aload_n 0, 1) := by decide +kernel
theorem d_T_append_32 : decode b_T_append 32 = .ok (.getfield 9, 3) := by decide +kernel
theorem d_T_append_35 : decode b_T_append 35 = .ok (.aload_n 0, 1) := by decide +kernel
theorem d_T_append_36 : decode b_T_append 36 = .ok (.getfield 18, 3) := by decide +kernel
theorem d_T_append_39 : decode b_T_append 39 = .ok (.aload_n 1, 1) := by decide +kernel
theorem d_T_append_40 : decode b_T_append 40 = .ok (.getfield 35, 3) := by decide +kernel
theorem d_T_append_43 : decode b_T_append 43 = .ok (.invokestatic 41, 3) := by decide +kernel
theorem d_T_append_46 : decode b_T_append 46 = .ok (.aload_n 0, 1) := by decide +kernel
theorem d_T_append_47 : decode b_T_append 47 = .ok (.dup, 1) := by decide +kernel
theorem d_T_append_48 : decode b_T_append 48 = .ok (.getfield 18, 3) := by decide +kernel
theorem d_T_append_51 : decode b_T_append 51 = .ok (.aload_n 1, 1) := by decide +kernel
theorem d_T_append_52 : decode b_T_append 52 = .ok (.getfield 35, 3) := by decide +kernel
theorem d_T_append_55 : decode b_T_append 55 = .ok (.iadd, 1) := by decide +kernel
theorem d_T_append_56 : decode b_T_append 56 = .ok (.putfield 18, 3) := by decide +kernel
theorem d_T_append_59 : decode b_T_append 59 = .ok (.aload_n 0, 1) := by decide +kernel
theorem d_T_append_60 : decode b_T_append 60 = .ok (.getfield 15, 3) := by decide +kernel
theorem d_T_append_63 : decode b_T_append 63 = .ok (.aload_n 0, 1) := by decide +kernel
theorem d_T_append_64 : decode b_T_append 64 = .ok (.getfield 22, 3) := by decide +kernel
theorem d_T_append_67 : decode b_T_append 67 = .ok (.aload_n 1, 1) := by decide +kernel
theorem d_T_append_68 : decode b_T_append 68 = .ok (.getfield 35, 3) := by decide +kernel
theorem d_T_append_71 : decode b_T_append 71 = .ok (.iastore, 1) := by decide +kernel
theorem d_T_append_72 : decode b_T_append 72 = .ok (.aload_n 0, 1) := by decide +kernel
theorem d_T_append_73 : decode b_T_append 73 = .ok (.dup, 1) := by decide +kernel
theorem d_T_append_74 : decode b_T_append 74 = .ok (.getfield 22, 3) := by decide +kernel
theorem d_T_append_77 : decode b_T_append 77 = .ok (.iconst 1, 1) := by decide +kernel
theorem d_T_append_78 : decode b_T_append 78 = .ok (.iadd, 1) := by decide +kernel
theorem d_T_append_79 : decode b_T_append 79 = .ok (.putfield 22, 3) := by decide +kernel
theorem d_T_append_82 : decode b_T_append 82 = .ok (.return_, 1) := by decide +kernel
def m_T_append (N : Nat) (σ : SX) (i : Nat) : Option (SX) :=
  (if 150 ≤ ((σ (7 + i)).1 1) then some σ else (if ((σ 6).1 0) ≤ (150 - ((σ (7 + i)).1 0)) then (if cpok 0 ((σ (7 + i)).1 0) ((σ 6).1 0) 150 150 = true then (if inb (((w1 (w2 σ (7 + i) 1 (va_cpy ((σ 6).2 1) ((σ (7 + i)).2 1) (0 : Int32).toNatClampNeg ((σ (7 + i)).1 0).toNatClampNeg ((σ 6).1 0).toNatClampNeg)) (7 + i) 0 ((((w2 σ (7 + i) 1 (va_cpy ((σ 6).2 1) ((σ (7 + i)).2 1) (0 : Int32).toNatClampNeg ((σ (7 + i)).1 0).toNatClampNeg ((σ 6).1 0).toNatClampNeg)) (7 + i)).1 0) + (((w2 σ (7 + i) 1 (va_cpy ((σ 6).2 1) ((σ (7 + i)).2 1) (0 : Int32).toNatClampNeg ((σ (7 + i)).1 0).toNatClampNeg ((σ 6).1 0).toNatClampNeg)) 6).1 0))) (7 + i)).1 1) 150 = true then some (w1 (w3 (w1 (w2 σ (7 + i) 1 (va_cpy ((σ 6).2 1) ((σ (7 + i)).2 1) (0 : Int32).toNatClampNeg ((σ (7 + i)).1 0).toNatClampNeg ((σ 6).1 0).toNatClampNeg)) (7 + i) 0 ((((w2 σ (7 + i) 1 (va_cpy ((σ 6).2 1) ((σ (7 + i)).2 1) (0 : Int32).toNatClampNeg ((σ (7 + i)).1 0).toNatClampNeg ((σ 6).1 0).toNatClampNeg)) (7 + i)).1 0) + (((w2 σ (7 + i) 1 (va_cpy ((σ 6).2 1) ((σ (7 + i)).2 1) (0 : Int32).toNatClampNeg ((σ (7 + i)).1 0).toNatClampNeg ((σ 6).1 0).toNatClampNeg)) 6).1 0))) (7 + i) 2 (((w1 (w2 σ (7 + i) 1 (va_cpy ((σ 6).2 1) ((σ (7 + i)).2 1) (0 : Int32).toNatClampNeg ((σ (7 + i)).1 0).toNatClampNeg ((σ 6).1 0).toNatClampNeg)) (7 + i) 0 ((((w2 σ (7 + i) 1 (va_cpy ((σ 6).2 1) ((σ (7 + i)).2 1) (0 : Int32).toNatClampNeg ((σ (7 + i)).1 0).toNatClampNeg ((σ 6).1 0).toNatClampNeg)) (7 + i)).1 0) + (((w2 σ (7 + i) 1 (va_cpy ((σ 6).2 1) ((σ (7 + i)).2 1) (0 : Int32).toNatClampNeg ((σ (7 + i)).1 0).toNatClampNeg ((σ 6).1 0).toNatClampNeg)) 6).1 0))) (7 + i)).1 1) (((w1 (w2 σ (7 + i) 1 (va_cpy ((σ 6).2 1) ((σ (7 + i)).2 1) (0 : Int32).toNatClampNeg ((σ (7 + i)).1 0).toNatClampNeg ((σ 6).1 0).toNatClampNeg)) (7 + i) 0 ((((w2 σ (7 + i) 1 (va_cpy ((σ 6).2 1) ((σ (7 + i)).2 1) (0 : Int32).toNatClampNeg ((σ (7 + i)).1 0).toNatClampNeg ((σ 6).1 0).toNatClampNeg)) (7 + i)).1 0) + (((w2 σ (7 + i) 1 (va_cpy ((σ 6).2 1) ((σ (7 + i)).2 1) (0 : Int32).toNatClampNeg ((σ (7 + i)).1 0).toNatClampNeg ((σ 6).1 0).toNatClampNeg)) 6).1 0))) 6).1 0)) (7 + i) 1 ((((w3 (w1 (w2 σ (7 + i) 1 (va_cpy ((σ 6).2 1) ((σ (7 + i)).2 1) (0 : Int32).toNatClampNeg ((σ (7 + i)).1 0).toNatClampNeg ((σ 6).1 0).toNatClampNeg)) (7 + i) 0 ((((w2 σ (7 + i) 1 (va_cpy ((σ 6).2 1) ((σ (7 + i)).2 1) (0 : Int32).toNatClampNeg ((σ (7 + i)).1 0).toNatClampNeg ((σ 6).1 0).toNatClampNeg)) (7 + i)).1 0) + (((w2 σ (7 + i) 1 (va_cpy ((σ 6).2 1) ((σ (7 + i)).2 1) (0 : Int32).toNatClampNeg ((σ (7 + i)).1 0).toNatClampNeg ((σ 6).1 0).toNatClampNeg)) 6).1 0))) (7 + i) 2 (((w1 (w2 σ (7 + i) 1 (va_cpy ((σ 6).2 1) ((σ (7 + i)).2 1) (0 : Int32).toNatClampNeg ((σ (7 + i)).1 0).toNatClampNeg ((σ 6).1 0).toNatClampNeg)) (7 + i) 0 ((((w2 σ (7 + i) 1 (va_cpy ((σ 6).2 1) ((σ (7 + i)).2 1) (0 : Int32).toNatClampNeg ((σ (7 + i)).1 0).toNatClampNeg ((σ 6).1 0).toNatClampNeg)) (7 + i)).1 0) + (((w2 σ (7 + i) 1 (va_cpy ((σ 6).2 1) ((σ (7 + i)).2 1) (0 : Int32).toNatClampNeg ((σ (7 + i)).1 0).toNatClampNeg ((σ 6).1 0).toNatClampNeg)) 6).1 0))) (7 + i)).1 1) (((w1 (w2 σ (7 + i) 1 (va_cpy ((σ 6).2 1) ((σ (7 + i)).2 1) (0 : Int32).toNatClampNeg ((σ (7 + i)).1 0).toNatClampNeg ((σ 6).1 0).toNatClampNeg)) (7 + i) 0 ((((w2 σ (7 + i) 1 (va_cpy ((σ 6).2 1) ((σ (7 + i)).2 1) (0 : Int32).toNatClampNeg ((σ (7 + i)).1 0).toNatClampNeg ((σ 6).1 0).toNatClampNeg)) (7 + i)).1 0) + (((w2 σ (7 + i) 1 (va_cpy ((σ 6).2 1) ((σ (7 + i)).2 1) (0 : Int32).toNatClampNeg ((σ (7 + i)).1 0).toNatClampNeg ((σ 6).1 0).toNatClampNeg)) 6).1 0))) 6).1 0)) (7 + i)).1 1) + 1)) else none) else none) else some σ))

set_option maxHeartbeats 4000000 in
set_option maxRecDepth 100000 in
theorem c_T_append (l : Launch) (dC : Nat → ClassId) (dI : Nat → Nat → Nat) (ad : Nat → Nat → Nat) (cs : Nat → ClassId) (sz N : Nat) (σ : SX) (i : Nat) (hi : i < 4) {σ0 : SX} (hM : m_T_append N σ i = some σ0) : Met l y_T_append (wd y_T_append b_T_append 2 none) ({ frames := 1, cells := 0, slots := 0, locals := 60 }) (va_Pc [.ref (ad (7 + i) 0), .ref (ad 6 0)] (preX dC dI ad cs sz σ)) (va_Qv (fun (u : SX) => u = σ0) (atX dC dI ad cs (va_A (wX ad cs σ) sz)) (va_A (wX ad cs σ) sz)) 0 0 (va_A (wX ad cs σ) sz) := by
  refine Met.ofW (cc := b_T_append) (maxL := 2) (ret := none) (by decide) rfl ?_
  intro p e s m args below meth c s₁ B hml hv
  obtain ⟨rfl, hsz, hP, hK, hD0, hN⟩ := hv
  have hx := B.exec
  have hb := B.bytes
  have hr := B.returns
  have hts := atoms_spec (ws := (wd y_T_append b_T_append 2 none)) B.pre
  have htb : ∀ w ∈ tb, w.before _ s = true := fun w h => hts w (List.mem_cons_of_mem _ h)
  have hown : s.vm.findClass R_T = some m.cls := findClass_of_methodNamed B.named
  have hlocks := B.notSynchronized
  subst hsz
  have hD := hD0.self (sz := s.heap.size)
  generalize hAe : va_A (wX ad cs σ) s.heap.size = A at hD ⊢
  have hA : ∀ q : Nat, s.heap.size ≤ q → A q := fun q h => by rw [← hAe]; exact Or.inr h
  have hS : va_S A s.heap s.heap [] := va_S.rf
  have hP : va_P (dC, dI) classes (wX ad cs σ) s.heap := hP
  have hl := lv_entry ([.ref (ad (7 + i) 0), .ref (ad 6 0)]) (n := 2) (Nat.le_of_ble_eq_true rfl)
  rw [lg_entry_eq]
  generalize (lg_sl ([.ref (ad (7 + i) 0), .ref (ad 6 0)]) ++ List.replicate (2 - (lg_sl ([.ref (ad (7 + i) 0), .ref (ad 6 0)])).length) Slot.unset).toArray = ls at hl ⊢
  have hl : lv_has ls 2 [(0, .ref (ad (7 + i) 0)), (1, .ref (ad 6 0))] := hl
  rw [m_T_append] at hM
  refine lv_aload_n hx hb d_T_append_0 rfl (lv_at hl 0 rfl) ?_
  refine va_get (D := (dC, dI)) (ci := 6) (v := .int ((σ (7 + i)).1 1)) (C := R_T) (T := F_T) (N := 6) hx hb htb in_T hown hK hP (19 + 3 * i) (g_T hi) rfl 3 (by decide) (htb _ k_132) (fun _ h9 => h9) rfl d_T_append_1 ?_
  refine lv_sipush (v := 150) hx hb d_T_append_4 (by decide) ?_
  refine lv_icmp_ge (tgt := 25) hx hb d_T_append_7 (by decide) (fun h7 => ?_) (fun h7 => ?_)
  · rw [if_pos h7] at hM
    have e9 := Option.some.inj hM
    exact W.vret hx hb hr (fun t ht hW => ⟨⟨σ, rfl, e9, by rw [ht]; exact hP, va_K.moved hW.alike hK, hD⟩, hS.F ht⟩) hS.2.2 d_T_append_25
  · rw [if_neg h7] at hM
    refine lv_aload_n hx hb d_T_append_10 rfl (lv_at hl 1 rfl) ?_
    refine va_getN (D := (dC, dI)) (ci := 5) (v := .int ((σ 6).1 0)) (C := R_R) (T := F_R) (N := 2) hx hb htb in_R hown hK hP 16 (g_R) rfl 1 (by decide) (va_Nw.use rfl hN.2.2.2.2.2.1) (fun _ h9 => h9) rfl d_T_append_11 ?_
    refine lv_sipush (v := 150) hx hb d_T_append_14 (by decide) ?_
    refine lv_aload_n hx hb d_T_append_17 rfl (lv_at hl 0 rfl) ?_
    refine va_get (D := (dC, dI)) (ci := 6) (v := .int ((σ (7 + i)).1 0)) (C := R_T) (T := F_T) (N := 6) hx hb htb in_T hown hK hP (19 + 3 * i) (g_T hi) rfl 2 (by decide) (htb _ k_131) (fun _ h9 => h9) rfl d_T_append_18 ?_
    refine lv_isub hx hb d_T_append_21 ?_
    refine lv_icmp_le (tgt := 26) hx hb d_T_append_22 (by decide) (fun h22 => ?_) (fun h22 => ?_)
    · rw [if_pos h22] at hM
      refine lv_aload_n hx hb d_T_append_26 rfl (lv_at hl 1 rfl) ?_
      refine va_getN (D := (dC, dI)) (ci := 5) (v := .ref (ad 6 1)) (C := R_R) (T := F_R) (N := 2) hx hb htb in_R hown hK hP 16 (g_R) rfl 0 (by decide) (va_Nw.use rfl hN.2.2.2.2.1) (fun _ h9 => h9) rfl d_T_append_27 ?_
      refine lv_iconst (v := 0) hx hb d_T_append_30 (by decide) ?_
      refine lv_aload_n hx hb d_T_append_31 rfl (lv_at hl 0 rfl) ?_
      refine va_get (D := (dC, dI)) (ci := 6) (v := .ref (ad (7 + i) 1)) (C := R_T) (T := F_T) (N := 6) hx hb htb in_T hown hK hP (19 + 3 * i) (g_T hi) rfl 0 (by decide) (htb _ k_129) (fun _ h9 => h9) rfl d_T_append_32 ?_
      refine lv_aload_n hx hb d_T_append_35 rfl (lv_at hl 0 rfl) ?_
      refine va_get (D := (dC, dI)) (ci := 6) (v := .int ((σ (7 + i)).1 0)) (C := R_T) (T := F_T) (N := 6) hx hb htb in_T hown hK hP (19 + 3 * i) (g_T hi) rfl 2 (by decide) (htb _ k_131) (fun _ h9 => h9) rfl d_T_append_36 ?_
      refine lv_aload_n hx hb d_T_append_39 rfl (lv_at hl 1 rfl) ?_
      refine va_getN (D := (dC, dI)) (ci := 5) (v := .int ((σ 6).1 0)) (C := R_R) (T := F_R) (N := 2) hx hb htb in_R hown hK hP 16 (g_R) rfl 1 (by decide) (va_Nw.use rfl hN.2.2.2.2.2.1) (fun _ h9 => h9) rfl d_T_append_40 ?_
      have hc43 := gd_c hM
      have hM := gd_v hM
      refine va_copyi (own := R_T) (sp := 0) (dp := ((σ (7 + i)).1 0)) (n := ((σ 6).1 0)) hx hb (by rw [hml]; exact hl.1.symm) hown (htb _ k_547) (htb _ k_549) (htb _ k_548) (htb _ k_15) hK hP hD hS 17 (19 + 3 * i + 1) 0 0 (g_R_a1) (g_T_a1 hi) rfl rfl rfl (cpok_1 hc43) (cpok_2 hc43) (cpok_3 hc43) (cpok_4 hc43) (cpok_5 hc43) (fun _ _ => rfl) (Nat.le_of_ble_eq_true rfl) (by decide) d_T_append_43 (fun H locs hP hD hS => ?_)
      have hP := P_eq (u_T_1 hi) hP
      have hD := D_eq (u_T_1 hi) hD
      refine lv_aload_n hx hb d_T_append_46 rfl (lv_at hl 0 rfl) ?_
      refine lv_dup hx hb d_T_append_47 rfl ?_
      refine va_get (D := (dC, dI)) (ci := 6) (v := .int (((w2 σ (7 + i) 1 (va_cpy ((σ 6).2 1) ((σ (7 + i)).2 1) (0 : Int32).toNatClampNeg ((σ (7 + i)).1 0).toNatClampNeg ((σ 6).1 0).toNatClampNeg)) (7 + i)).1 0)) (C := R_T) (T := F_T) (N := 6) hx hb htb in_T hown hK hP (19 + 3 * i) (g_T hi) rfl 2 (by decide) (htb _ k_131) (fun _ h9 => h9) rfl d_T_append_48 ?_
      refine lv_aload_n hx hb d_T_append_51 rfl (lv_at hl 1 rfl) ?_
      refine va_getN (D := (dC, dI)) (ci := 5) (v := .int (((w2 σ (7 + i) 1 (va_cpy ((σ 6).2 1) ((σ (7 + i)).2 1) (0 : Int32).toNatClampNeg ((σ (7 + i)).1 0).toNatClampNeg ((σ 6).1 0).toNatClampNeg)) 6).1 0)) (C := R_R) (T := F_R) (N := 2) hx hb htb in_R hown hK hP 16 (g_R) rfl 1 (by decide) (va_Nw.use rfl hN.2.2.2.2.2.1) (fun _ h9 => h9) rfl d_T_append_52 ?_
      refine lv_iadd hx hb d_T_append_55 ?_
      refine va_put (D := (dC, dI)) (ci := 6) (v := .int ((((w2 σ (7 + i) 1 (va_cpy ((σ 6).2 1) ((σ (7 + i)).2 1) (0 : Int32).toNatClampNeg ((σ (7 + i)).1 0).toNatClampNeg ((σ 6).1 0).toNatClampNeg)) (7 + i)).1 0) + (((w2 σ (7 + i) 1 (va_cpy ((σ 6).2 1) ((σ (7 + i)).2 1) (0 : Int32).toNatClampNeg ((σ (7 + i)).1 0).toNatClampNeg ((σ 6).1 0).toNatClampNeg)) 6).1 0))) (ty := .int) (C := R_T) (T := F_T) (N := 6) hx hb htb in_T ft_T ft_T_ok n_T hown hK hP hD hS (19 + 3 * i) (g_T hi) rfl 2 (by decide) (htb _ k_131) (fun _ h9 => h9) rfl (by decide +kernel) rfl rfl (Nat.le_of_ble_eq_true rfl) d_T_append_56 (fun H locs hP hD hS => ?_)
      have hP := P_eq (s_T_0 hi) hP
      have hD := D_eq (s_T_0 hi) hD
      refine lv_aload_n hx hb d_T_append_59 rfl (lv_at hl 0 rfl) ?_
      refine va_get (D := (dC, dI)) (ci := 6) (v := .ref (ad (7 + i) 2)) (C := R_T) (T := F_T) (N := 6) hx hb htb in_T hown hK hP (19 + 3 * i) (g_T hi) rfl 1 (by decide) (htb _ k_130) (fun _ h9 => h9) rfl d_T_append_60 ?_
      refine lv_aload_n hx hb d_T_append_63 rfl (lv_at hl 0 rfl) ?_
      refine va_get (D := (dC, dI)) (ci := 6) (v := .int (((w1 (w2 σ (7 + i) 1 (va_cpy ((σ 6).2 1) ((σ (7 + i)).2 1) (0 : Int32).toNatClampNeg ((σ (7 + i)).1 0).toNatClampNeg ((σ 6).1 0).toNatClampNeg)) (7 + i) 0 ((((w2 σ (7 + i) 1 (va_cpy ((σ 6).2 1) ((σ (7 + i)).2 1) (0 : Int32).toNatClampNeg ((σ (7 + i)).1 0).toNatClampNeg ((σ 6).1 0).toNatClampNeg)) (7 + i)).1 0) + (((w2 σ (7 + i) 1 (va_cpy ((σ 6).2 1) ((σ (7 + i)).2 1) (0 : Int32).toNatClampNeg ((σ (7 + i)).1 0).toNatClampNeg ((σ 6).1 0).toNatClampNeg)) 6).1 0))) (7 + i)).1 1)) (C := R_T) (T := F_T) (N := 6) hx hb htb in_T hown hK hP (19 + 3 * i) (g_T hi) rfl 3 (by decide) (htb _ k_132) (fun _ h9 => h9) rfl d_T_append_64 ?_
      refine lv_aload_n hx hb d_T_append_67 rfl (lv_at hl 1 rfl) ?_
      refine va_getN (D := (dC, dI)) (ci := 5) (v := .int (((w1 (w2 σ (7 + i) 1 (va_cpy ((σ 6).2 1) ((σ (7 + i)).2 1) (0 : Int32).toNatClampNeg ((σ (7 + i)).1 0).toNatClampNeg ((σ 6).1 0).toNatClampNeg)) (7 + i) 0 ((((w2 σ (7 + i) 1 (va_cpy ((σ 6).2 1) ((σ (7 + i)).2 1) (0 : Int32).toNatClampNeg ((σ (7 + i)).1 0).toNatClampNeg ((σ 6).1 0).toNatClampNeg)) (7 + i)).1 0) + (((w2 σ (7 + i) 1 (va_cpy ((σ 6).2 1) ((σ (7 + i)).2 1) (0 : Int32).toNatClampNeg ((σ (7 + i)).1 0).toNatClampNeg ((σ 6).1 0).toNatClampNeg)) 6).1 0))) 6).1 0)) (C := R_R) (T := F_R) (N := 2) hx hb htb in_R hown hK hP 16 (g_R) rfl 1 (by decide) (va_Nw.use rfl hN.2.2.2.2.2.1) (fun _ h9 => h9) rfl d_T_append_68 ?_
      have hg71 := gd_c hM
      have hM := gd_v hM
      refine va_iast (i := (((w1 (w2 σ (7 + i) 1 (va_cpy ((σ 6).2 1) ((σ (7 + i)).2 1) (0 : Int32).toNatClampNeg ((σ (7 + i)).1 0).toNatClampNeg ((σ 6).1 0).toNatClampNeg)) (7 + i) 0 ((((w2 σ (7 + i) 1 (va_cpy ((σ 6).2 1) ((σ (7 + i)).2 1) (0 : Int32).toNatClampNeg ((σ (7 + i)).1 0).toNatClampNeg ((σ 6).1 0).toNatClampNeg)) (7 + i)).1 0) + (((w2 σ (7 + i) 1 (va_cpy ((σ 6).2 1) ((σ (7 + i)).2 1) (0 : Int32).toNatClampNeg ((σ (7 + i)).1 0).toNatClampNeg ((σ 6).1 0).toNatClampNeg)) 6).1 0))) (7 + i)).1 1)) (x := (((w1 (w2 σ (7 + i) 1 (va_cpy ((σ 6).2 1) ((σ (7 + i)).2 1) (0 : Int32).toNatClampNeg ((σ (7 + i)).1 0).toNatClampNeg ((σ 6).1 0).toNatClampNeg)) (7 + i) 0 ((((w2 σ (7 + i) 1 (va_cpy ((σ 6).2 1) ((σ (7 + i)).2 1) (0 : Int32).toNatClampNeg ((σ (7 + i)).1 0).toNatClampNeg ((σ 6).1 0).toNatClampNeg)) (7 + i)).1 0) + (((w2 σ (7 + i) 1 (va_cpy ((σ 6).2 1) ((σ (7 + i)).2 1) (0 : Int32).toNatClampNeg ((σ (7 + i)).1 0).toNatClampNeg ((σ 6).1 0).toNatClampNeg)) 6).1 0))) 6).1 0)) hx hb hK hP hD hS (19 + 3 * i + 2) 0 (g_T_a2 hi) rfl (inb_in hg71) d_T_append_71 (fun H locs hP hD hS => ?_)
      have hP := P_eq (t_T_2 hi) hP
      have hD := D_eq (t_T_2 hi) hD
      refine lv_aload_n hx hb d_T_append_72 rfl (lv_at hl 0 rfl) ?_
      refine lv_dup hx hb d_T_append_73 rfl ?_
      refine va_get (D := (dC, dI)) (ci := 6) (v := .int (((w3 (w1 (w2 σ (7 + i) 1 (va_cpy ((σ 6).2 1) ((σ (7 + i)).2 1) (0 : Int32).toNatClampNeg ((σ (7 + i)).1 0).toNatClampNeg ((σ 6).1 0).toNatClampNeg)) (7 + i) 0 ((((w2 σ (7 + i) 1 (va_cpy ((σ 6).2 1) ((σ (7 + i)).2 1) (0 : Int32).toNatClampNeg ((σ (7 + i)).1 0).toNatClampNeg ((σ 6).1 0).toNatClampNeg)) (7 + i)).1 0) + (((w2 σ (7 + i) 1 (va_cpy ((σ 6).2 1) ((σ (7 + i)).2 1) (0 : Int32).toNatClampNeg ((σ (7 + i)).1 0).toNatClampNeg ((σ 6).1 0).toNatClampNeg)) 6).1 0))) (7 + i) 2 (((w1 (w2 σ (7 + i) 1 (va_cpy ((σ 6).2 1) ((σ (7 + i)).2 1) (0 : Int32).toNatClampNeg ((σ (7 + i)).1 0).toNatClampNeg ((σ 6).1 0).toNatClampNeg)) (7 + i) 0 ((((w2 σ (7 + i) 1 (va_cpy ((σ 6).2 1) ((σ (7 + i)).2 1) (0 : Int32).toNatClampNeg ((σ (7 + i)).1 0).toNatClampNeg ((σ 6).1 0).toNatClampNeg)) (7 + i)).1 0) + (((w2 σ (7 + i) 1 (va_cpy ((σ 6).2 1) ((σ (7 + i)).2 1) (0 : Int32).toNatClampNeg ((σ (7 + i)).1 0).toNatClampNeg ((σ 6).1 0).toNatClampNeg)) 6).1 0))) (7 + i)).1 1) (((w1 (w2 σ (7 + i) 1 (va_cpy ((σ 6).2 1) ((σ (7 + i)).2 1) (0 : Int32).toNatClampNeg ((σ (7 + i)).1 0).toNatClampNeg ((σ 6).1 0).toNatClampNeg)) (7 + i) 0 ((((w2 σ (7 + i) 1 (va_cpy ((σ 6).2 1) ((σ (7 + i)).2 1) (0 : Int32).toNatClampNeg ((σ (7 + i)).1 0).toNatClampNeg ((σ 6).1 0).toNatClampNeg)) (7 + i)).1 0) + (((w2 σ (7 + i) 1 (va_cpy ((σ 6).2 1) ((σ (7 + i)).2 1) (0 : Int32).toNatClampNeg ((σ (7 + i)).1 0).toNatClampNeg ((σ 6).1 0).toNatClampNeg)) 6).1 0))) 6).1 0)) (7 + i)).1 1)) (C := R_T) (T := F_T) (N := 6) hx hb htb in_T hown hK hP (19 + 3 * i) (g_T hi) rfl 3 (by decide) (htb _ k_132) (fun _ h9 => h9) rfl d_T_append_74 ?_
      refine lv_iconst (v := 1) hx hb d_T_append_77 (by decide) ?_
      refine lv_iadd hx hb d_T_append_78 ?_
      refine va_put (D := (dC, dI)) (ci := 6) (v := .int ((((w3 (w1 (w2 σ (7 + i) 1 (va_cpy ((σ 6).2 1) ((σ (7 + i)).2 1) (0 : Int32).toNatClampNeg ((σ (7 + i)).1 0).toNatClampNeg ((σ 6).1 0).toNatClampNeg)) (7 + i) 0 ((((w2 σ (7 + i) 1 (va_cpy ((σ 6).2 1) ((σ (7 + i)).2 1) (0 : Int32).toNatClampNeg ((σ (7 + i)).1 0).toNatClampNeg ((σ 6).1 0).toNatClampNeg)) (7 + i)).1 0) + (((w2 σ (7 + i) 1 (va_cpy ((σ 6).2 1) ((σ (7 + i)).2 1) (0 : Int32).toNatClampNeg ((σ (7 + i)).1 0).toNatClampNeg ((σ 6).1 0).toNatClampNeg)) 6).1 0))) (7 + i) 2 (((w1 (w2 σ (7 + i) 1 (va_cpy ((σ 6).2 1) ((σ (7 + i)).2 1) (0 : Int32).toNatClampNeg ((σ (7 + i)).1 0).toNatClampNeg ((σ 6).1 0).toNatClampNeg)) (7 + i) 0 ((((w2 σ (7 + i) 1 (va_cpy ((σ 6).2 1) ((σ (7 + i)).2 1) (0 : Int32).toNatClampNeg ((σ (7 + i)).1 0).toNatClampNeg ((σ 6).1 0).toNatClampNeg)) (7 + i)).1 0) + (((w2 σ (7 + i) 1 (va_cpy ((σ 6).2 1) ((σ (7 + i)).2 1) (0 : Int32).toNatClampNeg ((σ (7 + i)).1 0).toNatClampNeg ((σ 6).1 0).toNatClampNeg)) 6).1 0))) (7 + i)).1 1) (((w1 (w2 σ (7 + i) 1 (va_cpy ((σ 6).2 1) ((σ (7 + i)).2 1) (0 : Int32).toNatClampNeg ((σ (7 + i)).1 0).toNatClampNeg ((σ 6).1 0).toNatClampNeg)) (7 + i) 0 ((((w2 σ (7 + i) 1 (va_cpy ((σ 6).2 1) ((σ (7 + i)).2 1) (0 : Int32).toNatClampNeg ((σ (7 + i)).1 0).toNatClampNeg ((σ 6).1 0).toNatClampNeg)) (7 + i)).1 0) + (((w2 σ (7 + i) 1 (va_cpy ((σ 6).2 1) ((σ (7 + i)).2 1) (0 : Int32).toNatClampNeg ((σ (7 + i)).1 0).toNatClampNeg ((σ 6).1 0).toNatClampNeg)) 6).1 0))) 6).1 0)) (7 + i)).1 1) + 1)) (ty := .int) (C := R_T) (T := F_T) (N := 6) hx hb htb in_T ft_T ft_T_ok n_T hown hK hP hD hS (19 + 3 * i) (g_T hi) rfl 3 (by decide) (htb _ k_132) (fun _ h9 => h9) rfl (by decide +kernel) rfl rfl (Nat.le_of_ble_eq_true rfl) d_T_append_79 (fun H locs hP hD hS => ?_)
      have hP := P_eq (s_T_1 hi) hP
      have hD := D_eq (s_T_1 hi) hD
      have e9 := Option.some.inj hM
      exact W.vret hx hb hr (fun t ht hW => ⟨⟨(w1 (w3 (w1 (w2 σ (7 + i) 1 (va_cpy ((σ 6).2 1) ((σ (7 + i)).2 1) (0 : Int32).toNatClampNeg ((σ (7 + i)).1 0).toNatClampNeg ((σ 6).1 0).toNatClampNeg)) (7 + i) 0 ((((w2 σ (7 + i) 1 (va_cpy ((σ 6).2 1) ((σ (7 + i)).2 1) (0 : Int32).toNatClampNeg ((σ (7 + i)).1 0).toNatClampNeg ((σ 6).1 0).toNatClampNeg)) (7 + i)).1 0) + (((w2 σ (7 + i) 1 (va_cpy ((σ 6).2 1) ((σ (7 + i)).2 1) (0 : Int32).toNatClampNeg ((σ (7 + i)).1 0).toNatClampNeg ((σ 6).1 0).toNatClampNeg)) 6).1 0))) (7 + i) 2 (((w1 (w2 σ (7 + i) 1 (va_cpy ((σ 6).2 1) ((σ (7 + i)).2 1) (0 : Int32).toNatClampNeg ((σ (7 + i)).1 0).toNatClampNeg ((σ 6).1 0).toNatClampNeg)) (7 + i) 0 ((((w2 σ (7 + i) 1 (va_cpy ((σ 6).2 1) ((σ (7 + i)).2 1) (0 : Int32).toNatClampNeg ((σ (7 + i)).1 0).toNatClampNeg ((σ 6).1 0).toNatClampNeg)) (7 + i)).1 0) + (((w2 σ (7 + i) 1 (va_cpy ((σ 6).2 1) ((σ (7 + i)).2 1) (0 : Int32).toNatClampNeg ((σ (7 + i)).1 0).toNatClampNeg ((σ 6).1 0).toNatClampNeg)) 6).1 0))) (7 + i)).1 1) (((w1 (w2 σ (7 + i) 1 (va_cpy ((σ 6).2 1) ((σ (7 + i)).2 1) (0 : Int32).toNatClampNeg ((σ (7 + i)).1 0).toNatClampNeg ((σ 6).1 0).toNatClampNeg)) (7 + i) 0 ((((w2 σ (7 + i) 1 (va_cpy ((σ 6).2 1) ((σ (7 + i)).2 1) (0 : Int32).toNatClampNeg ((σ (7 + i)).1 0).toNatClampNeg ((σ 6).1 0).toNatClampNeg)) (7 + i)).1 0) + (((w2 σ (7 + i) 1 (va_cpy ((σ 6).2 1) ((σ (7 + i)).2 1) (0 : Int32).toNatClampNeg ((σ (7 + i)).1 0).toNatClampNeg ((σ 6).1 0).toNatClampNeg)) 6).1 0))) 6).1 0)) (7 + i) 1 ((((w3 (w1 (w2 σ (7 + i) 1 (va_cpy ((σ 6).2 1) ((σ (7 + i)).2 1) (0 : Int32).toNatClampNeg ((σ (7 + i)).1 0).toNatClampNeg ((σ 6).1 0).toNatClampNeg)) (7 + i) 0 ((((w2 σ (7 + i) 1 (va_cpy ((σ 6).2 1) ((σ (7 + i)).2 1) (0 : Int32).toNatClampNeg ((σ (7 + i)).1 0).toNatClampNeg ((σ 6).1 0).toNatClampNeg)) (7 + i)).1 0) + (((w2 σ (7 + i) 1 (va_cpy ((σ 6).2 1) ((σ (7 + i)).2 1) (0 : Int32).toNatClampNeg ((σ (7 + i)).1 0).toNatClampNeg ((σ 6).1 0).toNatClampNeg)) 6).1 0))) (7 + i) 2 (((w1 (w2 σ (7 + i) 1 (va_cpy ((σ 6).2 1) ((σ (7 + i)).2 1) (0 : Int32).toNatClampNeg ((σ (7 + i)).1 0).toNatClampNeg ((σ 6).1 0).toNatClampNeg)) (7 + i) 0 ((((w2 σ (7 + i) 1 (va_cpy ((σ 6).2 1) ((σ (7 + i)).2 1) (0 : Int32).toNatClampNeg ((σ (7 + i)).1 0).toNatClampNeg ((σ 6).1 0).toNatClampNeg)) (7 + i)).1 0) + (((w2 σ (7 + i) 1 (va_cpy ((σ 6).2 1) ((σ (7 + i)).2 1) (0 : Int32).toNatClampNeg ((σ (7 + i)).1 0).toNatClampNeg ((σ 6).1 0).toNatClampNeg)) 6).1 0))) (7 + i)).1 1) (((w1 (w2 σ (7 + i) 1 (va_cpy ((σ 6).2 1) ((σ (7 + i)).2 1) (0 : Int32).toNatClampNeg ((σ (7 + i)).1 0).toNatClampNeg ((σ 6).1 0).toNatClampNeg)) (7 + i) 0 ((((w2 σ (7 + i) 1 (va_cpy ((σ 6).2 1) ((σ (7 + i)).2 1) (0 : Int32).toNatClampNeg ((σ (7 + i)).1 0).toNatClampNeg ((σ 6).1 0).toNatClampNeg)) (7 + i)).1 0) + (((w2 σ (7 + i) 1 (va_cpy ((σ 6).2 1) ((σ (7 + i)).2 1) (0 : Int32).toNatClampNeg ((σ (7 + i)).1 0).toNatClampNeg ((σ 6).1 0).toNatClampNeg)) 6).1 0))) 6).1 0)) (7 + i)).1 1) + 1)), rfl, e9, by rw [ht]; exact hP, va_K.moved hW.alike hK, hD⟩, hS.F ht⟩) hS.2.2 d_T_append_82
    · rw [if_neg h22] at hM
      have e9 := Option.some.inj hM
      exact W.vret hx hb hr (fun t ht hW => ⟨⟨σ, rfl, e9, by rw [ht]; exact hP, va_K.moved hW.alike hK, hD⟩, hS.F ht⟩) hS.2.2 d_T_append_25

theorem d_S_isEmpty_0 : decode b_S_isEmpty 0 = .ok (.aload_n 0, 1) := by decide +kernel
theorem d_S_isEmpty_1 : decode b_S_isEmpty 1 = .ok (.getfield 19, 3) := by decide +kernel
theorem d_S_isEmpty_4 : decode b_S_isEmpty 4 = .ok (.ifCond .ne 7, 3) := by decide +kernel
theorem d_S_isEmpty_7 : decode b_S_isEmpty 7 = .ok (.iconst 1, 1) := by decide +kernel
theorem d_S_isEmpty_8 : decode b_S_isEmpty 8 = .ok (.goto 4, 3) := by decide +kernel
theorem d_S_isEmpty_11 : decode b_S_isEmpty 11 = .ok (.iconst 0, 1) := by decide +kernel
theorem d_S_isEmpty_12 : decode b_S_isEmpty 12 = .ok (.ireturn, 1) := by decide +kernel
def m_S_isEmpty (N : Nat) (σ : SX) (j : Nat) : Option (Int32 × SX) :=
  (if ((σ j).1 1) = 0 then some (1, σ) else some (0, σ))

set_option maxHeartbeats 4000000 in
set_option maxRecDepth 100000 in
theorem c_S_isEmpty (l : Launch) (dC : Nat → ClassId) (dI : Nat → Nat → Nat) (ad : Nat → Nat → Nat) (cs : Nat → ClassId) (sz N : Nat) (σ : SX) (j : Nat) (hj : j = 2 ∨ j = 3) {r0 : Int32} {σ0 : SX} (hM : m_S_isEmpty N σ j = some (r0, σ0)) : Met l y_S_isEmpty (wd y_S_isEmpty b_S_isEmpty 1 (some .boolean)) ({ frames := 0, cells := 0, slots := 0, locals := 0 }) (va_Pc [.ref (ad j 0)] (preX dC dI ad cs sz σ)) (va_Qi (fun (r : Int32) (_ : Unit) => r = r0 ∧ σ = σ0) (fun _ _ => True) (fun q => sz ≤ q)) 0 0 (fun q => sz ≤ q) := by
  refine Met.ofW (cc := b_S_isEmpty) (maxL := 1) (ret := (some .boolean)) (by decide) rfl ?_
  intro p e s m args below meth c s₁ B hml hv
  obtain ⟨rfl, hsz, hP, hK, hD0, hN⟩ := hv
  have hx := B.exec
  have hb := B.bytes
  have hr := B.returns
  have hts := atoms_spec (ws := (wd y_S_isEmpty b_S_isEmpty 1 (some .boolean))) B.pre
  have htb : ∀ w ∈ tb, w.before _ s = true := fun w h => hts w (List.mem_cons_of_mem _ h)
  have hown : s.vm.findClass R_S = some m.cls := findClass_of_methodNamed B.named
  have hlocks := B.notSynchronized
  subst hsz
  have hD := hD0
  have hA : ∀ q : Nat, s.heap.size ≤ q → s.heap.size ≤ q := fun q h => h
  have hS : va_S (fun q => s.heap.size ≤ q) s.heap s.heap [] := va_S.rf
  have hP : va_P (dC, dI) classes (wX ad cs σ) s.heap := hP
  have hl := lv_entry ([.ref (ad j 0)]) (n := 1) (Nat.le_of_ble_eq_true rfl)
  rw [lg_entry_eq]
  generalize (lg_sl ([.ref (ad j 0)]) ++ List.replicate (1 - (lg_sl ([.ref (ad j 0)])).length) Slot.unset).toArray = ls at hl ⊢
  have hl : lv_has ls 1 [(0, .ref (ad j 0))] := hl
  rw [m_S_isEmpty] at hM
  refine lv_aload_n hx hb d_S_isEmpty_0 rfl (lv_at hl 0 rfl) ?_
  refine va_get (D := (dC, dI)) (ci := 2) (v := .int ((σ j).1 1)) (C := R_S) (T := F_S) (N := 5) hx hb htb in_S hown hK hP (3 * j + 1) (g_S hj) rfl 3 (by decide) (htb _ k_110) (fun _ h9 => h9) rfl d_S_isEmpty_1 ?_
  refine lv_if_ne (tgt := 11) hx hb d_S_isEmpty_4 (by decide) (fun h4 => ?_) (fun h4 => ?_)
  · rw [if_neg h4] at hM
    refine lv_iconst (v := 0) hx hb d_S_isEmpty_11 (by decide) ?_
    have e9 := Prod.mk.inj (Option.some.inj hM)
    exact W.zret (ty := .boolean) (v := 0) hx hb hr rfl (fun t ht hW => ⟨⟨0, (), rfl, e9, trivial⟩, hS.F ht⟩) hS.2.2 d_S_isEmpty_12
  · rw [if_pos h4] at hM
    refine lv_iconst (v := 1) hx hb d_S_isEmpty_7 (by decide) ?_
    refine lv_goto (tgt := 12) hx hb d_S_isEmpty_8 (by decide) ?_
    have e9 := Prod.mk.inj (Option.some.inj hM)
    exact W.zret (ty := .boolean) (v := 1) hx hb hr rfl (fun t ht hW => ⟨⟨1, (), rfl, e9, trivial⟩, hS.F ht⟩) hS.2.2 d_S_isEmpty_12

theorem d_O_layRun_0 : decode b_O_layRun 0 = .ok (.aload_n 0, 1) := by decide +kernel
theorem d_O_layRun_1 : decode b_O_layRun 1 = .ok (.getfield 69, 3) := by decide +kernel
theorem d_O_layRun_4 : decode b_O_layRun 4 = .ok (.aload_n 0, 1) := by decide +kernel
theorem d_O_layRun_5 : decode b_O_layRun 5 = .ok (.getfield 65, 3) := by decide +kernel
theorem d_O_layRun_8 : decode b_O_layRun 8 = .ok (.invokevirtual 175, 3) := by decide +kernel
theorem d_O_layRun_11 : decode b_O_layRun 11 = .ok (.aload_n 0, 1) := by decide +kernel
theorem d_O_layRun_12 : decode b_O_layRun 12 = .ok (.invokevirtual 179, 3) := by decide +kernel
theorem d_O_layRun_15 : decode b_O_layRun 15 = .ok (.ifCond .ne 5, 3) := by decide +kernel
theorem d_O_layRun_18 : decode b_O_layRun 18 = .ok (.iconst 0, 1) := by decide +kernel
theorem d_O_layRun_19 : decode b_O_layRun 19 = .ok (.ireturn, 1) := by decide +kernel
theorem d_O_layRun_20 : decode b_O_layRun 20 = .ok (.aload_n 0, 1) := by decide +kernel
theorem d_O_layRun_21 : decode b_O_layRun 21 = .ok (.getfield 69, 3) := by decide +kernel
theorem d_O_layRun_24 : decode b_O_layRun 24 = .ok (.invokevirtual 182, 3) := by decide +kernel
theorem d_O_layRun_27 : decode b_O_layRun 27 = .ok (.aload_n 0, 1) := by decide +kernel
theorem d_O_layRun_28 : decode b_O_layRun 28 = .ok (.getfield 65, 3) := by decide +kernel
theorem d_O_layRun_31 : decode b_O_layRun 31 = .ok (.aload_n 0, 1) := by decide +kernel
theorem d_O_layRun_32 : decode b_O_layRun 32 = .ok (.getfield 69, 3) := by decide +kernel
theorem d_O_layRun_35 : decode b_O_layRun 35 = .ok (.invokevirtual 175, 3) := by decide +kernel
theorem d_O_layRun_38 : decode b_O_layRun 38 = .ok (.aload_n 0, 1) := by decide +kernel
theorem d_O_layRun_39 : decode b_O_layRun 39 = .ok (.getfield 39, 3) := by decide +kernel
theorem d_O_layRun_42 : decode b_O_layRun 42 = .ok (.aload_n 0, 1) := by decide +kernel
theorem d_O_layRun_43 : decode b_O_layRun 43 = .ok (.getfield 19, 3) := by decide +kernel
theorem d_O_layRun_46 : decode b_O_layRun 46 = .ok (.aload_n 0, 1) := by decide +kernel
theorem d_O_layRun_47 : decode b_O_layRun 47 = .ok (.getfield 39, 3) := by decide +kernel
theorem d_O_layRun_50 : decode b_O_layRun 50 = .ok (.invokevirtual 185, 3) := by decide +kernel
theorem d_O_layRun_53 : decode b_O_layRun 53 = .ok (.aaload, 1) := by decide +kernel
theorem d_O_layRun_54 : decode b_O_layRun 54 = .ok (.astore_n 1, 1) := by decide +kernel
theorem d_O_layRun_55 : decode b_O_layRun 55 = .ok (.aload_n 1, 1) := by decide +kernel
theorem d_O_layRun_56 : decode b_O_layRun 56 = .ok (.iconst (-1), 1) := by decide +kernel
theorem d_O_layRun_57 : decode b_O_layRun 57 = .ok (.invokevirtual 189, 3) := by decide +kernel
theorem d_O_layRun_60 : decode b_O_layRun 60 = .ok (.aload_n 1, 1) := by decide +kernel
theorem d_O_layRun_61 : decode b_O_layRun 61 = .ok (.aload_n 0, 1) := by decide +kernel
theorem d_O_layRun_62 : decode b_O_layRun 62 = .ok (.getfield 33, 3) := by decide +kernel
theorem d_O_layRun_65 : decode b_O_layRun 65 = .ok (.invokevirtual 192, 3) := by decide +kernel
theorem d_O_layRun_68 : decode b_O_layRun 68 = .ok (.aload_n 0, 1) := by decide +kernel
theorem d_O_layRun_69 : decode b_O_layRun 69 = .ok (.getfield 65, 3) := by decide +kernel
theorem d_O_layRun_72 : decode b_O_layRun 72 = .ok (.invokevirtual 105, 3) := by decide +kernel
theorem d_O_layRun_75 : decode b_O_layRun 75 = .ok (.ifCond .eq 8, 3) := by decide +kernel
theorem d_O_layRun_78 : decode b_O_layRun 78 = .ok (.aload_n 0, 1) := by decide +kernel
theorem d_O_layRun_79 : decode b_O_layRun 79 = .ok (.iconst 2, 1) := by decide +kernel
theorem d_O_layRun_80 : decode b_O_layRun 80 = .ok (.putfield 53, 3) := by decide +kernel
theorem d_O_layRun_83 : decode b_O_layRun 83 = .ok (.iconst 1, 1) := by decide +kernel
theorem d_O_layRun_84 : decode b_O_layRun 84 = .ok (.ireturn, 1) := by decide +kernel
def m_O_layRun (N : Nat) (σ : SX) : Option (Int32 × SX) :=
  (bV (m_S_copyFrom N σ 3 2) fun σ8 => (bI (m_O_writeRunFromTrial N σ8) fun r12 σ12 => (if r12 = 0 then some (0, σ12) else (bV (m_S_turnToNextRun N σ12 3) fun σ24 => (bV (m_S_copyFrom N σ24 2 3) fun σ35 => (bI (m_P_placeOfNextRun N σ35) fun r50 σ50 => (if inb r50 4 = true then (bV (m_T_addDummies N σ50 r50.toNatClampNeg (-1)) fun σ57 => (bV (m_T_append N σ57 r50.toNatClampNeg) fun σ65 => (bI (m_S_isEmpty N σ65 2) fun r72 σ72 => (if r72 = 0 then some (1, σ65) else some (1, (w1 σ65 0 0 2)))))) else none)))))))

set_option maxHeartbeats 4000000 in
set_option maxRecDepth 100000 in
theorem c_O_layRun (l : Launch) (dC : Nat → ClassId) (dI : Nat → Nat → Nat) (ad : Nat → Nat → Nat) (cs : Nat → ClassId) (sz N : Nat) (σ : SX) {r0 : Int32} {σ0 : SX} (hM : m_O_layRun N σ = some (r0, σ0)) : Met l y_O_layRun (wd y_O_layRun b_O_layRun 2 (some .boolean)) ({ frames := 5, cells := 0, slots := 0, locals := 115 }) (va_Pc [.ref (ad 0 0)] (preX dC dI ad cs sz σ)) (va_Qi (fun (r : Int32) (u : SX) => r = r0 ∧ u = σ0) (atX dC dI ad cs (va_A (wX ad cs σ) sz)) (va_A (wX ad cs σ) sz)) 0 0 (va_A (wX ad cs σ) sz) := by
  refine Met.ofW (cc := b_O_layRun) (maxL := 2) (ret := (some .boolean)) (by decide) rfl ?_
  intro p e s m args below meth c s₁ B hml hv
  obtain ⟨rfl, hsz, hP, hK, hD0, hN⟩ := hv
  have hx := B.exec
  have hb := B.bytes
  have hr := B.returns
  have hts := atoms_spec (ws := (wd y_O_layRun b_O_layRun 2 (some .boolean))) B.pre
  have htb : ∀ w ∈ tb, w.before _ s = true := fun w h => hts w (List.mem_cons_of_mem _ h)
  have hown : s.vm.findClass R_O = some m.cls := findClass_of_methodNamed B.named
  have hlocks := B.notSynchronized
  subst hsz
  have hD := hD0.self (sz := s.heap.size)
  generalize hAe : va_A (wX ad cs σ) s.heap.size = A at hD ⊢
  have hA : ∀ q : Nat, s.heap.size ≤ q → A q := fun q h => by rw [← hAe]; exact Or.inr h
  have hS : va_S A s.heap s.heap [] := va_S.rf
  have hP : va_P (dC, dI) classes (wX ad cs σ) s.heap := hP
  have hl := lv_entry ([.ref (ad 0 0)]) (n := 2) (Nat.le_of_ble_eq_true rfl)
  rw [lg_entry_eq]
  generalize (lg_sl ([.ref (ad 0 0)]) ++ List.replicate (2 - (lg_sl ([.ref (ad 0 0)])).length) Slot.unset).toArray = ls at hl ⊢
  have hl : lv_has ls 2 [(0, .ref (ad 0 0))] := hl
  rw [m_O_layRun] at hM
  refine lv_aload_n hx hb d_O_layRun_0 rfl (lv_at hl 0 rfl) ?_
  refine va_get (D := (dC, dI)) (ci := 0) (v := .ref (ad 3 0)) (C := R_O) (T := F_O) (N := 12) hx hb htb in_O hown hK hP 0 (g_O) rfl 2 (by decide) (htb _ k_150) (fun _ h9 => h9) rfl d_O_layRun_1 ?_
  refine lv_aload_n hx hb d_O_layRun_4 rfl (lv_at hl 0 rfl) ?_
  refine va_get (D := (dC, dI)) (ci := 0) (v := .ref (ad 2 0)) (C := R_O) (T := F_O) (N := 12) hx hb htb in_O hown hK hP 0 (g_O) rfl 1 (by decide) (htb _ k_149) (fun _ h9 => h9) rfl d_O_layRun_5 ?_
  have hF1 := free_all hD hS hA
  obtain ⟨y8, hq8, hM⟩ := bV_some hM
  refine va_callv (va_runV (As := [.ref (ad 2 0)]) (rest := []) ⟨hx, hb, hml, hown, hts⟩ (c_S_copyFrom l dC dI ad cs _ N σ 3 (Or.inr rfl) 2 (Or.inl rfl) hq8) (cwV 1 hts (goodV k_491 k_492 k_493 k_6 k_494) rfl rfl rfl ⟨rfl, by decide, by decide, by decide +kernel⟩ ⟨Nat.le_of_ble_eq_true rfl, Nat.le_of_ble_eq_true rfl⟩) ⟨blindX, va_recv hK hP rfl (g_S (Or.inr rfl)), payX hP hK hD hN⟩ rfl rfl hl.1 rfl (lv_room (Nat.le_of_ble_eq_true rfl)) d_O_layRun_8 ⟨Nat.zero_le _, Nat.zero_le _⟩) hS (fun q _ h => hF1 q h) hF1 (fun σ8 t H locs ht hvm hpost hB hz1 hk1 hS => ?_)
  subst hpost
  obtain ⟨hP1, hK1, hD1⟩ := hB
  rw [ht] at hP1
  have hP := hP1
  have hD := hD1.weaken (fun _ _ _ h => hF1 _ h)
  refine lv_aload_n hx hb d_O_layRun_11 rfl (lv_at hl 0 rfl) ?_
  have hF1 := free_all hD hS hA
  obtain ⟨x12, y12, hq12, hM⟩ := bI_some hM
  refine va_calli (va_runV (As := []) (rest := []) ⟨hx, hb, hml, hown, hts⟩ (c_O_writeRunFromTrial l dC dI ad cs _ N σ8 hq12) (cwV 0 hts (goodV k_495 k_497 ks_O_writeRunFromTrial k_1 k_498) rfl rfl rfl ⟨rfl, by decide, by decide, by decide +kernel⟩ ⟨Nat.le_of_ble_eq_true rfl, Nat.le_of_ble_eq_true rfl⟩) ⟨blindX, va_recv hK hP rfl (g_O), payX hP hK hD hN⟩ rfl rfl hl.1 rfl (lv_room (Nat.le_of_ble_eq_true rfl)) d_O_layRun_12 ⟨Nat.zero_le _, Nat.zero_le _⟩) hS (fun q _ h => hF1 q h) hF1 (fun r12 σ12 t H locs ht hvm hpost hB hz1 hk1 hS => ?_)
  obtain ⟨e1, e2⟩ := hpost
  subst e1
  subst e2
  obtain ⟨hP1, hK1, hD1⟩ := hB
  rw [ht] at hP1
  have hP := hP1
  have hD := hD1.weaken (fun _ _ _ h => hF1 _ h)
  refine lv_if_ne (tgt := 20) hx hb d_O_layRun_15 (by decide) (fun h15 => ?_) (fun h15 => ?_)
  · rw [if_neg h15] at hM
    refine lv_aload_n hx hb d_O_layRun_20 rfl (lv_at hl 0 rfl) ?_
    refine va_get (D := (dC, dI)) (ci := 0) (v := .ref (ad 3 0)) (C := R_O) (T := F_O) (N := 12) hx hb htb in_O hown hK hP 0 (g_O) rfl 2 (by decide) (htb _ k_150) (fun _ h9 => h9) rfl d_O_layRun_21 ?_
    have hF1 := free_all hD hS hA
    obtain ⟨y24, hq24, hM⟩ := bV_some hM
    refine va_callv (va_runV (As := []) (rest := []) ⟨hx, hb, hml, hown, hts⟩ (c_S_turnToNextRun l dC dI ad cs _ N σ12 3 (Or.inr rfl) hq24) (cwV 0 hts (goodV k_525 k_526 k_527 k_6 k_528) rfl rfl rfl ⟨rfl, by decide, by decide, by decide +kernel⟩ ⟨Nat.le_of_ble_eq_true rfl, Nat.le_of_ble_eq_true rfl⟩) ⟨blindX, va_recv hK hP rfl (g_S (Or.inr rfl)), payX hP hK hD hN⟩ rfl rfl hl.1 rfl (lv_room (Nat.le_of_ble_eq_true rfl)) d_O_layRun_24 ⟨Nat.zero_le _, Nat.zero_le _⟩) hS (fun q _ h => hF1 q h) hF1 (fun σ24 t H locs ht hvm hpost hB hz1 hk1 hS => ?_)
    subst hpost
    obtain ⟨hP1, hK1, hD1⟩ := hB
    rw [ht] at hP1
    have hP := hP1
    have hD := hD1.weaken (fun _ _ _ h => hF1 _ h)
    refine lv_aload_n hx hb d_O_layRun_27 rfl (lv_at hl 0 rfl) ?_
    refine va_get (D := (dC, dI)) (ci := 0) (v := .ref (ad 2 0)) (C := R_O) (T := F_O) (N := 12) hx hb htb in_O hown hK hP 0 (g_O) rfl 1 (by decide) (htb _ k_149) (fun _ h9 => h9) rfl d_O_layRun_28 ?_
    refine lv_aload_n hx hb d_O_layRun_31 rfl (lv_at hl 0 rfl) ?_
    refine va_get (D := (dC, dI)) (ci := 0) (v := .ref (ad 3 0)) (C := R_O) (T := F_O) (N := 12) hx hb htb in_O hown hK hP 0 (g_O) rfl 2 (by decide) (htb _ k_150) (fun _ h9 => h9) rfl d_O_layRun_32 ?_
    have hF1 := free_all hD hS hA
    obtain ⟨y35, hq35, hM⟩ := bV_some hM
    refine va_callv (va_runV (As := [.ref (ad 3 0)]) (rest := []) ⟨hx, hb, hml, hown, hts⟩ (c_S_copyFrom l dC dI ad cs _ N σ24 2 (Or.inl rfl) 3 (Or.inr rfl) hq35) (cwV 1 hts (goodV k_491 k_492 k_493 k_6 k_494) rfl rfl rfl ⟨rfl, by decide, by decide, by decide +kernel⟩ ⟨Nat.le_of_ble_eq_true rfl, Nat.le_of_ble_eq_true rfl⟩) ⟨blindX, va_recv hK hP rfl (g_S (Or.inl rfl)), payX hP hK hD hN⟩ rfl rfl hl.1 rfl (lv_room (Nat.le_of_ble_eq_true rfl)) d_O_layRun_35 ⟨Nat.zero_le _, Nat.zero_le _⟩) hS (fun q _ h => hF1 q h) hF1 (fun σ35 t H locs ht hvm hpost hB hz1 hk1 hS => ?_)
    subst hpost
    obtain ⟨hP1, hK1, hD1⟩ := hB
    rw [ht] at hP1
    have hP := hP1
    have hD := hD1.weaken (fun _ _ _ h => hF1 _ h)
    refine lv_aload_n hx hb d_O_layRun_38 rfl (lv_at hl 0 rfl) ?_
    refine va_get (D := (dC, dI)) (ci := 0) (v := .ref (ad 0 9)) (C := R_O) (T := F_O) (N := 12) hx hb htb in_O hown hK hP 0 (g_O) rfl 6 (by decide) (htb _ k_154) (fun _ h9 => h9) rfl d_O_layRun_39 ?_
    refine lv_aload_n hx hb d_O_layRun_42 rfl (lv_at hl 0 rfl) ?_
    refine va_get (D := (dC, dI)) (ci := 0) (v := .ref (ad 4 0)) (C := R_O) (T := F_O) (N := 12) hx hb htb in_O hown hK hP 0 (g_O) rfl 3 (by decide) (htb _ k_151) (fun _ h9 => h9) rfl d_O_layRun_43 ?_
    refine lv_aload_n hx hb d_O_layRun_46 rfl (lv_at hl 0 rfl) ?_
    refine va_get (D := (dC, dI)) (ci := 0) (v := .ref (ad 0 9)) (C := R_O) (T := F_O) (N := 12) hx hb htb in_O hown hK hP 0 (g_O) rfl 6 (by decide) (htb _ k_154) (fun _ h9 => h9) rfl d_O_layRun_47 ?_
    have hF1 := free_all hD hS hA
    obtain ⟨x50, y50, hq50, hM⟩ := bI_some hM
    refine va_calli (va_runV (As := [.ref (ad 0 9)]) (rest := [.ref (ad 0 9)]) ⟨hx, hb, hml, hown, hts⟩ (c_P_placeOfNextRun l dC dI ad cs _ N σ35 hq50) (cwV 1 hts (goodV k_529 k_530 k_531 k_3 k_532) rfl rfl rfl ⟨rfl, by decide, by decide, by decide +kernel⟩ ⟨Nat.le_of_ble_eq_true rfl, Nat.le_of_ble_eq_true rfl⟩) ⟨blindX, va_recv hK hP rfl (g_P), payX hP hK hD hN⟩ rfl rfl hl.1 rfl (lv_room (Nat.le_of_ble_eq_true rfl)) d_O_layRun_50 ⟨Nat.zero_le _, Nat.zero_le _⟩) hS (fun q _ h => hF1 q h) hF1 (fun r50 σ50 t H locs ht hvm hpost hB hz1 hk1 hS => ?_)
    obtain ⟨e1, e2⟩ := hpost
    subst e1
    subst e2
    obtain ⟨hP1, hK1, hD1⟩ := hB
    rw [ht] at hP1
    have hP := hP1
    have hD := hD1.weaken (fun _ _ _ h => hF1 _ h)
    have hg53 := gd_c hM
    have hM := gd_v hM
    refine va_aldq hx hb hK hP 18 2 (f := fun i => some (ad (7 + i) 0)) g_tapes rfl (inb_in hg53) d_O_layRun_53 ?_
    refine W.eq (g2 := F0 m 54 ls [.ref (ad (7 + r50.toNatClampNeg) 0)]) rfl ?_
    refine lv_astore_n hx hb d_O_layRun_54 rfl hl (by decide) (lv' := [(1, .ref (ad (7 + r50.toNatClampNeg) 0)), (0, .ref (ad 0 0))]) rfl (fun ls hl => ?_)
    refine lv_aload_n hx hb d_O_layRun_55 rfl (lv_at hl 0 rfl) ?_
    refine lv_iconst (v := (-1)) hx hb d_O_layRun_56 (by decide) ?_
    have hF1 := free_all hD hS hA
    obtain ⟨y57, hq57, hM⟩ := bV_some hM
    refine va_callv (va_runV (As := [.int (-1)]) (rest := []) ⟨hx, hb, hml, hown, hts⟩ (c_T_addDummies l dC dI ad cs _ N σ50 r50.toNatClampNeg (inb_lt hg53) (-1) hq57) (cwV 1 hts (goodV k_542 k_465 k_466 k_7 k_467) rfl rfl rfl ⟨rfl, by decide, by decide, by decide +kernel⟩ ⟨Nat.le_of_ble_eq_true rfl, Nat.le_of_ble_eq_true rfl⟩) ⟨blindX, va_recv hK hP rfl (g_T (inb_lt hg53)), payX hP hK hD hN⟩ rfl rfl hl.1 rfl (lv_room (Nat.le_of_ble_eq_true rfl)) d_O_layRun_57 ⟨Nat.zero_le _, Nat.zero_le _⟩) hS (fun q _ h => hF1 q h) hF1 (fun σ57 t H locs ht hvm hpost hB hz1 hk1 hS => ?_)
    subst hpost
    obtain ⟨hP1, hK1, hD1⟩ := hB
    rw [ht] at hP1
    have hP := hP1
    have hD := hD1.weaken (fun _ _ _ h => hF1 _ h)
    refine lv_aload_n hx hb d_O_layRun_60 rfl (lv_at hl 0 rfl) ?_
    refine lv_aload_n hx hb d_O_layRun_61 rfl (lv_at hl 1 rfl) ?_
    refine va_get (D := (dC, dI)) (ci := 0) (v := .ref (ad 6 0)) (C := R_O) (T := F_O) (N := 12) hx hb htb in_O hown hK hP 0 (g_O) rfl 5 (by decide) (htb _ k_153) (fun _ h9 => h9) rfl d_O_layRun_62 ?_
    have hF1 := free_all hD hS hA
    obtain ⟨y65, hq65, hM⟩ := bV_some hM
    refine va_callv (va_runV (As := [.ref (ad 6 0)]) (rest := []) ⟨hx, hb, hml, hown, hts⟩ (c_T_append l dC dI ad cs _ N σ57 r50.toNatClampNeg (inb_lt hg53) hq65) (cwV 1 hts (goodV k_543 k_544 k_545 k_7 k_546) rfl rfl rfl ⟨rfl, by decide, by decide, by decide +kernel⟩ ⟨Nat.le_of_ble_eq_true rfl, Nat.le_of_ble_eq_true rfl⟩) ⟨blindX, va_recv hK hP rfl (g_T (inb_lt hg53)), payX hP hK hD hN⟩ rfl rfl hl.1 rfl (lv_room (Nat.le_of_ble_eq_true rfl)) d_O_layRun_65 ⟨Nat.zero_le _, Nat.zero_le _⟩) hS (fun q _ h => hF1 q h) hF1 (fun σ65 t H locs ht hvm hpost hB hz1 hk1 hS => ?_)
    subst hpost
    obtain ⟨hP1, hK1, hD1⟩ := hB
    rw [ht] at hP1
    have hP := hP1
    have hD := hD1.weaken (fun _ _ _ h => hF1 _ h)
    refine lv_aload_n hx hb d_O_layRun_68 rfl (lv_at hl 1 rfl) ?_
    refine va_get (D := (dC, dI)) (ci := 0) (v := .ref (ad 2 0)) (C := R_O) (T := F_O) (N := 12) hx hb htb in_O hown hK hP 0 (g_O) rfl 1 (by decide) (htb _ k_149) (fun _ h9 => h9) rfl d_O_layRun_69 ?_
    obtain ⟨x72, y72, hq72, hM⟩ := bI_some hM
    refine va_calli (va_runV (As := []) (rest := []) ⟨hx, hb, hml, hown, hts⟩ (c_S_isEmpty l dC dI ad cs _ N σ65 2 (Or.inl rfl) hq72) (cwV 0 hts (goodV k_476 k_477 k_478 k_6 k_479) rfl rfl rfl ⟨rfl, by decide, by decide, by decide +kernel⟩ ⟨Nat.le_of_ble_eq_true rfl, Nat.le_of_ble_eq_true rfl⟩) ⟨blindX, va_recv hK hP rfl (g_S (Or.inl rfl)), payX hP hK hD hN⟩ rfl rfl hl.1 rfl (lv_room (Nat.le_of_ble_eq_true rfl)) d_O_layRun_72 ⟨Nat.zero_le _, Nat.zero_le _⟩) hS (fun q h0 h => absurd h0 (Nat.not_lt.mpr h)) (fun q h => hA q (Nat.le_trans hS.1 h)) (fun r72 u t H locs ht hvm hpost hB hz1 hk1 hS => ?_)
    obtain ⟨e1, e2⟩ := hpost
    subst e1
    subst e2
    have hP := keepP hP hk1
    refine lv_if_eq (tgt := 83) hx hb d_O_layRun_75 (by decide) (fun h75 => ?_) (fun h75 => ?_)
    · rw [if_pos h75] at hM
      refine lv_iconst (v := 1) hx hb d_O_layRun_83 (by decide) ?_
      have e9 := Prod.mk.inj (Option.some.inj hM)
      exact W.zret (ty := .boolean) (v := 1) hx hb hr rfl (fun t ht hW => ⟨⟨1, σ65, rfl, e9, by rw [ht]; exact hP, va_K.moved hW.alike hK, hD⟩, hS.F ht⟩) hS.2.2 d_O_layRun_84
    · rw [if_neg h75] at hM
      refine lv_aload_n hx hb d_O_layRun_78 rfl (lv_at hl 1 rfl) ?_
      refine lv_iconst (v := 2) hx hb d_O_layRun_79 (by decide) ?_
      refine va_put (D := (dC, dI)) (ci := 0) (v := .int 2) (ty := .int) (C := R_O) (T := F_O) (N := 12) hx hb htb in_O ft_O ft_O_ok n_O hown hK hP hD hS 0 (g_O) rfl 10 (by decide) (htb _ k_158) (fun _ h9 => h9) rfl (by decide +kernel) rfl rfl (Nat.le_of_ble_eq_true rfl) d_O_layRun_80 (fun H locs hP hD hS => ?_)
      have hP := P_eq (s_O_0) hP
      have hD := D_eq (s_O_0) hD
      refine lv_iconst (v := 1) hx hb d_O_layRun_83 (by decide) ?_
      have e9 := Prod.mk.inj (Option.some.inj hM)
      exact W.zret (ty := .boolean) (v := 1) hx hb hr rfl (fun t ht hW => ⟨⟨1, (w1 σ65 0 0 2), rfl, e9, by rw [ht]; exact hP, va_K.moved hW.alike hK, hD⟩, hS.F ht⟩) hS.2.2 d_O_layRun_84
  · rw [if_pos h15] at hM
    refine lv_iconst (v := 0) hx hb d_O_layRun_18 (by decide) ?_
    have e9 := Prod.mk.inj (Option.some.inj hM)
    exact W.zret (ty := .boolean) (v := 0) hx hb hr rfl (fun t ht hW => ⟨⟨0, σ12, rfl, e9, by rw [ht]; exact hP, va_K.moved hW.alike hK, hD⟩, hS.F ht⟩) hS.2.2 d_O_layRun_19

theorem d_T_hasDummy_0 : decode b_T_hasDummy 0 = .ok (.aload_n 0, 1) := by decide +kernel
theorem d_T_hasDummy_1 : decode b_T_hasDummy 1 = .ok (.getfield 25, 3) := by decide +kernel
theorem d_T_hasDummy_4 : decode b_T_hasDummy 4 = .ok (.ifCond .le 7, 3) := by decide +kernel
theorem d_T_hasDummy_7 : decode b_T_hasDummy 7 = .ok (.iconst 1, 1) := by decide +kernel
theorem d_T_hasDummy_8 : decode b_T_hasDummy 8 = .ok (.goto 4, 3) := by decide +kernel
theorem d_T_hasDummy_11 : decode b_T_hasDummy 11 = .ok (.iconst 0, 1) := by decide +kernel
theorem d_T_hasDummy_12 : decode b_T_hasDummy 12 = .ok (.ireturn, 1) := by decide +kernel
def m_T_hasDummy (N : Nat) (σ : SX) (i : Nat) : Option (Int32 × SX) :=
  (if ((σ (7 + i)).1 2) ≤ 0 then some (0, σ) else some (1, σ))

set_option maxHeartbeats 4000000 in
set_option maxRecDepth 100000 in
theorem c_T_hasDummy (l : Launch) (dC : Nat → ClassId) (dI : Nat → Nat → Nat) (ad : Nat → Nat → Nat) (cs : Nat → ClassId) (sz N : Nat) (σ : SX) (i : Nat) (hi : i < 4) {r0 : Int32} {σ0 : SX} (hM : m_T_hasDummy N σ i = some (r0, σ0)) : Met l y_T_hasDummy (wd y_T_hasDummy b_T_hasDummy 1 (some .boolean)) ({ frames := 0, cells := 0, slots := 0, locals := 0 }) (va_Pc [.ref (ad (7 + i) 0)] (preX dC dI ad cs sz σ)) (va_Qi (fun (r : Int32) (_ : Unit) => r = r0 ∧ σ = σ0) (fun _ _ => True) (fun q => sz ≤ q)) 0 0 (fun q => sz ≤ q) := by
  refine Met.ofW (cc := b_T_hasDummy) (maxL := 1) (ret := (some .boolean)) (by decide) rfl ?_
  intro p e s m args below meth c s₁ B hml hv
  obtain ⟨rfl, hsz, hP, hK, hD0, hN⟩ := hv
  have hx := B.exec
  have hb := B.bytes
  have hr := B.returns
  have hts := atoms_spec (ws := (wd y_T_hasDummy b_T_hasDummy 1 (some .boolean))) B.pre
  have htb : ∀ w ∈ tb, w.before _ s = true := fun w h => hts w (List.mem_cons_of_mem _ h)
  have hown : s.vm.findClass R_T = some m.cls := findClass_of_methodNamed B.named
  have hlocks := B.notSynchronized
  subst hsz
  have hD := hD0
  have hA : ∀ q : Nat, s.heap.size ≤ q → s.heap.size ≤ q := fun q h => h
  have hS : va_S (fun q => s.heap.size ≤ q) s.heap s.heap [] := va_S.rf
  have hP : va_P (dC, dI) classes (wX ad cs σ) s.heap := hP
  have hl := lv_entry ([.ref (ad (7 + i) 0)]) (n := 1) (Nat.le_of_ble_eq_true rfl)
  rw [lg_entry_eq]
  generalize (lg_sl ([.ref (ad (7 + i) 0)]) ++ List.replicate (1 - (lg_sl ([.ref (ad (7 + i) 0)])).length) Slot.unset).toArray = ls at hl ⊢
  have hl : lv_has ls 1 [(0, .ref (ad (7 + i) 0))] := hl
  rw [m_T_hasDummy] at hM
  refine lv_aload_n hx hb d_T_hasDummy_0 rfl (lv_at hl 0 rfl) ?_
  refine va_get (D := (dC, dI)) (ci := 6) (v := .int ((σ (7 + i)).1 2)) (C := R_T) (T := F_T) (N := 6) hx hb htb in_T hown hK hP (19 + 3 * i) (g_T hi) rfl 4 (by decide) (htb _ k_133) (fun _ h9 => h9) rfl d_T_hasDummy_1 ?_
  refine lv_if_le (tgt := 11) hx hb d_T_hasDummy_4 (by decide) (fun h4 => ?_) (fun h4 => ?_)
  · rw [if_pos h4] at hM
    refine lv_iconst (v := 0) hx hb d_T_hasDummy_11 (by decide) ?_
    have e9 := Prod.mk.inj (Option.some.inj hM)
    exact W.zret (ty := .boolean) (v := 0) hx hb hr rfl (fun t ht hW => ⟨⟨0, (), rfl, e9, trivial⟩, hS.F ht⟩) hS.2.2 d_T_hasDummy_12
  · rw [if_neg h4] at hM
    refine lv_iconst (v := 1) hx hb d_T_hasDummy_7 (by decide) ?_
    refine lv_goto (tgt := 12) hx hb d_T_hasDummy_8 (by decide) ?_
    have e9 := Prod.mk.inj (Option.some.inj hM)
    exact W.zret (ty := .boolean) (v := 1) hx hb hr rfl (fun t ht hW => ⟨⟨1, (), rfl, e9, trivial⟩, hS.F ht⟩) hS.2.2 d_T_hasDummy_12
