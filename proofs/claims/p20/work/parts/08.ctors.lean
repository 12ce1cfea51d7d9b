theorem d_D_init_0 : decode b_D_init 0 = .ok (.aload_n 0, 1) := by decide +kernel
theorem d_D_init_1 : decode b_D_init 1 = .ok (.invokespecial 3, 3) := by decide +kernel
theorem d_D_init_4 : decode b_D_init 4 = .ok (.aload_n 0, 1) := by decide +kernel
theorem d_D_init_5 : decode b_D_init 5 = .ok (.iconst 2, 1) := by decide +kernel
theorem d_D_init_6 : decode b_D_init 6 = .ok (.sipush 150, 3) := by decide +kernel
theorem d_D_init_9 : decode b_D_init 9 = .ok (.multianewarray 9 2, 4) := by decide +kernel
theorem d_D_init_13 : decode b_D_init 13 = .ok (.putfield 11, 3) := by decide +kernel
theorem d_D_init_16 : decode b_D_init 16 = .ok (.aload_n 0, 1) := by decide +kernel
theorem d_D_init_17 : decode b_D_init 17 = .ok (.iconst 3, 1) := by decide +kernel
theorem d_D_init_18 : decode b_D_init 18 = .ok (.newarray .int, 2) := by decide +kernel
theorem d_D_init_20 : decode b_D_init 20 = .ok (.putfield 16, 3) := by decide +kernel
theorem d_D_init_23 : decode b_D_init 23 = .ok (.aload_n 0, 1) := by decide +kernel
theorem d_D_init_24 : decode b_D_init 24 = .ok (.iconst 3, 1) := by decide +kernel
theorem d_D_init_25 : decode b_D_init 25 = .ok (.newarray .int, 2) := by decide +kernel
theorem d_D_init_27 : decode b_D_init 27 = .ok (.putfield 20, 3) := by decide +kernel
theorem d_D_init_30 : decode b_D_init 30 = .ok (.aload_n 0, 1) := by decide +kernel
theorem d_D_init_31 : decode b_D_init 31 = .ok (.iconst 0, 1) := by decide +kernel
theorem d_D_init_32 : decode b_D_init 32 = .ok (.putfield 23, 3) := by decide +kernel
theorem d_D_init_35 : decode b_D_init 35 = .ok (.aload_n 0, 1) := by decide +kernel
theorem d_D_init_36 : decode b_D_init 36 = .ok (.iconst 0, 1) := by decide +kernel
theorem d_D_init_37 : decode b_D_init 37 = .ok (.putfield 27, 3) := by decide +kernel
theorem d_D_init_40 : decode b_D_init 40 = .ok (.return_, 1) := by decide +kernel
set_option maxHeartbeats 4000000 in
set_option maxRecDepth 100000 in
theorem c_D_init (l : Launch) (dC : Nat → ClassId) (dI : Nat → Nat → Nat) (h0 : Nat) (sz : Nat) : Met l y_D_init (wd y_D_init b_D_init 1 none) ({ frames := 1, cells := 5, slots := 308, locals := 12 }) (va_Pc [.ref h0] (preC dC dI [(h0, .inr (1, [.null, .null, .null, .int 0, .int 0]))] sz)) (va_Qv (fun (_ : Unit) => True) (fun (_ : Unit) t => ∃ (q9 q9a q9b q18 q25 : Nat) (c9 c9a : ClassId), va_P (dC, dI) classes [(h0, .inr (1, [.ref q9, .ref q18, .ref q25, .int 0, .int 0])), (q9, .inl (c9, 2, .inr (.inr (.inr (.inr (va_two q9a q9b)))))), (q9a, .inl (c9a, 150, .inl (fun _ => 0))), (q9b, .inl (c9a, 150, .inl (fun _ => 0))), (q18, .inl (c9a, 3, .inl (fun _ => 0))), (q25, .inl (c9a, 3, .inl (fun _ => 0)))] t.heap ∧ va_K (dC, dI) classes [(c9, .array .int), (c9a, .int)] t ∧ va_D (va_A [(h0, .inr (1, [.null, .null, .null, .int 0, .int 0]))] sz) [(h0, .inr (1, [.ref q9, .ref q18, .ref q25, .int 0, .int 0])), (q9, .inl (c9, 2, .inr (.inr (.inr (.inr (va_two q9a q9b)))))), (q9a, .inl (c9a, 150, .inl (fun _ => 0))), (q9b, .inl (c9a, 150, .inl (fun _ => 0))), (q18, .inl (c9a, 3, .inl (fun _ => 0))), (q25, .inl (c9a, 3, .inl (fun _ => 0)))]) (va_A [(h0, .inr (1, [.null, .null, .null, .int 0, .int 0]))] sz)) 5 308 (va_A [(h0, .inr (1, [.null, .null, .null, .int 0, .int 0]))] sz) := by
  refine Met.ofW (cc := b_D_init) (maxL := 1) (ret := none) (by decide) rfl ?_
  intro p e s m args below meth c s₁ B hml hv
  obtain ⟨rfl, hsz, hP, hK, hD0, hN⟩ := hv
  have hx := B.exec
  have hb := B.bytes
  have hr := B.returns
  have hts := atoms_spec (ws := (wd y_D_init b_D_init 1 none)) B.pre
  have htb : ∀ w ∈ tb, w.before _ s = true := fun w h => hts w (List.mem_cons_of_mem _ h)
  have hown : s.vm.findClass R_D = some m.cls := findClass_of_methodNamed B.named
  have hlocks := B.notSynchronized
  have hin : meth.name = "<init>" := (name_of_methodNamed B.named B.method).1
  subst hsz
  have hD := hD0.self (sz := s.heap.size)
  generalize hAe : va_A [(h0, .inr (1, [.null, .null, .null, .int 0, .int 0]))] s.heap.size = A at hD ⊢
  have hA : ∀ q : Nat, s.heap.size ≤ q → A q := fun q h => by rw [← hAe]; exact Or.inr h
  have hS : va_S A s.heap s.heap [] := va_S.rf
  have hP : va_P (dC, dI) classes [(h0, .inr (1, [.null, .null, .null, .int 0, .int 0]))] s.heap := hP
  have hl := lv_entry ([.ref h0]) (n := 1) (Nat.le_of_ble_eq_true rfl)
  rw [lg_entry_eq]
  generalize (lg_sl ([.ref h0]) ++ List.replicate (1 - (lg_sl ([.ref h0])).length) Slot.unset).toArray = ls at hl ⊢
  have hl : lv_has ls 1 [(0, .ref h0)] := hl
  refine lv_aload_n hx hb d_D_init_0 rfl (lv_at hl 0 rfl) ?_
  refine W.objInit hx hb hown (htb _ k_29) (htb _ k_22) (htb _ k_23) rfl (by rw [hml]; exact hl.1) rfl d_D_init_1 (Nat.le_of_ble_eq_true rfl) (Nat.le_of_ble_eq_true rfl) ?_
  refine W.eq (g2 := F0 m 4 ls []) rfl ?_
  refine lv_aload_n hx hb d_D_init_4 rfl (lv_at hl 0 rfl) ?_
  refine lv_iconst (v := 2) hx hb d_D_init_5 (by decide) ?_
  refine lv_sipush (v := 150) hx hb d_D_init_6 (by decide) ?_
  refine va_multi hx hb hown (htb _ k_30) hN.2.2.2.2.2.2.2.2.2 (htb _ k_48) hK hP hD hS hA (Nat.le_of_ble_eq_true rfl) (Nat.le_of_ble_eq_true rfl) d_D_init_9 (fun q9 q9a q9b c9 c9a H hK hP hD hS => ?_)
  have hP : va_P (dC, dI) classes [(h0, .inr (1, [.null, .null, .null, .int 0, .int 0])), (q9, .inl (c9, 2, .inr (.inr (.inr (.inr (va_two q9a q9b)))))), (q9a, .inl (c9a, 150, .inl (fun _ => 0))), (q9b, .inl (c9a, 150, .inl (fun _ => 0)))] H := hP
  have hD : va_D A [(h0, .inr (1, [.null, .null, .null, .int 0, .int 0])), (q9, .inl (c9, 2, .inr (.inr (.inr (.inr (va_two q9a q9b)))))), (q9a, .inl (c9a, 150, .inl (fun _ => 0))), (q9b, .inl (c9a, 150, .inl (fun _ => 0)))] := hD
  have hK : va_K (dC, dI) classes [(c9, .array .int), (c9a, .int)] s := hK
  refine va_putF (D := (dC, dI)) (ci := 1) (v := .ref q9) (ty := .array (.array (.int))) (C := R_D) (T := F_D) (N := 5) hx hb htb in_D ft_D ft_D_ok n_D hown hK hP hD hS 0 rfl rfl 0 (by decide) (htb _ k_32) (fun _ h9 => h9) rfl hin rfl (by decide +kernel) rfl rfl (Nat.le_of_ble_eq_true rfl) d_D_init_13 (fun H locs hP hD hS => ?_)
  have hP : va_P (dC, dI) classes [(h0, .inr (1, [.ref q9, .null, .null, .int 0, .int 0])), (q9, .inl (c9, 2, .inr (.inr (.inr (.inr (va_two q9a q9b)))))), (q9a, .inl (c9a, 150, .inl (fun _ => 0))), (q9b, .inl (c9a, 150, .inl (fun _ => 0)))] H := hP
  have hD : va_D A [(h0, .inr (1, [.ref q9, .null, .null, .int 0, .int 0])), (q9, .inl (c9, 2, .inr (.inr (.inr (.inr (va_two q9a q9b)))))), (q9a, .inl (c9a, 150, .inl (fun _ => 0))), (q9b, .inl (c9a, 150, .inl (fun _ => 0)))] := hD
  refine lv_aload_n hx hb d_D_init_16 rfl (lv_at hl 0 rfl) ?_
  refine lv_iconst (v := 3) hx hb d_D_init_17 (by decide) ?_
  refine va_newa (atype := .int) (ty := .int) (a0 := (3, .inl (fun _ => 0))) (N' := 3) hx hb (htb _ k_48) rfl hK hP hD hS hA (fun _ => rfl) (by decide) rfl (by decide) (Nat.le_of_ble_eq_true rfl) (Nat.le_of_ble_eq_true rfl) d_D_init_18 (fun q18 c18 H hK hP hD hS => ?_)
  obtain rfl : c9a = c18 := ka_i hK 1 2 rfl rfl
  have hK := hK.sub (tys' := [(c9, .array .int), (c9a, .int)]) [0, 1] rfl
  have hP : va_P (dC, dI) classes [(h0, .inr (1, [.ref q9, .null, .null, .int 0, .int 0])), (q9, .inl (c9, 2, .inr (.inr (.inr (.inr (va_two q9a q9b)))))), (q9a, .inl (c9a, 150, .inl (fun _ => 0))), (q9b, .inl (c9a, 150, .inl (fun _ => 0))), (q18, .inl (c9a, 3, .inl (fun _ => 0)))] H := hP
  have hD : va_D A [(h0, .inr (1, [.ref q9, .null, .null, .int 0, .int 0])), (q9, .inl (c9, 2, .inr (.inr (.inr (.inr (va_two q9a q9b)))))), (q9a, .inl (c9a, 150, .inl (fun _ => 0))), (q9b, .inl (c9a, 150, .inl (fun _ => 0))), (q18, .inl (c9a, 3, .inl (fun _ => 0)))] := hD
  have hK : va_K (dC, dI) classes [(c9, .array .int), (c9a, .int)] s := hK
  refine va_putF (D := (dC, dI)) (ci := 1) (v := .ref q18) (ty := .array (.int)) (C := R_D) (T := F_D) (N := 5) hx hb htb in_D ft_D ft_D_ok n_D hown hK hP hD hS 0 rfl rfl 1 (by decide) (htb _ k_33) (fun _ h9 => h9) rfl hin rfl (by decide +kernel) rfl rfl (Nat.le_of_ble_eq_true rfl) d_D_init_20 (fun H locs hP hD hS => ?_)
  have hP : va_P (dC, dI) classes [(h0, .inr (1, [.ref q9, .ref q18, .null, .int 0, .int 0])), (q9, .inl (c9, 2, .inr (.inr (.inr (.inr (va_two q9a q9b)))))), (q9a, .inl (c9a, 150, .inl (fun _ => 0))), (q9b, .inl (c9a, 150, .inl (fun _ => 0))), (q18, .inl (c9a, 3, .inl (fun _ => 0)))] H := hP
  have hD : va_D A [(h0, .inr (1, [.ref q9, .ref q18, .null, .int 0, .int 0])), (q9, .inl (c9, 2, .inr (.inr (.inr (.inr (va_two q9a q9b)))))), (q9a, .inl (c9a, 150, .inl (fun _ => 0))), (q9b, .inl (c9a, 150, .inl (fun _ => 0))), (q18, .inl (c9a, 3, .inl (fun _ => 0)))] := hD
  refine lv_aload_n hx hb d_D_init_23 rfl (lv_at hl 0 rfl) ?_
  refine lv_iconst (v := 3) hx hb d_D_init_24 (by decide) ?_
  refine va_newa (atype := .int) (ty := .int) (a0 := (3, .inl (fun _ => 0))) (N' := 3) hx hb (htb _ k_48) rfl hK hP hD hS hA (fun _ => rfl) (by decide) rfl (by decide) (Nat.le_of_ble_eq_true rfl) (Nat.le_of_ble_eq_true rfl) d_D_init_25 (fun q25 c25 H hK hP hD hS => ?_)
  obtain rfl : c9a = c25 := ka_i hK 1 2 rfl rfl
  have hK := hK.sub (tys' := [(c9, .array .int), (c9a, .int)]) [0, 1] rfl
  have hP : va_P (dC, dI) classes [(h0, .inr (1, [.ref q9, .ref q18, .null, .int 0, .int 0])), (q9, .inl (c9, 2, .inr (.inr (.inr (.inr (va_two q9a q9b)))))), (q9a, .inl (c9a, 150, .inl (fun _ => 0))), (q9b, .inl (c9a, 150, .inl (fun _ => 0))), (q18, .inl (c9a, 3, .inl (fun _ => 0))), (q25, .inl (c9a, 3, .inl (fun _ => 0)))] H := hP
  have hD : va_D A [(h0, .inr (1, [.ref q9, .ref q18, .null, .int 0, .int 0])), (q9, .inl (c9, 2, .inr (.inr (.inr (.inr (va_two q9a q9b)))))), (q9a, .inl (c9a, 150, .inl (fun _ => 0))), (q9b, .inl (c9a, 150, .inl (fun _ => 0))), (q18, .inl (c9a, 3, .inl (fun _ => 0))), (q25, .inl (c9a, 3, .inl (fun _ => 0)))] := hD
  have hK : va_K (dC, dI) classes [(c9, .array .int), (c9a, .int)] s := hK
  refine va_putF (D := (dC, dI)) (ci := 1) (v := .ref q25) (ty := .array (.int)) (C := R_D) (T := F_D) (N := 5) hx hb htb in_D ft_D ft_D_ok n_D hown hK hP hD hS 0 rfl rfl 2 (by decide) (htb _ k_34) (fun _ h9 => h9) rfl hin rfl (by decide +kernel) rfl rfl (Nat.le_of_ble_eq_true rfl) d_D_init_27 (fun H locs hP hD hS => ?_)
  have hP : va_P (dC, dI) classes [(h0, .inr (1, [.ref q9, .ref q18, .ref q25, .int 0, .int 0])), (q9, .inl (c9, 2, .inr (.inr (.inr (.inr (va_two q9a q9b)))))), (q9a, .inl (c9a, 150, .inl (fun _ => 0))), (q9b, .inl (c9a, 150, .inl (fun _ => 0))), (q18, .inl (c9a, 3, .inl (fun _ => 0))), (q25, .inl (c9a, 3, .inl (fun _ => 0)))] H := hP
  have hD : va_D A [(h0, .inr (1, [.ref q9, .ref q18, .ref q25, .int 0, .int 0])), (q9, .inl (c9, 2, .inr (.inr (.inr (.inr (va_two q9a q9b)))))), (q9a, .inl (c9a, 150, .inl (fun _ => 0))), (q9b, .inl (c9a, 150, .inl (fun _ => 0))), (q18, .inl (c9a, 3, .inl (fun _ => 0))), (q25, .inl (c9a, 3, .inl (fun _ => 0)))] := hD
  refine lv_aload_n hx hb d_D_init_30 rfl (lv_at hl 0 rfl) ?_
  refine lv_iconst (v := 0) hx hb d_D_init_31 (by decide) ?_
  refine va_put (D := (dC, dI)) (ci := 1) (v := .int 0) (ty := .int) (C := R_D) (T := F_D) (N := 5) hx hb htb in_D ft_D ft_D_ok n_D hown hK hP hD hS 0 rfl rfl 3 (by decide) (htb _ k_35) (fun _ h9 => h9) rfl (by decide +kernel) rfl rfl (Nat.le_of_ble_eq_true rfl) d_D_init_32 (fun H locs hP hD hS => ?_)
  have hP : va_P (dC, dI) classes [(h0, .inr (1, [.ref q9, .ref q18, .ref q25, .int 0, .int 0])), (q9, .inl (c9, 2, .inr (.inr (.inr (.inr (va_two q9a q9b)))))), (q9a, .inl (c9a, 150, .inl (fun _ => 0))), (q9b, .inl (c9a, 150, .inl (fun _ => 0))), (q18, .inl (c9a, 3, .inl (fun _ => 0))), (q25, .inl (c9a, 3, .inl (fun _ => 0)))] H := hP
  have hD : va_D A [(h0, .inr (1, [.ref q9, .ref q18, .ref q25, .int 0, .int 0])), (q9, .inl (c9, 2, .inr (.inr (.inr (.inr (va_two q9a q9b)))))), (q9a, .inl (c9a, 150, .inl (fun _ => 0))), (q9b, .inl (c9a, 150, .inl (fun _ => 0))), (q18, .inl (c9a, 3, .inl (fun _ => 0))), (q25, .inl (c9a, 3, .inl (fun _ => 0)))] := hD
  refine lv_aload_n hx hb d_D_init_35 rfl (lv_at hl 0 rfl) ?_
  refine lv_iconst (v := 0) hx hb d_D_init_36 (by decide) ?_
  refine va_put (D := (dC, dI)) (ci := 1) (v := .int 0) (ty := .int) (C := R_D) (T := F_D) (N := 5) hx hb htb in_D ft_D ft_D_ok n_D hown hK hP hD hS 0 rfl rfl 4 (by decide) (htb _ k_36) (fun _ h9 => h9) rfl (by decide +kernel) rfl rfl (Nat.le_of_ble_eq_true rfl) d_D_init_37 (fun H locs hP hD hS => ?_)
  have hP : va_P (dC, dI) classes [(h0, .inr (1, [.ref q9, .ref q18, .ref q25, .int 0, .int 0])), (q9, .inl (c9, 2, .inr (.inr (.inr (.inr (va_two q9a q9b)))))), (q9a, .inl (c9a, 150, .inl (fun _ => 0))), (q9b, .inl (c9a, 150, .inl (fun _ => 0))), (q18, .inl (c9a, 3, .inl (fun _ => 0))), (q25, .inl (c9a, 3, .inl (fun _ => 0)))] H := hP
  have hD : va_D A [(h0, .inr (1, [.ref q9, .ref q18, .ref q25, .int 0, .int 0])), (q9, .inl (c9, 2, .inr (.inr (.inr (.inr (va_two q9a q9b)))))), (q9a, .inl (c9a, 150, .inl (fun _ => 0))), (q9b, .inl (c9a, 150, .inl (fun _ => 0))), (q18, .inl (c9a, 3, .inl (fun _ => 0))), (q25, .inl (c9a, 3, .inl (fun _ => 0)))] := hD
  exact W.vret hx hb hr (fun t ht hW => ⟨⟨(), rfl, trivial, q9, q9a, q9b, q18, q25, c9, c9a, by rw [ht]; exact hP, va_K.moved hW.alike hK, hD⟩, hS.F ht⟩) hS.2.2 d_D_init_40

theorem d_P_init_0 : decode b_P_init 0 = .ok (.aload_n 0, 1) := by decide +kernel
theorem d_P_init_1 : decode b_P_init 1 = .ok (.invokespecial 3, 3) := by decide +kernel
theorem d_P_init_4 : decode b_P_init 4 = .ok (.aload_n 0, 1) := by decide +kernel
theorem d_P_init_5 : decode b_P_init 5 = .ok (.iconst 3, 1) := by decide +kernel
theorem d_P_init_6 : decode b_P_init 6 = .ok (.newarray .int, 2) := by decide +kernel
theorem d_P_init_8 : decode b_P_init 8 = .ok (.putfield 9, 3) := by decide +kernel
theorem d_P_init_11 : decode b_P_init 11 = .ok (.aload_n 0, 1) := by decide +kernel
theorem d_P_init_12 : decode b_P_init 12 = .ok (.iconst 0, 1) := by decide +kernel
theorem d_P_init_13 : decode b_P_init 13 = .ok (.putfield 15, 3) := by decide +kernel
theorem d_P_init_16 : decode b_P_init 16 = .ok (.aload_n 0, 1) := by decide +kernel
theorem d_P_init_17 : decode b_P_init 17 = .ok (.iconst 0, 1) := by decide +kernel
theorem d_P_init_18 : decode b_P_init 18 = .ok (.putfield 19, 3) := by decide +kernel
theorem d_P_init_21 : decode b_P_init 21 = .ok (.return_, 1) := by decide +kernel
set_option maxHeartbeats 4000000 in
set_option maxRecDepth 100000 in
theorem c_P_init (l : Launch) (dC : Nat → ClassId) (dI : Nat → Nat → Nat) (h0 : Nat) (sz : Nat) : Met l y_P_init (wd y_P_init b_P_init 1 none) ({ frames := 1, cells := 1, slots := 3, locals := 12 }) (va_Pc [.ref h0] (preC dC dI [(h0, .inr (3, [.null, .int 0, .int 0]))] sz)) (va_Qv (fun (_ : Unit) => True) (fun (_ : Unit) t => ∃ (q6 : Nat) (c6 : ClassId), va_P (dC, dI) classes [(h0, .inr (3, [.ref q6, .int 0, .int 0])), (q6, .inl (c6, 3, .inl (fun _ => 0)))] t.heap ∧ va_K (dC, dI) classes [(c6, .int)] t ∧ va_D (va_A [(h0, .inr (3, [.null, .int 0, .int 0]))] sz) [(h0, .inr (3, [.ref q6, .int 0, .int 0])), (q6, .inl (c6, 3, .inl (fun _ => 0)))]) (va_A [(h0, .inr (3, [.null, .int 0, .int 0]))] sz)) 1 3 (va_A [(h0, .inr (3, [.null, .int 0, .int 0]))] sz) := by
  refine Met.ofW (cc := b_P_init) (maxL := 1) (ret := none) (by decide) rfl ?_
  intro p e s m args below meth c s₁ B hml hv
  obtain ⟨rfl, hsz, hP, hK, hD0, hN⟩ := hv
  have hx := B.exec
  have hb := B.bytes
  have hr := B.returns
  have hts := atoms_spec (ws := (wd y_P_init b_P_init 1 none)) B.pre
  have htb : ∀ w ∈ tb, w.before _ s = true := fun w h => hts w (List.mem_cons_of_mem _ h)
  have hown : s.vm.findClass R_P = some m.cls := findClass_of_methodNamed B.named
  have hlocks := B.notSynchronized
  have hin : meth.name = "<init>" := (name_of_methodNamed B.named B.method).1
  subst hsz
  have hD := hD0.self (sz := s.heap.size)
  generalize hAe : va_A [(h0, .inr (3, [.null, .int 0, .int 0]))] s.heap.size = A at hD ⊢
  have hA : ∀ q : Nat, s.heap.size ≤ q → A q := fun q h => by rw [← hAe]; exact Or.inr h
  have hS : va_S A s.heap s.heap [] := va_S.rf
  have hP : va_P (dC, dI) classes [(h0, .inr (3, [.null, .int 0, .int 0]))] s.heap := hP
  have hl := lv_entry ([.ref h0]) (n := 1) (Nat.le_of_ble_eq_true rfl)
  rw [lg_entry_eq]
  generalize (lg_sl ([.ref h0]) ++ List.replicate (1 - (lg_sl ([.ref h0])).length) Slot.unset).toArray = ls at hl ⊢
  have hl : lv_has ls 1 [(0, .ref h0)] := hl
  refine lv_aload_n hx hb d_P_init_0 rfl (lv_at hl 0 rfl) ?_
  refine W.objInit hx hb hown (htb _ k_54) (htb _ k_22) (htb _ k_23) rfl (by rw [hml]; exact hl.1) rfl d_P_init_1 (Nat.le_of_ble_eq_true rfl) (Nat.le_of_ble_eq_true rfl) ?_
  refine W.eq (g2 := F0 m 4 ls []) rfl ?_
  refine lv_aload_n hx hb d_P_init_4 rfl (lv_at hl 0 rfl) ?_
  refine lv_iconst (v := 3) hx hb d_P_init_5 (by decide) ?_
  refine va_newa (atype := .int) (ty := .int) (a0 := (3, .inl (fun _ => 0))) (N' := 3) hx hb (htb _ k_48) rfl hK hP hD hS hA (fun _ => rfl) (by decide) rfl (by decide) (Nat.le_of_ble_eq_true rfl) (Nat.le_of_ble_eq_true rfl) d_P_init_6 (fun q6 c6 H hK hP hD hS => ?_)
  have hP : va_P (dC, dI) classes [(h0, .inr (3, [.null, .int 0, .int 0])), (q6, .inl (c6, 3, .inl (fun _ => 0)))] H := hP
  have hD : va_D A [(h0, .inr (3, [.null, .int 0, .int 0])), (q6, .inl (c6, 3, .inl (fun _ => 0)))] := hD
  have hK : va_K (dC, dI) classes [(c6, .int)] s := hK
  refine va_putF (D := (dC, dI)) (ci := 3) (v := .ref q6) (ty := .array (.int)) (C := R_P) (T := F_P) (N := 3) hx hb htb in_P ft_P ft_P_ok n_P hown hK hP hD hS 0 rfl rfl 0 (by decide) (htb _ k_55) (fun _ h9 => h9) rfl hin rfl (by decide +kernel) rfl rfl (Nat.le_of_ble_eq_true rfl) d_P_init_8 (fun H locs hP hD hS => ?_)
  have hP : va_P (dC, dI) classes [(h0, .inr (3, [.ref q6, .int 0, .int 0])), (q6, .inl (c6, 3, .inl (fun _ => 0)))] H := hP
  have hD : va_D A [(h0, .inr (3, [.ref q6, .int 0, .int 0])), (q6, .inl (c6, 3, .inl (fun _ => 0)))] := hD
  refine lv_aload_n hx hb d_P_init_11 rfl (lv_at hl 0 rfl) ?_
  refine lv_iconst (v := 0) hx hb d_P_init_12 (by decide) ?_
  refine va_put (D := (dC, dI)) (ci := 3) (v := .int 0) (ty := .int) (C := R_P) (T := F_P) (N := 3) hx hb htb in_P ft_P ft_P_ok n_P hown hK hP hD hS 0 rfl rfl 1 (by decide) (htb _ k_56) (fun _ h9 => h9) rfl (by decide +kernel) rfl rfl (Nat.le_of_ble_eq_true rfl) d_P_init_13 (fun H locs hP hD hS => ?_)
  have hP : va_P (dC, dI) classes [(h0, .inr (3, [.ref q6, .int 0, .int 0])), (q6, .inl (c6, 3, .inl (fun _ => 0)))] H := hP
  have hD : va_D A [(h0, .inr (3, [.ref q6, .int 0, .int 0])), (q6, .inl (c6, 3, .inl (fun _ => 0)))] := hD
  refine lv_aload_n hx hb d_P_init_16 rfl (lv_at hl 0 rfl) ?_
  refine lv_iconst (v := 0) hx hb d_P_init_17 (by decide) ?_
  refine va_put (D := (dC, dI)) (ci := 3) (v := .int 0) (ty := .int) (C := R_P) (T := F_P) (N := 3) hx hb htb in_P ft_P ft_P_ok n_P hown hK hP hD hS 0 rfl rfl 2 (by decide) (htb _ k_57) (fun _ h9 => h9) rfl (by decide +kernel) rfl rfl (Nat.le_of_ble_eq_true rfl) d_P_init_18 (fun H locs hP hD hS => ?_)
  have hP : va_P (dC, dI) classes [(h0, .inr (3, [.ref q6, .int 0, .int 0])), (q6, .inl (c6, 3, .inl (fun _ => 0)))] H := hP
  have hD : va_D A [(h0, .inr (3, [.ref q6, .int 0, .int 0])), (q6, .inl (c6, 3, .inl (fun _ => 0)))] := hD
  exact W.vret hx hb hr (fun t ht hW => ⟨⟨(), rfl, trivial, q6, c6, by rw [ht]; exact hP, va_K.moved hW.alike hK, hD⟩, hS.F ht⟩) hS.2.2 d_P_init_21

theorem d_V_init_0 : decode b_V_init 0 = .ok (.aload_n 0, 1) := by decide +kernel
theorem d_V_init_1 : decode b_V_init 1 = .ok (.invokespecial 1, 3) := by decide +kernel
theorem d_V_init_4 : decode b_V_init 4 = .ok (.aload_n 0, 1) := by decide +kernel
theorem d_V_init_5 : decode b_V_init 5 = .ok (.iconst 0, 1) := by decide +kernel
theorem d_V_init_6 : decode b_V_init 6 = .ok (.putfield 7, 3) := by decide +kernel
theorem d_V_init_9 : decode b_V_init 9 = .ok (.aload_n 0, 1) := by decide +kernel
theorem d_V_init_10 : decode b_V_init 10 = .ok (.iconst 1, 1) := by decide +kernel
theorem d_V_init_11 : decode b_V_init 11 = .ok (.putfield 13, 3) := by decide +kernel
theorem d_V_init_14 : decode b_V_init 14 = .ok (.aload_n 0, 1) := by decide +kernel
theorem d_V_init_15 : decode b_V_init 15 = .ok (.iconst 0, 1) := by decide +kernel
theorem d_V_init_16 : decode b_V_init 16 = .ok (.putfield 17, 3) := by decide +kernel
theorem d_V_init_19 : decode b_V_init 19 = .ok (.aload_n 0, 1) := by decide +kernel
theorem d_V_init_20 : decode b_V_init 20 = .ok (.iconst 0, 1) := by decide +kernel
theorem d_V_init_21 : decode b_V_init 21 = .ok (.putfield 20, 3) := by decide +kernel
theorem d_V_init_24 : decode b_V_init 24 = .ok (.return_, 1) := by decide +kernel
set_option maxHeartbeats 4000000 in
set_option maxRecDepth 100000 in
theorem c_V_init (l : Launch) (dC : Nat → ClassId) (dI : Nat → Nat → Nat) (h0 : Nat) (sz : Nat) : Met l y_V_init (wd y_V_init b_V_init 1 none) ({ frames := 1, cells := 0, slots := 0, locals := 12 }) (va_Pc [.ref h0] (preC dC dI [(h0, .inr (4, [.int 0, .int 0, .int 0, .int 0]))] sz)) (va_Qv (fun (_ : Unit) => True) (fun (_ : Unit) t => va_P (dC, dI) classes [(h0, .inr (4, [.int 0, .int 1, .int 0, .int 0]))] t.heap ∧ va_K (dC, dI) classes [] t ∧ va_D (va_A [(h0, .inr (4, [.int 0, .int 0, .int 0, .int 0]))] sz) [(h0, .inr (4, [.int 0, .int 1, .int 0, .int 0]))]) (va_A [(h0, .inr (4, [.int 0, .int 0, .int 0, .int 0]))] sz)) 0 0 (va_A [(h0, .inr (4, [.int 0, .int 0, .int 0, .int 0]))] sz) := by
  refine Met.ofW (cc := b_V_init) (maxL := 1) (ret := none) (by decide) rfl ?_
  intro p e s m args below meth c s₁ B hml hv
  obtain ⟨rfl, hsz, hP, hK, hD0, hN⟩ := hv
  have hx := B.exec
  have hb := B.bytes
  have hr := B.returns
  have hts := atoms_spec (ws := (wd y_V_init b_V_init 1 none)) B.pre
  have htb : ∀ w ∈ tb, w.before _ s = true := fun w h => hts w (List.mem_cons_of_mem _ h)
  have hown : s.vm.findClass R_V = some m.cls := findClass_of_methodNamed B.named
  have hlocks := B.notSynchronized
  have hin : meth.name = "<init>" := (name_of_methodNamed B.named B.method).1
  subst hsz
  have hD := hD0.self (sz := s.heap.size)
  generalize hAe : va_A [(h0, .inr (4, [.int 0, .int 0, .int 0, .int 0]))] s.heap.size = A at hD ⊢
  have hA : ∀ q : Nat, s.heap.size ≤ q → A q := fun q h => by rw [← hAe]; exact Or.inr h
  have hS : va_S A s.heap s.heap [] := va_S.rf
  have hP : va_P (dC, dI) classes [(h0, .inr (4, [.int 0, .int 0, .int 0, .int 0]))] s.heap := hP
  have hl := lv_entry ([.ref h0]) (n := 1) (Nat.le_of_ble_eq_true rfl)
  rw [lg_entry_eq]
  generalize (lg_sl ([.ref h0]) ++ List.replicate (1 - (lg_sl ([.ref h0])).length) Slot.unset).toArray = ls at hl ⊢
  have hl : lv_has ls 1 [(0, .ref h0)] := hl
  refine lv_aload_n hx hb d_V_init_0 rfl (lv_at hl 0 rfl) ?_
  refine W.objInit hx hb hown (htb _ k_70) (htb _ k_22) (htb _ k_23) rfl (by rw [hml]; exact hl.1) rfl d_V_init_1 (Nat.le_of_ble_eq_true rfl) (Nat.le_of_ble_eq_true rfl) ?_
  refine W.eq (g2 := F0 m 4 ls []) rfl ?_
  refine lv_aload_n hx hb d_V_init_4 rfl (lv_at hl 0 rfl) ?_
  refine lv_iconst (v := 0) hx hb d_V_init_5 (by decide) ?_
  refine va_put (D := (dC, dI)) (ci := 4) (v := .int 0) (ty := .int) (C := R_V) (T := F_V) (N := 4) hx hb htb in_V ft_V ft_V_ok n_V hown hK hP hD hS 0 rfl rfl 0 (by decide) (htb _ k_71) (fun _ h9 => h9) rfl (by decide +kernel) rfl rfl (Nat.le_of_ble_eq_true rfl) d_V_init_6 (fun H locs hP hD hS => ?_)
  have hP : va_P (dC, dI) classes [(h0, .inr (4, [.int 0, .int 0, .int 0, .int 0]))] H := hP
  have hD : va_D A [(h0, .inr (4, [.int 0, .int 0, .int 0, .int 0]))] := hD
  refine lv_aload_n hx hb d_V_init_9 rfl (lv_at hl 0 rfl) ?_
  refine lv_iconst (v := 1) hx hb d_V_init_10 (by decide) ?_
  refine va_put (D := (dC, dI)) (ci := 4) (v := .int 1) (ty := .boolean) (C := R_V) (T := F_V) (N := 4) hx hb htb in_V ft_V ft_V_ok n_V hown hK hP hD hS 0 rfl rfl 1 (by decide) (htb _ k_72) (fun _ h9 => h9) rfl (by decide +kernel) rfl rfl (Nat.le_of_ble_eq_true rfl) d_V_init_11 (fun H locs hP hD hS => ?_)
  have hP : va_P (dC, dI) classes [(h0, .inr (4, [.int 0, .int 1, .int 0, .int 0]))] H := hP
  have hD : va_D A [(h0, .inr (4, [.int 0, .int 1, .int 0, .int 0]))] := hD
  refine lv_aload_n hx hb d_V_init_14 rfl (lv_at hl 0 rfl) ?_
  refine lv_iconst (v := 0) hx hb d_V_init_15 (by decide) ?_
  refine va_put (D := (dC, dI)) (ci := 4) (v := .int 0) (ty := .boolean) (C := R_V) (T := F_V) (N := 4) hx hb htb in_V ft_V ft_V_ok n_V hown hK hP hD hS 0 rfl rfl 2 (by decide) (htb _ k_73) (fun _ h9 => h9) rfl (by decide +kernel) rfl rfl (Nat.le_of_ble_eq_true rfl) d_V_init_16 (fun H locs hP hD hS => ?_)
  have hP : va_P (dC, dI) classes [(h0, .inr (4, [.int 0, .int 1, .int 0, .int 0]))] H := hP
  have hD : va_D A [(h0, .inr (4, [.int 0, .int 1, .int 0, .int 0]))] := hD
  refine lv_aload_n hx hb d_V_init_19 rfl (lv_at hl 0 rfl) ?_
  refine lv_iconst (v := 0) hx hb d_V_init_20 (by decide) ?_
  refine va_put (D := (dC, dI)) (ci := 4) (v := .int 0) (ty := .int) (C := R_V) (T := F_V) (N := 4) hx hb htb in_V ft_V ft_V_ok n_V hown hK hP hD hS 0 rfl rfl 3 (by decide) (htb _ k_74) (fun _ h9 => h9) rfl (by decide +kernel) rfl rfl (Nat.le_of_ble_eq_true rfl) d_V_init_21 (fun H locs hP hD hS => ?_)
  have hP : va_P (dC, dI) classes [(h0, .inr (4, [.int 0, .int 1, .int 0, .int 0]))] H := hP
  have hD : va_D A [(h0, .inr (4, [.int 0, .int 1, .int 0, .int 0]))] := hD
  exact W.vret hx hb hr (fun t ht hW => ⟨⟨(), rfl, trivial, by rw [ht]; exact hP, va_K.moved hW.alike hK, hD⟩, hS.F ht⟩) hS.2.2 d_V_init_24

theorem d_R_init_0 : decode b_R_init 0 = .ok (.aload_n 0, 1) := by decide +kernel
theorem d_R_init_1 : decode b_R_init 1 = .ok (.invokespecial 3, 3) := by decide +kernel
theorem d_R_init_4 : decode b_R_init 4 = .ok (.aload_n 0, 1) := by decide +kernel
theorem d_R_init_5 : decode b_R_init 5 = .ok (.sipush 150, 3) := by decide +kernel
theorem d_R_init_8 : decode b_R_init 8 = .ok (.newarray .int, 2) := by decide +kernel
theorem d_R_init_10 : decode b_R_init 10 = .ok (.putfield 9, 3) := by decide +kernel
theorem d_R_init_13 : decode b_R_init 13 = .ok (.aload_n 0, 1) := by decide +kernel
theorem d_R_init_14 : decode b_R_init 14 = .ok (.iconst 0, 1) := by decide +kernel
theorem d_R_init_15 : decode b_R_init 15 = .ok (.putfield 15, 3) := by decide +kernel
theorem d_R_init_18 : decode b_R_init 18 = .ok (.return_, 1) := by decide +kernel
set_option maxHeartbeats 4000000 in
set_option maxRecDepth 100000 in
theorem c_R_init (l : Launch) (dC : Nat → ClassId) (dI : Nat → Nat → Nat) (h0 : Nat) (sz : Nat) : Met l y_R_init (wd y_R_init b_R_init 1 none) ({ frames := 1, cells := 1, slots := 150, locals := 12 }) (va_Pc [.ref h0] (preC dC dI [(h0, .inr (5, [.null, .int 0]))] sz)) (va_Qv (fun (_ : Unit) => True) (fun (_ : Unit) t => ∃ (q8 : Nat) (c8 : ClassId), va_P (dC, dI) classes [(h0, .inr (5, [.ref q8, .int 0])), (q8, .inl (c8, 150, .inl (fun _ => 0)))] t.heap ∧ va_K (dC, dI) classes [(c8, .int)] t ∧ va_D (va_A [(h0, .inr (5, [.null, .int 0]))] sz) [(h0, .inr (5, [.ref q8, .int 0])), (q8, .inl (c8, 150, .inl (fun _ => 0)))]) (va_A [(h0, .inr (5, [.null, .int 0]))] sz)) 1 150 (va_A [(h0, .inr (5, [.null, .int 0]))] sz) := by
  refine Met.ofW (cc := b_R_init) (maxL := 1) (ret := none) (by decide) rfl ?_
  intro p e s m args below meth c s₁ B hml hv
  obtain ⟨rfl, hsz, hP, hK, hD0, hN⟩ := hv
  have hx := B.exec
  have hb := B.bytes
  have hr := B.returns
  have hts := atoms_spec (ws := (wd y_R_init b_R_init 1 none)) B.pre
  have htb : ∀ w ∈ tb, w.before _ s = true := fun w h => hts w (List.mem_cons_of_mem _ h)
  have hown : s.vm.findClass R_R = some m.cls := findClass_of_methodNamed B.named
  have hlocks := B.notSynchronized
  have hin : meth.name = "<init>" := (name_of_methodNamed B.named B.method).1
  subst hsz
  have hD := hD0.self (sz := s.heap.size)
  generalize hAe : va_A [(h0, .inr (5, [.null, .int 0]))] s.heap.size = A at hD ⊢
  have hA : ∀ q : Nat, s.heap.size ≤ q → A q := fun q h => by rw [← hAe]; exact Or.inr h
  have hS : va_S A s.heap s.heap [] := va_S.rf
  have hP : va_P (dC, dI) classes [(h0, .inr (5, [.null, .int 0]))] s.heap := hP
  have hl := lv_entry ([.ref h0]) (n := 1) (Nat.le_of_ble_eq_true rfl)
  rw [lg_entry_eq]
  generalize (lg_sl ([.ref h0]) ++ List.replicate (1 - (lg_sl ([.ref h0])).length) Slot.unset).toArray = ls at hl ⊢
  have hl : lv_has ls 1 [(0, .ref h0)] := hl
  refine lv_aload_n hx hb d_R_init_0 rfl (lv_at hl 0 rfl) ?_
  refine W.objInit hx hb hown (htb _ k_89) (htb _ k_22) (htb _ k_23) rfl (by rw [hml]; exact hl.1) rfl d_R_init_1 (Nat.le_of_ble_eq_true rfl) (Nat.le_of_ble_eq_true rfl) ?_
  refine W.eq (g2 := F0 m 4 ls []) rfl ?_
  refine lv_aload_n hx hb d_R_init_4 rfl (lv_at hl 0 rfl) ?_
  refine lv_sipush (v := 150) hx hb d_R_init_5 (by decide) ?_
  refine va_newa (atype := .int) (ty := .int) (a0 := (150, .inl (fun _ => 0))) (N' := 150) hx hb (htb _ k_48) rfl hK hP hD hS hA (fun _ => rfl) (by decide) rfl (by decide) (Nat.le_of_ble_eq_true rfl) (Nat.le_of_ble_eq_true rfl) d_R_init_8 (fun q8 c8 H hK hP hD hS => ?_)
  have hP : va_P (dC, dI) classes [(h0, .inr (5, [.null, .int 0])), (q8, .inl (c8, 150, .inl (fun _ => 0)))] H := hP
  have hD : va_D A [(h0, .inr (5, [.null, .int 0])), (q8, .inl (c8, 150, .inl (fun _ => 0)))] := hD
  have hK : va_K (dC, dI) classes [(c8, .int)] s := hK
  refine va_putF (D := (dC, dI)) (ci := 5) (v := .ref q8) (ty := .array (.int)) (C := R_R) (T := F_R) (N := 2) hx hb htb in_R ft_R ft_R_ok n_R hown hK hP hD hS 0 rfl rfl 0 (by decide) (htb _ k_90) (fun _ h9 => h9) rfl hin rfl (by decide +kernel) rfl rfl (Nat.le_of_ble_eq_true rfl) d_R_init_10 (fun H locs hP hD hS => ?_)
  have hP : va_P (dC, dI) classes [(h0, .inr (5, [.ref q8, .int 0])), (q8, .inl (c8, 150, .inl (fun _ => 0)))] H := hP
  have hD : va_D A [(h0, .inr (5, [.ref q8, .int 0])), (q8, .inl (c8, 150, .inl (fun _ => 0)))] := hD
  refine lv_aload_n hx hb d_R_init_13 rfl (lv_at hl 0 rfl) ?_
  refine lv_iconst (v := 0) hx hb d_R_init_14 (by decide) ?_
  refine va_put (D := (dC, dI)) (ci := 5) (v := .int 0) (ty := .int) (C := R_R) (T := F_R) (N := 2) hx hb htb in_R ft_R ft_R_ok n_R hown hK hP hD hS 0 rfl rfl 1 (by decide) (htb _ k_92) (fun _ h9 => h9) rfl (by decide +kernel) rfl rfl (Nat.le_of_ble_eq_true rfl) d_R_init_15 (fun H locs hP hD hS => ?_)
  have hP : va_P (dC, dI) classes [(h0, .inr (5, [.ref q8, .int 0])), (q8, .inl (c8, 150, .inl (fun _ => 0)))] H := hP
  have hD : va_D A [(h0, .inr (5, [.ref q8, .int 0])), (q8, .inl (c8, 150, .inl (fun _ => 0)))] := hD
  exact W.vret hx hb hr (fun t ht hW => ⟨⟨(), rfl, trivial, q8, c8, by rw [ht]; exact hP, va_K.moved hW.alike hK, hD⟩, hS.F ht⟩) hS.2.2 d_R_init_18

theorem d_S_init_0 : decode b_S_init 0 = .ok (.aload_n 0, 1) := by decide +kernel
theorem d_S_init_1 : decode b_S_init 1 = .ok (.invokespecial 3, 3) := by decide +kernel
theorem d_S_init_4 : decode b_S_init 4 = .ok (.aload_n 0, 1) := by decide +kernel
theorem d_S_init_5 : decode b_S_init 5 = .ok (.bipush 8, 2) := by decide +kernel
theorem d_S_init_7 : decode b_S_init 7 = .ok (.newarray .int, 2) := by decide +kernel
theorem d_S_init_9 : decode b_S_init 9 = .ok (.putfield 9, 3) := by decide +kernel
theorem d_S_init_12 : decode b_S_init 12 = .ok (.aload_n 0, 1) := by decide +kernel
theorem d_S_init_13 : decode b_S_init 13 = .ok (.bipush 8, 2) := by decide +kernel
theorem d_S_init_15 : decode b_S_init 15 = .ok (.newarray .boolean, 2) := by decide +kernel
theorem d_S_init_17 : decode b_S_init 17 = .ok (.putfield 15, 3) := by decide +kernel
theorem d_S_init_20 : decode b_S_init 20 = .ok (.aload_n 0, 1) := by decide +kernel
theorem d_S_init_21 : decode b_S_init 21 = .ok (.iconst 0, 1) := by decide +kernel
theorem d_S_init_22 : decode b_S_init 22 = .ok (.putfield 19, 3) := by decide +kernel
theorem d_S_init_25 : decode b_S_init 25 = .ok (.aload_n 0, 1) := by decide +kernel
theorem d_S_init_26 : decode b_S_init 26 = .ok (.iconst 0, 1) := by decide +kernel
theorem d_S_init_27 : decode b_S_init 27 = .ok (.putfield 23, 3) := by decide +kernel
theorem d_S_init_30 : decode b_S_init 30 = .ok (.aload_n 0, 1) := by decide +kernel
theorem d_S_init_31 : decode b_S_init 31 = .ok (.iload_n 1, 1) := by decide +kernel
theorem d_S_init_32 : decode b_S_init 32 = .ok (.putfield 26, 3) := by decide +kernel
theorem d_S_init_35 : decode b_S_init 35 = .ok (.return_, 1) := by decide +kernel
set_option maxHeartbeats 4000000 in
set_option maxRecDepth 100000 in
theorem c_S_init (l : Launch) (dC : Nat → ClassId) (dI : Nat → Nat → Nat) (h0 : Nat) (sz : Nat) (a1 : Int32) : Met l y_S_init (wd y_S_init b_S_init 2 none) ({ frames := 1, cells := 2, slots := 16, locals := 12 }) (va_Pc [.ref h0, .int a1] (preC dC dI [(h0, .inr (2, [.int 0, .null, .null, .int 0, .int 0]))] sz)) (va_Qv (fun (_ : Unit) => True) (fun (_ : Unit) t => ∃ (q7 q15 : Nat) (c7 c15 : ClassId), va_P (dC, dI) classes [(h0, .inr (2, [.int a1, .ref q7, .ref q15, .int 0, .int 0])), (q7, .inl (c7, 8, .inl (fun _ => 0))), (q15, .inl (c15, 8, .inl (fun _ => 0)))] t.heap ∧ va_K (dC, dI) classes [(c7, .int), (c15, .boolean)] t ∧ va_D (va_A [(h0, .inr (2, [.int 0, .null, .null, .int 0, .int 0]))] sz) [(h0, .inr (2, [.int a1, .ref q7, .ref q15, .int 0, .int 0])), (q7, .inl (c7, 8, .inl (fun _ => 0))), (q15, .inl (c15, 8, .inl (fun _ => 0)))]) (va_A [(h0, .inr (2, [.int 0, .null, .null, .int 0, .int 0]))] sz)) 2 16 (va_A [(h0, .inr (2, [.int 0, .null, .null, .int 0, .int 0]))] sz) := by
  refine Met.ofW (cc := b_S_init) (maxL := 2) (ret := none) (by decide) rfl ?_
  intro p e s m args below meth c s₁ B hml hv
  obtain ⟨rfl, hsz, hP, hK, hD0, hN⟩ := hv
  have hx := B.exec
  have hb := B.bytes
  have hr := B.returns
  have hts := atoms_spec (ws := (wd y_S_init b_S_init 2 none)) B.pre
  have htb : ∀ w ∈ tb, w.before _ s = true := fun w h => hts w (List.mem_cons_of_mem _ h)
  have hown : s.vm.findClass R_S = some m.cls := findClass_of_methodNamed B.named
  have hlocks := B.notSynchronized
  have hin : meth.name = "<init>" := (name_of_methodNamed B.named B.method).1
  subst hsz
  have hD := hD0.self (sz := s.heap.size)
  generalize hAe : va_A [(h0, .inr (2, [.int 0, .null, .null, .int 0, .int 0]))] s.heap.size = A at hD ⊢
  have hA : ∀ q : Nat, s.heap.size ≤ q → A q := fun q h => by rw [← hAe]; exact Or.inr h
  have hS : va_S A s.heap s.heap [] := va_S.rf
  have hP : va_P (dC, dI) classes [(h0, .inr (2, [.int 0, .null, .null, .int 0, .int 0]))] s.heap := hP
  have hl := lv_entry ([.ref h0, .int a1]) (n := 2) (Nat.le_of_ble_eq_true rfl)
  rw [lg_entry_eq]
  generalize (lg_sl ([.ref h0, .int a1]) ++ List.replicate (2 - (lg_sl ([.ref h0, .int a1])).length) Slot.unset).toArray = ls at hl ⊢
  have hl : lv_has ls 2 [(0, .ref h0), (1, .int a1)] := hl
  refine lv_aload_n hx hb d_S_init_0 rfl (lv_at hl 0 rfl) ?_
  refine W.objInit hx hb hown (htb _ k_106) (htb _ k_22) (htb _ k_23) rfl (by rw [hml]; exact hl.1) rfl d_S_init_1 (Nat.le_of_ble_eq_true rfl) (Nat.le_of_ble_eq_true rfl) ?_
  refine W.eq (g2 := F0 m 4 ls []) rfl ?_
  refine lv_aload_n hx hb d_S_init_4 rfl (lv_at hl 0 rfl) ?_
  refine lv_bipush (v := 8) hx hb d_S_init_5 (by decide) ?_
  refine va_newa (atype := .int) (ty := .int) (a0 := (8, .inl (fun _ => 0))) (N' := 8) hx hb (htb _ k_48) rfl hK hP hD hS hA (fun _ => rfl) (by decide) rfl (by decide) (Nat.le_of_ble_eq_true rfl) (Nat.le_of_ble_eq_true rfl) d_S_init_7 (fun q7 c7 H hK hP hD hS => ?_)
  have hP : va_P (dC, dI) classes [(h0, .inr (2, [.int 0, .null, .null, .int 0, .int 0])), (q7, .inl (c7, 8, .inl (fun _ => 0)))] H := hP
  have hD : va_D A [(h0, .inr (2, [.int 0, .null, .null, .int 0, .int 0])), (q7, .inl (c7, 8, .inl (fun _ => 0)))] := hD
  have hK : va_K (dC, dI) classes [(c7, .int)] s := hK
  refine va_putF (D := (dC, dI)) (ci := 2) (v := .ref q7) (ty := .array (.int)) (C := R_S) (T := F_S) (N := 5) hx hb htb in_S ft_S ft_S_ok n_S hown hK hP hD hS 0 rfl rfl 1 (by decide) (htb _ k_108) (fun _ h9 => h9) rfl hin rfl (by decide +kernel) rfl rfl (Nat.le_of_ble_eq_true rfl) d_S_init_9 (fun H locs hP hD hS => ?_)
  have hP : va_P (dC, dI) classes [(h0, .inr (2, [.int 0, .ref q7, .null, .int 0, .int 0])), (q7, .inl (c7, 8, .inl (fun _ => 0)))] H := hP
  have hD : va_D A [(h0, .inr (2, [.int 0, .ref q7, .null, .int 0, .int 0])), (q7, .inl (c7, 8, .inl (fun _ => 0)))] := hD
  refine lv_aload_n hx hb d_S_init_12 rfl (lv_at hl 0 rfl) ?_
  refine lv_bipush (v := 8) hx hb d_S_init_13 (by decide) ?_
  refine va_newa (atype := .boolean) (ty := .boolean) (a0 := (8, .inl (fun _ => 0))) (N' := 8) hx hb (htb _ k_123) rfl hK hP hD hS hA (fun _ => rfl) (by decide) rfl (by decide) (Nat.le_of_ble_eq_true rfl) (Nat.le_of_ble_eq_true rfl) d_S_init_15 (fun q15 c15 H hK hP hD hS => ?_)
  have hP : va_P (dC, dI) classes [(h0, .inr (2, [.int 0, .ref q7, .null, .int 0, .int 0])), (q7, .inl (c7, 8, .inl (fun _ => 0))), (q15, .inl (c15, 8, .inl (fun _ => 0)))] H := hP
  have hD : va_D A [(h0, .inr (2, [.int 0, .ref q7, .null, .int 0, .int 0])), (q7, .inl (c7, 8, .inl (fun _ => 0))), (q15, .inl (c15, 8, .inl (fun _ => 0)))] := hD
  have hK : va_K (dC, dI) classes [(c7, .int), (c15, .boolean)] s := hK
  refine va_putF (D := (dC, dI)) (ci := 2) (v := .ref q15) (ty := .array (.boolean)) (C := R_S) (T := F_S) (N := 5) hx hb htb in_S ft_S ft_S_ok n_S hown hK hP hD hS 0 rfl rfl 2 (by decide) (htb _ k_109) (fun _ h9 => h9) rfl hin rfl (by decide +kernel) rfl rfl (Nat.le_of_ble_eq_true rfl) d_S_init_17 (fun H locs hP hD hS => ?_)
  have hP : va_P (dC, dI) classes [(h0, .inr (2, [.int 0, .ref q7, .ref q15, .int 0, .int 0])), (q7, .inl (c7, 8, .inl (fun _ => 0))), (q15, .inl (c15, 8, .inl (fun _ => 0)))] H := hP
  have hD : va_D A [(h0, .inr (2, [.int 0, .ref q7, .ref q15, .int 0, .int 0])), (q7, .inl (c7, 8, .inl (fun _ => 0))), (q15, .inl (c15, 8, .inl (fun _ => 0)))] := hD
  refine lv_aload_n hx hb d_S_init_20 rfl (lv_at hl 0 rfl) ?_
  refine lv_iconst (v := 0) hx hb d_S_init_21 (by decide) ?_
  refine va_put (D := (dC, dI)) (ci := 2) (v := .int 0) (ty := .int) (C := R_S) (T := F_S) (N := 5) hx hb htb in_S ft_S ft_S_ok n_S hown hK hP hD hS 0 rfl rfl 3 (by decide) (htb _ k_110) (fun _ h9 => h9) rfl (by decide +kernel) rfl rfl (Nat.le_of_ble_eq_true rfl) d_S_init_22 (fun H locs hP hD hS => ?_)
  have hP : va_P (dC, dI) classes [(h0, .inr (2, [.int 0, .ref q7, .ref q15, .int 0, .int 0])), (q7, .inl (c7, 8, .inl (fun _ => 0))), (q15, .inl (c15, 8, .inl (fun _ => 0)))] H := hP
  have hD : va_D A [(h0, .inr (2, [.int 0, .ref q7, .ref q15, .int 0, .int 0])), (q7, .inl (c7, 8, .inl (fun _ => 0))), (q15, .inl (c15, 8, .inl (fun _ => 0)))] := hD
  refine lv_aload_n hx hb d_S_init_25 rfl (lv_at hl 0 rfl) ?_
  refine lv_iconst (v := 0) hx hb d_S_init_26 (by decide) ?_
  refine va_put (D := (dC, dI)) (ci := 2) (v := .int 0) (ty := .int) (C := R_S) (T := F_S) (N := 5) hx hb htb in_S ft_S ft_S_ok n_S hown hK hP hD hS 0 rfl rfl 4 (by decide) (htb _ k_111) (fun _ h9 => h9) rfl (by decide +kernel) rfl rfl (Nat.le_of_ble_eq_true rfl) d_S_init_27 (fun H locs hP hD hS => ?_)
  have hP : va_P (dC, dI) classes [(h0, .inr (2, [.int 0, .ref q7, .ref q15, .int 0, .int 0])), (q7, .inl (c7, 8, .inl (fun _ => 0))), (q15, .inl (c15, 8, .inl (fun _ => 0)))] H := hP
  have hD : va_D A [(h0, .inr (2, [.int 0, .ref q7, .ref q15, .int 0, .int 0])), (q7, .inl (c7, 8, .inl (fun _ => 0))), (q15, .inl (c15, 8, .inl (fun _ => 0)))] := hD
  refine lv_aload_n hx hb d_S_init_30 rfl (lv_at hl 0 rfl) ?_
  refine lv_iload_n hx hb d_S_init_31 rfl (lv_at hl 1 rfl) ?_
  refine va_putF (D := (dC, dI)) (ci := 2) (v := .int a1) (ty := .int) (C := R_S) (T := F_S) (N := 5) hx hb htb in_S ft_S ft_S_ok n_S hown hK hP hD hS 0 rfl rfl 0 (by decide) (htb _ k_107) (fun _ h9 => h9) rfl hin rfl (by decide +kernel) rfl rfl (Nat.le_of_ble_eq_true rfl) d_S_init_32 (fun H locs hP hD hS => ?_)
  have hP : va_P (dC, dI) classes [(h0, .inr (2, [.int a1, .ref q7, .ref q15, .int 0, .int 0])), (q7, .inl (c7, 8, .inl (fun _ => 0))), (q15, .inl (c15, 8, .inl (fun _ => 0)))] H := hP
  have hD : va_D A [(h0, .inr (2, [.int a1, .ref q7, .ref q15, .int 0, .int 0])), (q7, .inl (c7, 8, .inl (fun _ => 0))), (q15, .inl (c15, 8, .inl (fun _ => 0)))] := hD
  exact W.vret hx hb hr (fun t ht hW => ⟨⟨(), rfl, trivial, q7, q15, c7, c15, by rw [ht]; exact hP, va_K.moved hW.alike hK, hD⟩, hS.F ht⟩) hS.2.2 d_S_init_35

theorem d_T_init_0 : decode b_T_init 0 = .ok (.aload_n 0, 1) := by decide +kernel
theorem d_T_init_1 : decode b_T_init 1 = .ok (.invokespecial 3, 3) := by decide +kernel
theorem d_T_init_4 : decode b_T_init 4 = .ok (.aload_n 0, 1) := by decide +kernel
theorem d_T_init_5 : decode b_T_init 5 = .ok (.sipush 150, 3) := by decide +kernel
theorem d_T_init_8 : decode b_T_init 8 = .ok (.newarray .int, 2) := by decide +kernel
theorem d_T_init_10 : decode b_T_init 10 = .ok (.putfield 9, 3) := by decide +kernel
theorem d_T_init_13 : decode b_T_init 13 = .ok (.aload_n 0, 1) := by decide +kernel
theorem d_T_init_14 : decode b_T_init 14 = .ok (.sipush 150, 3) := by decide +kernel
theorem d_T_init_17 : decode b_T_init 17 = .ok (.newarray .int, 2) := by decide +kernel
theorem d_T_init_19 : decode b_T_init 19 = .ok (.putfield 15, 3) := by decide +kernel
theorem d_T_init_22 : decode b_T_init 22 = .ok (.aload_n 0, 1) := by decide +kernel
theorem d_T_init_23 : decode b_T_init 23 = .ok (.iconst 0, 1) := by decide +kernel
theorem d_T_init_24 : decode b_T_init 24 = .ok (.putfield 18, 3) := by decide +kernel
theorem d_T_init_27 : decode b_T_init 27 = .ok (.aload_n 0, 1) := by decide +kernel
theorem d_T_init_28 : decode b_T_init 28 = .ok (.iconst 0, 1) := by decide +kernel
theorem d_T_init_29 : decode b_T_init 29 = .ok (.putfield 22, 3) := by decide +kernel
theorem d_T_init_32 : decode b_T_init 32 = .ok (.aload_n 0, 1) := by decide +kernel
theorem d_T_init_33 : decode b_T_init 33 = .ok (.iconst 0, 1) := by decide +kernel
theorem d_T_init_34 : decode b_T_init 34 = .ok (.putfield 25, 3) := by decide +kernel
theorem d_T_init_37 : decode b_T_init 37 = .ok (.aload_n 0, 1) := by decide +kernel
theorem d_T_init_38 : decode b_T_init 38 = .ok (.iconst 0, 1) := by decide +kernel
theorem d_T_init_39 : decode b_T_init 39 = .ok (.putfield 28, 3) := by decide +kernel
theorem d_T_init_42 : decode b_T_init 42 = .ok (.return_, 1) := by decide +kernel
set_option maxHeartbeats 4000000 in
set_option maxRecDepth 100000 in
theorem c_T_init (l : Launch) (dC : Nat → ClassId) (dI : Nat → Nat → Nat) (h0 : Nat) (sz : Nat) : Met l y_T_init (wd y_T_init b_T_init 1 none) ({ frames := 1, cells := 2, slots := 300, locals := 12 }) (va_Pc [.ref h0] (preC dC dI [(h0, .inr (6, [.null, .null, .int 0, .int 0, .int 0, .int 0]))] sz)) (va_Qv (fun (_ : Unit) => True) (fun (_ : Unit) t => ∃ (q8 q17 : Nat) (c8 : ClassId), va_P (dC, dI) classes [(h0, .inr (6, [.ref q8, .ref q17, .int 0, .int 0, .int 0, .int 0])), (q8, .inl (c8, 150, .inl (fun _ => 0))), (q17, .inl (c8, 150, .inl (fun _ => 0)))] t.heap ∧ va_K (dC, dI) classes [(c8, .int)] t ∧ va_D (va_A [(h0, .inr (6, [.null, .null, .int 0, .int 0, .int 0, .int 0]))] sz) [(h0, .inr (6, [.ref q8, .ref q17, .int 0, .int 0, .int 0, .int 0])), (q8, .inl (c8, 150, .inl (fun _ => 0))), (q17, .inl (c8, 150, .inl (fun _ => 0)))]) (va_A [(h0, .inr (6, [.null, .null, .int 0, .int 0, .int 0, .int 0]))] sz)) 2 300 (va_A [(h0, .inr (6, [.null, .null, .int 0, .int 0, .int 0, .int 0]))] sz) := by
  refine Met.ofW (cc := b_T_init) (maxL := 1) (ret := none) (by decide) rfl ?_
  intro p e s m args below meth c s₁ B hml hv
  obtain ⟨rfl, hsz, hP, hK, hD0, hN⟩ := hv
  have hx := B.exec
  have hb := B.bytes
  have hr := B.returns
  have hts := atoms_spec (ws := (wd y_T_init b_T_init 1 none)) B.pre
  have htb : ∀ w ∈ tb, w.before _ s = true := fun w h => hts w (List.mem_cons_of_mem _ h)
  have hown : s.vm.findClass R_T = some m.cls := findClass_of_methodNamed B.named
  have hlocks := B.notSynchronized
  have hin : meth.name = "<init>" := (name_of_methodNamed B.named B.method).1
  subst hsz
  have hD := hD0.self (sz := s.heap.size)
  generalize hAe : va_A [(h0, .inr (6, [.null, .null, .int 0, .int 0, .int 0, .int 0]))] s.heap.size = A at hD ⊢
  have hA : ∀ q : Nat, s.heap.size ≤ q → A q := fun q h => by rw [← hAe]; exact Or.inr h
  have hS : va_S A s.heap s.heap [] := va_S.rf
  have hP : va_P (dC, dI) classes [(h0, .inr (6, [.null, .null, .int 0, .int 0, .int 0, .int 0]))] s.heap := hP
  have hl := lv_entry ([.ref h0]) (n := 1) (Nat.le_of_ble_eq_true rfl)
  rw [lg_entry_eq]
  generalize (lg_sl ([.ref h0]) ++ List.replicate (1 - (lg_sl ([.ref h0])).length) Slot.unset).toArray = ls at hl ⊢
  have hl : lv_has ls 1 [(0, .ref h0)] := hl
  refine lv_aload_n hx hb d_T_init_0 rfl (lv_at hl 0 rfl) ?_
  refine W.objInit hx hb hown (htb _ k_128) (htb _ k_22) (htb _ k_23) rfl (by rw [hml]; exact hl.1) rfl d_T_init_1 (Nat.le_of_ble_eq_true rfl) (Nat.le_of_ble_eq_true rfl) ?_
  refine W.eq (g2 := F0 m 4 ls []) rfl ?_
  refine lv_aload_n hx hb d_T_init_4 rfl (lv_at hl 0 rfl) ?_
  refine lv_sipush (v := 150) hx hb d_T_init_5 (by decide) ?_
  refine va_newa (atype := .int) (ty := .int) (a0 := (150, .inl (fun _ => 0))) (N' := 150) hx hb (htb _ k_48) rfl hK hP hD hS hA (fun _ => rfl) (by decide) rfl (by decide) (Nat.le_of_ble_eq_true rfl) (Nat.le_of_ble_eq_true rfl) d_T_init_8 (fun q8 c8 H hK hP hD hS => ?_)
  have hP : va_P (dC, dI) classes [(h0, .inr (6, [.null, .null, .int 0, .int 0, .int 0, .int 0])), (q8, .inl (c8, 150, .inl (fun _ => 0)))] H := hP
  have hD : va_D A [(h0, .inr (6, [.null, .null, .int 0, .int 0, .int 0, .int 0])), (q8, .inl (c8, 150, .inl (fun _ => 0)))] := hD
  have hK : va_K (dC, dI) classes [(c8, .int)] s := hK
  refine va_putF (D := (dC, dI)) (ci := 6) (v := .ref q8) (ty := .array (.int)) (C := R_T) (T := F_T) (N := 6) hx hb htb in_T ft_T ft_T_ok n_T hown hK hP hD hS 0 rfl rfl 0 (by decide) (htb _ k_129) (fun _ h9 => h9) rfl hin rfl (by decide +kernel) rfl rfl (Nat.le_of_ble_eq_true rfl) d_T_init_10 (fun H locs hP hD hS => ?_)
  have hP : va_P (dC, dI) classes [(h0, .inr (6, [.ref q8, .null, .int 0, .int 0, .int 0, .int 0])), (q8, .inl (c8, 150, .inl (fun _ => 0)))] H := hP
  have hD : va_D A [(h0, .inr (6, [.ref q8, .null, .int 0, .int 0, .int 0, .int 0])), (q8, .inl (c8, 150, .inl (fun _ => 0)))] := hD
  refine lv_aload_n hx hb d_T_init_13 rfl (lv_at hl 0 rfl) ?_
  refine lv_sipush (v := 150) hx hb d_T_init_14 (by decide) ?_
  refine va_newa (atype := .int) (ty := .int) (a0 := (150, .inl (fun _ => 0))) (N' := 150) hx hb (htb _ k_48) rfl hK hP hD hS hA (fun _ => rfl) (by decide) rfl (by decide) (Nat.le_of_ble_eq_true rfl) (Nat.le_of_ble_eq_true rfl) d_T_init_17 (fun q17 c17 H hK hP hD hS => ?_)
  obtain rfl : c8 = c17 := ka_i hK 0 1 rfl rfl
  have hK := hK.sub (tys' := [(c8, .int)]) [0] rfl
  have hP : va_P (dC, dI) classes [(h0, .inr (6, [.ref q8, .null, .int 0, .int 0, .int 0, .int 0])), (q8, .inl (c8, 150, .inl (fun _ => 0))), (q17, .inl (c8, 150, .inl (fun _ => 0)))] H := hP
  have hD : va_D A [(h0, .inr (6, [.ref q8, .null, .int 0, .int 0, .int 0, .int 0])), (q8, .inl (c8, 150, .inl (fun _ => 0))), (q17, .inl (c8, 150, .inl (fun _ => 0)))] := hD
  have hK : va_K (dC, dI) classes [(c8, .int)] s := hK
  refine va_putF (D := (dC, dI)) (ci := 6) (v := .ref q17) (ty := .array (.int)) (C := R_T) (T := F_T) (N := 6) hx hb htb in_T ft_T ft_T_ok n_T hown hK hP hD hS 0 rfl rfl 1 (by decide) (htb _ k_130) (fun _ h9 => h9) rfl hin rfl (by decide +kernel) rfl rfl (Nat.le_of_ble_eq_true rfl) d_T_init_19 (fun H locs hP hD hS => ?_)
  have hP : va_P (dC, dI) classes [(h0, .inr (6, [.ref q8, .ref q17, .int 0, .int 0, .int 0, .int 0])), (q8, .inl (c8, 150, .inl (fun _ => 0))), (q17, .inl (c8, 150, .inl (fun _ => 0)))] H := hP
  have hD : va_D A [(h0, .inr (6, [.ref q8, .ref q17, .int 0, .int 0, .int 0, .int 0])), (q8, .inl (c8, 150, .inl (fun _ => 0))), (q17, .inl (c8, 150, .inl (fun _ => 0)))] := hD
  refine lv_aload_n hx hb d_T_init_22 rfl (lv_at hl 0 rfl) ?_
  refine lv_iconst (v := 0) hx hb d_T_init_23 (by decide) ?_
  refine va_put (D := (dC, dI)) (ci := 6) (v := .int 0) (ty := .int) (C := R_T) (T := F_T) (N := 6) hx hb htb in_T ft_T ft_T_ok n_T hown hK hP hD hS 0 rfl rfl 2 (by decide) (htb _ k_131) (fun _ h9 => h9) rfl (by decide +kernel) rfl rfl (Nat.le_of_ble_eq_true rfl) d_T_init_24 (fun H locs hP hD hS => ?_)
  have hP : va_P (dC, dI) classes [(h0, .inr (6, [.ref q8, .ref q17, .int 0, .int 0, .int 0, .int 0])), (q8, .inl (c8, 150, .inl (fun _ => 0))), (q17, .inl (c8, 150, .inl (fun _ => 0)))] H := hP
  have hD : va_D A [(h0, .inr (6, [.ref q8, .ref q17, .int 0, .int 0, .int 0, .int 0])), (q8, .inl (c8, 150, .inl (fun _ => 0))), (q17, .inl (c8, 150, .inl (fun _ => 0)))] := hD
  refine lv_aload_n hx hb d_T_init_27 rfl (lv_at hl 0 rfl) ?_
  refine lv_iconst (v := 0) hx hb d_T_init_28 (by decide) ?_
  refine va_put (D := (dC, dI)) (ci := 6) (v := .int 0) (ty := .int) (C := R_T) (T := F_T) (N := 6) hx hb htb in_T ft_T ft_T_ok n_T hown hK hP hD hS 0 rfl rfl 3 (by decide) (htb _ k_132) (fun _ h9 => h9) rfl (by decide +kernel) rfl rfl (Nat.le_of_ble_eq_true rfl) d_T_init_29 (fun H locs hP hD hS => ?_)
  have hP : va_P (dC, dI) classes [(h0, .inr (6, [.ref q8, .ref q17, .int 0, .int 0, .int 0, .int 0])), (q8, .inl (c8, 150, .inl (fun _ => 0))), (q17, .inl (c8, 150, .inl (fun _ => 0)))] H := hP
  have hD : va_D A [(h0, .inr (6, [.ref q8, .ref q17, .int 0, .int 0, .int 0, .int 0])), (q8, .inl (c8, 150, .inl (fun _ => 0))), (q17, .inl (c8, 150, .inl (fun _ => 0)))] := hD
  refine lv_aload_n hx hb d_T_init_32 rfl (lv_at hl 0 rfl) ?_
  refine lv_iconst (v := 0) hx hb d_T_init_33 (by decide) ?_
  refine va_put (D := (dC, dI)) (ci := 6) (v := .int 0) (ty := .int) (C := R_T) (T := F_T) (N := 6) hx hb htb in_T ft_T ft_T_ok n_T hown hK hP hD hS 0 rfl rfl 4 (by decide) (htb _ k_133) (fun _ h9 => h9) rfl (by decide +kernel) rfl rfl (Nat.le_of_ble_eq_true rfl) d_T_init_34 (fun H locs hP hD hS => ?_)
  have hP : va_P (dC, dI) classes [(h0, .inr (6, [.ref q8, .ref q17, .int 0, .int 0, .int 0, .int 0])), (q8, .inl (c8, 150, .inl (fun _ => 0))), (q17, .inl (c8, 150, .inl (fun _ => 0)))] H := hP
  have hD : va_D A [(h0, .inr (6, [.ref q8, .ref q17, .int 0, .int 0, .int 0, .int 0])), (q8, .inl (c8, 150, .inl (fun _ => 0))), (q17, .inl (c8, 150, .inl (fun _ => 0)))] := hD
  refine lv_aload_n hx hb d_T_init_37 rfl (lv_at hl 0 rfl) ?_
  refine lv_iconst (v := 0) hx hb d_T_init_38 (by decide) ?_
  refine va_put (D := (dC, dI)) (ci := 6) (v := .int 0) (ty := .int) (C := R_T) (T := F_T) (N := 6) hx hb htb in_T ft_T ft_T_ok n_T hown hK hP hD hS 0 rfl rfl 5 (by decide) (htb _ k_134) (fun _ h9 => h9) rfl (by decide +kernel) rfl rfl (Nat.le_of_ble_eq_true rfl) d_T_init_39 (fun H locs hP hD hS => ?_)
  have hP : va_P (dC, dI) classes [(h0, .inr (6, [.ref q8, .ref q17, .int 0, .int 0, .int 0, .int 0])), (q8, .inl (c8, 150, .inl (fun _ => 0))), (q17, .inl (c8, 150, .inl (fun _ => 0)))] H := hP
  have hD : va_D A [(h0, .inr (6, [.ref q8, .ref q17, .int 0, .int 0, .int 0, .int 0])), (q8, .inl (c8, 150, .inl (fun _ => 0))), (q17, .inl (c8, 150, .inl (fun _ => 0)))] := hD
  exact W.vret hx hb hr (fun t ht hW => ⟨⟨(), rfl, trivial, q8, q17, c8, by rw [ht]; exact hP, va_K.moved hW.alike hK, hD⟩, hS.F ht⟩) hS.2.2 d_T_init_42
