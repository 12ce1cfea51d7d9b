theorem d_D_addPart_0 : decode b_D_addPart 0 = .ok (.aload_n 0, 1) := by decide +kernel
theorem d_D_addPart_1 : decode b_D_addPart 1 = .ok (.invokevirtual 34, 3) := by decide +kernel
theorem d_D_addPart_4 : decode b_D_addPart 4 = .ok (.ifCond .ne 33, 3) := by decide +kernel
theorem d_D_addPart_7 : decode b_D_addPart 7 = .ok (.aload_n 0, 1) := by decide +kernel
theorem d_D_addPart_8 : decode b_D_addPart 8 = .ok (.getfield 16, 3) := by decide +kernel
theorem d_D_addPart_11 : decode b_D_addPart 11 = .ok (.aload_n 0, 1) := by decide +kernel
theorem d_D_addPart_12 : decode b_D_addPart 12 = .ok (.getfield 27, 3) := by decide +kernel
theorem d_D_addPart_15 : decode b_D_addPart 15 = .ok (.iload_n 1, 1) := by decide +kernel
theorem d_D_addPart_16 : decode b_D_addPart 16 = .ok (.iastore, 1) := by decide +kernel
theorem d_D_addPart_17 : decode b_D_addPart 17 = .ok (.aload_n 0, 1) := by decide +kernel
theorem d_D_addPart_18 : decode b_D_addPart 18 = .ok (.getfield 20, 3) := by decide +kernel
theorem d_D_addPart_21 : decode b_D_addPart 21 = .ok (.aload_n 0, 1) := by decide +kernel
theorem d_D_addPart_22 : decode b_D_addPart 22 = .ok (.getfield 27, 3) := by decide +kernel
theorem d_D_addPart_25 : decode b_D_addPart 25 = .ok (.iload_n 2, 1) := by decide +kernel
theorem d_D_addPart_26 : decode b_D_addPart 26 = .ok (.iastore, 1) := by decide +kernel
theorem d_D_addPart_27 : decode b_D_addPart 27 = .ok (.aload_n 0, 1) := by decide +kernel
theorem d_D_addPart_28 : decode b_D_addPart 28 = .ok (.dup, 1) := by decide +kernel
theorem d_D_addPart_29 : decode b_D_addPart 29 = .ok (.getfield 27, 3) := by decide +kernel
theorem d_D_addPart_32 : decode b_D_addPart 32 = .ok (.iconst 1, 1) := by decide +kernel
theorem d_D_addPart_33 : decode b_D_addPart 33 = .ok (.iadd, 1) := by decide +kernel
theorem d_D_addPart_34 : decode b_D_addPart 34 = .ok (.putfield 27, 3) := by decide +kernel
theorem d_D_addPart_37 : decode b_D_addPart 37 = .ok (.aload_n 0, 1) := by decide +kernel
theorem d_D_addPart_38 : decode b_D_addPart 38 = .ok (.getfield 27, 3) := by decide +kernel
theorem d_D_addPart_41 : decode b_D_addPart 41 = .ok (.ireturn, 1) := by decide +kernel
def m_D_addPart (N : Nat) (σ : SX) (a1 : Int32) (a2 : Int32) : Option (Int32 × SX) :=
  (bI (m_D_keyIsFull N σ) fun r1 σ1 => (if r1 = 0 then (if inb ((σ1 1).1 1) 3 = true then (if inb (((w3 σ1 1 3 ((σ1 1).1 1) a1) 1).1 1) 3 = true then some ((((w1 (w3 (w3 σ1 1 3 ((σ1 1).1 1) a1) 1 4 (((w3 σ1 1 3 ((σ1 1).1 1) a1) 1).1 1) a2) 1 1 ((((w3 (w3 σ1 1 3 ((σ1 1).1 1) a1) 1 4 (((w3 σ1 1 3 ((σ1 1).1 1) a1) 1).1 1) a2) 1).1 1) + 1)) 1).1 1), (w1 (w3 (w3 σ1 1 3 ((σ1 1).1 1) a1) 1 4 (((w3 σ1 1 3 ((σ1 1).1 1) a1) 1).1 1) a2) 1 1 ((((w3 (w3 σ1 1 3 ((σ1 1).1 1) a1) 1 4 (((w3 σ1 1 3 ((σ1 1).1 1) a1) 1).1 1) a2) 1).1 1) + 1))) else none) else none) else some (((σ1 1).1 1), σ1)))

set_option maxHeartbeats 4000000 in
set_option maxRecDepth 100000 in
theorem c_D_addPart (l : Launch) (dC : Nat → ClassId) (dI : Nat → Nat → Nat) (ad : Nat → Nat → Nat) (cs : Nat → ClassId) (sz N : Nat) (σ : SX) (a1 : Int32) (a2 : Int32) {r0 : Int32} {σ0 : SX} (hM : m_D_addPart N σ a1 a2 = some (r0, σ0)) : Met l y_D_addPart (wd y_D_addPart b_D_addPart 3 (some .int)) ({ frames := 1, cells := 0, slots := 0, locals := 20 }) (va_Pc [.ref (ad 1 0), .int a1, .int a2] (preX dC dI ad cs sz σ)) (va_Qi (fun (r : Int32) (u : SX) => r = r0 ∧ u = σ0) (atX dC dI ad cs (va_A (wX ad cs σ) sz)) (va_A (wX ad cs σ) sz)) 0 0 (va_A (wX ad cs σ) sz) := by
  refine Met.ofW (cc := b_D_addPart) (maxL := 3) (ret := (some .int)) (by decide) rfl ?_
  intro p e s m args below meth c s₁ B hml hv
  obtain ⟨rfl, hsz, hP, hK, hD0, hN⟩ := hv
  have hx := B.exec
  have hb := B.bytes
  have hr := B.returns
  have hts := atoms_spec (ws := (wd y_D_addPart b_D_addPart 3 (some .int))) B.pre
  have htb : ∀ w ∈ tb, w.before _ s = true := fun w h => hts w (List.mem_cons_of_mem _ h)
  have hown : s.vm.findClass R_D = some m.cls := findClass_of_methodNamed B.named
  have hlocks := B.notSynchronized
  subst hsz
  have hD := hD0.self (sz := s.heap.size)
  generalize hAe : va_A (wX ad cs σ) s.heap.size = A at hD ⊢
  have hA : ∀ q : Nat, s.heap.size ≤ q → A q := fun q h => by rw [← hAe]; exact Or.inr h
  have hS : va_S A s.heap s.heap [] := va_S.rf
  have hP : va_P (dC, dI) classes (wX ad cs σ) s.heap := hP
  have hl := lv_entry ([.ref (ad 1 0), .int a1, .int a2]) (n := 3) (Nat.le_of_ble_eq_true rfl)
  rw [lg_entry_eq]
  generalize (lg_sl ([.ref (ad 1 0), .int a1, .int a2]) ++ List.replicate (3 - (lg_sl ([.ref (ad 1 0), .int a1, .int a2])).length) Slot.unset).toArray = ls at hl ⊢
  have hl : lv_has ls 3 [(0, .ref (ad 1 0)), (1, .int a1), (2, .int a2)] := hl
  rw [m_D_addPart] at hM
  refine lv_aload_n hx hb d_D_addPart_0 rfl (lv_at hl 0 rfl) ?_
  have hF1 := free_all hD hS hA
  obtain ⟨x1, y1, hq1, hM⟩ := bI_some hM
  refine va_calli (va_runV (As := []) (rest := []) ⟨hx, hb, hml, hown, hts⟩ (c_D_keyIsFull l dC dI ad cs H.size N σ hq1) (cwV 0 hts (goodV k_452 k_445 k_446 k_2 k_447) rfl rfl rfl ⟨rfl, by decide, by decide, by decide +kernel⟩ ⟨Nat.le_of_ble_eq_true rfl, Nat.le_of_ble_eq_true rfl⟩) ⟨blindX, va_recv hK hP rfl (g_D), payX hP hK hD hN⟩ rfl rfl hl.1 rfl (lv_room (Nat.le_of_ble_eq_true rfl)) d_D_addPart_1 ⟨Nat.zero_le _, Nat.zero_le _⟩) hS (fun q _ h => hF1 q h) hF1 (fun r1 σ1 t H locs ht hvm hpost hB hz1 hk1 hS => ?_)
  obtain ⟨e1, e2⟩ := hpost
  subst e1
  subst e2
  obtain ⟨hP1, hK1, hD1⟩ := hB
  rw [ht] at hP1
  have hP := hP1
  have hD := hD1.weaken (fun _ _ _ h => hF1 _ h)
  refine lv_if_ne (tgt := 37) hx hb d_D_addPart_4 (by decide) (fun h4 => ?_) (fun h4 => ?_)
  · rw [if_neg h4] at hM
    refine lv_aload_n hx hb d_D_addPart_37 rfl (lv_at hl 0 rfl) ?_
    refine va_get (D := (dC, dI)) (ci := 1) (v := .int ((σ1 1).1 1)) (C := R_D) (T := F_D) (N := 5) hx hb htb in_D hown hK hP 1 (g_D) rfl 4 (by decide) (htb _ k_36) (fun _ h9 => h9) rfl d_D_addPart_38 ?_
    have e9 := Prod.mk.inj (Option.some.inj hM)
    exact W.iret (v := ((σ1 1).1 1)) hx hb hr (fun t ht hW => ⟨⟨((σ1 1).1 1), σ1, rfl, e9, by rw [ht]; exact hP, va_K.moved hW.alike hK, hD⟩, hS.F ht⟩) hS.2.2 d_D_addPart_41
  · rw [if_pos h4] at hM
    refine lv_aload_n hx hb d_D_addPart_7 rfl (lv_at hl 0 rfl) ?_
    refine va_get (D := (dC, dI)) (ci := 1) (v := .ref (ad 1 3)) (C := R_D) (T := F_D) (N := 5) hx hb htb in_D hown hK hP 1 (g_D) rfl 1 (by decide) (htb _ k_33) (fun _ h9 => h9) rfl d_D_addPart_8 ?_
    refine lv_aload_n hx hb d_D_addPart_11 rfl (lv_at hl 0 rfl) ?_
    refine va_get (D := (dC, dI)) (ci := 1) (v := .int ((σ1 1).1 1)) (C := R_D) (T := F_D) (N := 5) hx hb htb in_D hown hK hP 1 (g_D) rfl 4 (by decide) (htb _ k_36) (fun _ h9 => h9) rfl d_D_addPart_12 ?_
    refine lv_iload_n hx hb d_D_addPart_15 rfl (lv_at hl 1 rfl) ?_
    have hg16 := gd_c hM
    have hM := gd_v hM
    refine va_iast (i := ((σ1 1).1 1)) (x := a1) hx hb hK hP hD hS 5 0 (g_D_a3) rfl (inb_in hg16) d_D_addPart_16 (fun H locs hP hD hS => ?_)
    have hP := P_eq (t_D_3) hP
    have hD := D_eq (t_D_3) hD
    refine lv_aload_n hx hb d_D_addPart_17 rfl (lv_at hl 0 rfl) ?_
    refine va_get (D := (dC, dI)) (ci := 1) (v := .ref (ad 1 4)) (C := R_D) (T := F_D) (N := 5) hx hb htb in_D hown hK hP 1 (g_D) rfl 2 (by decide) (htb _ k_34) (fun _ h9 => h9) rfl d_D_addPart_18 ?_
    refine lv_aload_n hx hb d_D_addPart_21 rfl (lv_at hl 0 rfl) ?_
    refine va_get (D := (dC, dI)) (ci := 1) (v := .int (((w3 σ1 1 3 ((σ1 1).1 1) a1) 1).1 1)) (C := R_D) (T := F_D) (N := 5) hx hb htb in_D hown hK hP 1 (g_D) rfl 4 (by decide) (htb _ k_36) (fun _ h9 => h9) rfl d_D_addPart_22 ?_
    refine lv_iload_n hx hb d_D_addPart_25 rfl (lv_at hl 2 rfl) ?_
    have hg26 := gd_c hM
    have hM := gd_v hM
    refine va_iast (i := (((w3 σ1 1 3 ((σ1 1).1 1) a1) 1).1 1)) (x := a2) hx hb hK hP hD hS 6 0 (g_D_a4) rfl (inb_in hg26) d_D_addPart_26 (fun H locs hP hD hS => ?_)
    have hP := P_eq (t_D_4) hP
    have hD := D_eq (t_D_4) hD
    refine lv_aload_n hx hb d_D_addPart_27 rfl (lv_at hl 0 rfl) ?_
    refine lv_dup hx hb d_D_addPart_28 rfl ?_
    refine va_get (D := (dC, dI)) (ci := 1) (v := .int (((w3 (w3 σ1 1 3 ((σ1 1).1 1) a1) 1 4 (((w3 σ1 1 3 ((σ1 1).1 1) a1) 1).1 1) a2) 1).1 1)) (C := R_D) (T := F_D) (N := 5) hx hb htb in_D hown hK hP 1 (g_D) rfl 4 (by decide) (htb _ k_36) (fun _ h9 => h9) rfl d_D_addPart_29 ?_
    refine lv_iconst (v := 1) hx hb d_D_addPart_32 (by decide) ?_
    refine lv_iadd hx hb d_D_addPart_33 ?_
    refine va_put (D := (dC, dI)) (ci := 1) (v := .int ((((w3 (w3 σ1 1 3 ((σ1 1).1 1) a1) 1 4 (((w3 σ1 1 3 ((σ1 1).1 1) a1) 1).1 1) a2) 1).1 1) + 1)) (ty := .int) (C := R_D) (T := F_D) (N := 5) hx hb htb in_D ft_D ft_D_ok n_D hown hK hP hD hS 1 (g_D) rfl 4 (by decide) (htb _ k_36) (fun _ h9 => h9) rfl (by decide +kernel) rfl rfl (Nat.le_of_ble_eq_true rfl) d_D_addPart_34 (fun H locs hP hD hS => ?_)
    have hP := P_eq (s_D_1) hP
    have hD := D_eq (s_D_1) hD
    refine lv_aload_n hx hb d_D_addPart_37 rfl (lv_at hl 0 rfl) ?_
    refine va_get (D := (dC, dI)) (ci := 1) (v := .int (((w1 (w3 (w3 σ1 1 3 ((σ1 1).1 1) a1) 1 4 (((w3 σ1 1 3 ((σ1 1).1 1) a1) 1).1 1) a2) 1 1 ((((w3 (w3 σ1 1 3 ((σ1 1).1 1) a1) 1 4 (((w3 σ1 1 3 ((σ1 1).1 1) a1) 1).1 1) a2) 1).1 1) + 1)) 1).1 1)) (C := R_D) (T := F_D) (N := 5) hx hb htb in_D hown hK hP 1 (g_D) rfl 4 (by decide) (htb _ k_36) (fun _ h9 => h9) rfl d_D_addPart_38 ?_
    have e9 := Prod.mk.inj (Option.some.inj hM)
    exact W.iret (v := (((w1 (w3 (w3 σ1 1 3 ((σ1 1).1 1) a1) 1 4 (((w3 σ1 1 3 ((σ1 1).1 1) a1) 1).1 1) a2) 1 1 ((((w3 (w3 σ1 1 3 ((σ1 1).1 1) a1) 1 4 (((w3 σ1 1 3 ((σ1 1).1 1) a1) 1).1 1) a2) 1).1 1) + 1)) 1).1 1)) hx hb hr (fun t ht hW => ⟨⟨(((w1 (w3 (w3 σ1 1 3 ((σ1 1).1 1) a1) 1 4 (((w3 σ1 1 3 ((σ1 1).1 1) a1) 1).1 1) a2) 1 1 ((((w3 (w3 σ1 1 3 ((σ1 1).1 1) a1) 1 4 (((w3 σ1 1 3 ((σ1 1).1 1) a1) 1).1 1) a2) 1).1 1) + 1)) 1).1 1), (w1 (w3 (w3 σ1 1 3 ((σ1 1).1 1) a1) 1 4 (((w3 σ1 1 3 ((σ1 1).1 1) a1) 1).1 1) a2) 1 1 ((((w3 (w3 σ1 1 3 ((σ1 1).1 1) a1) 1 4 (((w3 σ1 1 3 ((σ1 1).1 1) a1) 1).1 1) a2) 1).1 1) + 1)), rfl, e9, by rw [ht]; exact hP, va_K.moved hW.alike hK, hD⟩, hS.F ht⟩) hS.2.2 d_D_addPart_41

theorem d_P_begin_0 : decode b_P_begin 0 = .ok (.iconst 0, 1) := by decide +kernel
theorem d_P_begin_1 : decode b_P_begin 1 = .ok (.istore_n 2, 1) := by decide +kernel
theorem d_P_begin_2 : decode b_P_begin 2 = .ok (.iload_n 2, 1) := by decide +kernel
theorem d_P_begin_3 : decode b_P_begin 3 = .ok (.iconst 3, 1) := by decide +kernel
theorem d_P_begin_4 : decode b_P_begin 4 = .ok (.if_icmp .ge 23, 3) := by decide +kernel
theorem d_P_begin_7 : decode b_P_begin 7 = .ok (.aload_n 0, 1) := by decide +kernel
theorem d_P_begin_8 : decode b_P_begin 8 = .ok (.getfield 9, 3) := by decide +kernel
theorem d_P_begin_11 : decode b_P_begin 11 = .ok (.iload_n 2, 1) := by decide +kernel
theorem d_P_begin_12 : decode b_P_begin 12 = .ok (.iconst 1, 1) := by decide +kernel
theorem d_P_begin_13 : decode b_P_begin 13 = .ok (.iastore, 1) := by decide +kernel
theorem d_P_begin_14 : decode b_P_begin 14 = .ok (.aload_n 1, 1) := by decide +kernel
theorem d_P_begin_15 : decode b_P_begin 15 = .ok (.iload_n 2, 1) := by decide +kernel
theorem d_P_begin_16 : decode b_P_begin 16 = .ok (.aaload, 1) := by decide +kernel
theorem d_P_begin_17 : decode b_P_begin 17 = .ok (.iconst 1, 1) := by decide +kernel
theorem d_P_begin_18 : decode b_P_begin 18 = .ok (.invokevirtual 22, 3) := by decide +kernel
theorem d_P_begin_21 : decode b_P_begin 21 = .ok (.iinc 2 1, 3) := by decide +kernel
theorem d_P_begin_24 : decode b_P_begin 24 = .ok (.goto (-22), 3) := by decide +kernel
theorem d_P_begin_27 : decode b_P_begin 27 = .ok (.aload_n 0, 1) := by decide +kernel
theorem d_P_begin_28 : decode b_P_begin 28 = .ok (.iconst 1, 1) := by decide +kernel
theorem d_P_begin_29 : decode b_P_begin 29 = .ok (.putfield 15, 3) := by decide +kernel
theorem d_P_begin_32 : decode b_P_begin 32 = .ok (.aload_n 0, 1) := by decide +kernel
theorem d_P_begin_33 : decode b_P_begin 33 = .ok (.iconst 0, 1) := by decide +kernel
theorem d_P_begin_34 : decode b_P_begin 34 = .ok (.putfield 19, 3) := by decide +kernel
theorem d_P_begin_37 : decode b_P_begin 37 = .ok (.return_, 1) := by decide +kernel
def m_P_begin_2 (N : Nat) : Nat → SX → Int32 → Option (SX)
  | 0, _, _ => none
  | n2 + 1, σ, v2 =>
    (if 3 ≤ v2 then some (w1 (w1 σ 4 0 1) 4 1 0) else (if inb v2 3 = true then (if inb v2 4 = true then (bV (m_T_addDummies N (w3 σ 4 1 v2 1) v2.toNatClampNeg 1) fun σ18 => m_P_begin_2 N n2 σ18 (v2 + 1)) else none) else none))

def m_P_begin (N : Nat) (σ : SX) : Option (SX) :=
  m_P_begin_2 N N σ 0

set_option maxHeartbeats 4000000 in
set_option maxRecDepth 100000 in
theorem c_P_begin (l : Launch) (dC : Nat → ClassId) (dI : Nat → Nat → Nat) (ad : Nat → Nat → Nat) (cs : Nat → ClassId) (sz N : Nat) (σ : SX) {σ0 : SX} (hM : m_P_begin N σ = some σ0) : Met l y_P_begin (wd y_P_begin b_P_begin 3 none) ({ frames := 1, cells := 0, slots := 0, locals := 21 }) (va_Pc [.ref (ad 4 0), .ref (ad 0 9)] (preX dC dI ad cs sz σ)) (va_Qv (fun (u : SX) => u = σ0) (atX dC dI ad cs (va_A (wX ad cs σ) sz)) (va_A (wX ad cs σ) sz)) 0 0 (va_A (wX ad cs σ) sz) := by
  refine Met.ofW (cc := b_P_begin) (maxL := 3) (ret := none) (by decide) rfl ?_
  intro p e s m args below meth c s₁ B hml hv
  obtain ⟨rfl, hsz, hP, hK, hD0, hN⟩ := hv
  have hx := B.exec
  have hb := B.bytes
  have hr := B.returns
  have hts := atoms_spec (ws := (wd y_P_begin b_P_begin 3 none)) B.pre
  have htb : ∀ w ∈ tb, w.before _ s = true := fun w h => hts w (List.mem_cons_of_mem _ h)
  have hown : s.vm.findClass R_P = some m.cls := findClass_of_methodNamed B.named
  have hlocks := B.notSynchronized
  subst hsz
  have hD := hD0.self (sz := s.heap.size)
  generalize hAe : va_A (wX ad cs σ) s.heap.size = A at hD ⊢
  have hA : ∀ q : Nat, s.heap.size ≤ q → A q := fun q h => by rw [← hAe]; exact Or.inr h
  have hS : va_S A s.heap s.heap [] := va_S.rf
  have hP : va_P (dC, dI) classes (wX ad cs σ) s.heap := hP
  have hl := lv_entry ([.ref (ad 4 0), .ref (ad 0 9)]) (n := 3) (Nat.le_of_ble_eq_true rfl)
  rw [lg_entry_eq]
  generalize (lg_sl ([.ref (ad 4 0), .ref (ad 0 9)]) ++ List.replicate (3 - (lg_sl ([.ref (ad 4 0), .ref (ad 0 9)])).length) Slot.unset).toArray = ls at hl ⊢
  have hl : lv_has ls 3 [(0, .ref (ad 4 0)), (1, .ref (ad 0 9))] := hl
  rw [m_P_begin] at hM
  refine W_loop (pc := 2) (fun n2 H locs ls st => ∃ (σ : SX) (v2 : Int32), st = [] ∧ m_P_begin_2 N n2 σ v2 = some σ0 ∧ lv_has ls 3 [(0, .ref (ad 4 0)), (1, .ref (ad 0 9)), (2, .int v2)] ∧ va_P (dC, dI) classes (wX ad cs σ) H ∧ va_D A (wX ad cs σ) ∧ va_S A s.heap H locs) ?_ ?_ ?_
  · rintro H locs ls st ⟨σ, v2, -, hM, -⟩
    rw [m_P_begin_2] at hM; cases hM
  · intro n2 K2 H locs ls st hI
    obtain ⟨σ, v2, rfl, hM, hl, hP, hD, hS⟩ := hI
    rw [m_P_begin_2] at hM
    refine lv_iload_n hx hb d_P_begin_2 rfl (lv_at hl 2 rfl) ?_
    refine lv_iconst (v := 3) hx hb d_P_begin_3 (by decide) ?_
    refine lv_icmp_ge (tgt := 27) hx hb d_P_begin_4 (by decide) (fun h4 => ?_) (fun h4 => ?_)
    · rw [if_pos h4] at hM
      refine lv_aload_n hx hb d_P_begin_27 rfl (lv_at hl 0 rfl) ?_
      refine lv_iconst (v := 1) hx hb d_P_begin_28 (by decide) ?_
      refine va_put (D := (dC, dI)) (ci := 3) (v := .int 1) (ty := .int) (C := R_P) (T := F_P) (N := 3) hx hb htb in_P ft_P ft_P_ok n_P hown hK hP hD hS 13 (g_P) rfl 1 (by decide) (htb _ k_56) (fun _ h9 => h9) rfl (by decide +kernel) rfl rfl (Nat.le_of_ble_eq_true rfl) d_P_begin_29 (fun H locs hP hD hS => ?_)
      have hP := P_eq (s_P_0) hP
      have hD := D_eq (s_P_0) hD
      refine lv_aload_n hx hb d_P_begin_32 rfl (lv_at hl 0 rfl) ?_
      refine lv_iconst (v := 0) hx hb d_P_begin_33 (by decide) ?_
      refine va_put (D := (dC, dI)) (ci := 3) (v := .int 0) (ty := .int) (C := R_P) (T := F_P) (N := 3) hx hb htb in_P ft_P ft_P_ok n_P hown hK hP hD hS 13 (g_P) rfl 2 (by decide) (htb _ k_57) (fun _ h9 => h9) rfl (by decide +kernel) rfl rfl (Nat.le_of_ble_eq_true rfl) d_P_begin_34 (fun H locs hP hD hS => ?_)
      have hP := P_eq (s_P_1) hP
      have hD := D_eq (s_P_1) hD
      have e9 := Option.some.inj hM
      exact W.vret hx hb hr (fun t ht hW => ⟨⟨(w1 (w1 σ 4 0 1) 4 1 0), rfl, e9, by rw [ht]; exact hP, va_K.moved hW.alike hK, hD⟩, hS.F ht⟩) hS.2.2 d_P_begin_37
    · rw [if_neg h4] at hM
      refine lv_aload_n hx hb d_P_begin_7 rfl (lv_at hl 0 rfl) ?_
      refine va_get (D := (dC, dI)) (ci := 3) (v := .ref (ad 4 1)) (C := R_P) (T := F_P) (N := 3) hx hb htb in_P hown hK hP 13 (g_P) rfl 0 (by decide) (htb _ k_55) (fun _ h9 => h9) rfl d_P_begin_8 ?_
      refine lv_iload_n hx hb d_P_begin_11 rfl (lv_at hl 2 rfl) ?_
      refine lv_iconst (v := 1) hx hb d_P_begin_12 (by decide) ?_
      have hg13 := gd_c hM
      have hM := gd_v hM
      refine va_iast (i := v2) (x := 1) hx hb hK hP hD hS 14 0 (g_P_a1) rfl (inb_in hg13) d_P_begin_13 (fun H locs hP hD hS => ?_)
      have hP := P_eq (t_P_1) hP
      have hD := D_eq (t_P_1) hD
      refine lv_aload_n hx hb d_P_begin_14 rfl (lv_at hl 1 rfl) ?_
      refine lv_iload_n hx hb d_P_begin_15 rfl (lv_at hl 2 rfl) ?_
      have hg16 := gd_c hM
      have hM := gd_v hM
      refine va_aldq hx hb hK hP 18 2 (f := fun i => some (ad (7 + i) 0)) g_tapes rfl (inb_in hg16) d_P_begin_16 ?_
      refine W.eq (g2 := F0 m 17 ls [.ref (ad (7 + v2.toNatClampNeg) 0)]) rfl ?_
      refine lv_iconst (v := 1) hx hb d_P_begin_17 (by decide) ?_
      have hF1 := free_all hD hS hA
      obtain ⟨y18, hq18, hM⟩ := bV_some hM
      refine va_callv (va_runV (As := [.int 1]) (rest := []) ⟨hx, hb, hml, hown, hts⟩ (c_T_addDummies l dC dI ad cs H.size N (w3 σ 4 1 v2 1) v2.toNatClampNeg (inb_lt hg16) 1 hq18) (cwV 1 hts (goodV k_464 k_465 k_466 k_7 k_467) rfl rfl rfl ⟨rfl, by decide, by decide, by decide +kernel⟩ ⟨Nat.le_of_ble_eq_true rfl, Nat.le_of_ble_eq_true rfl⟩) ⟨blindX, va_recv hK hP rfl (g_T (inb_lt hg16)), payX hP hK hD hN⟩ rfl rfl hl.1 rfl (lv_room (Nat.le_of_ble_eq_true rfl)) d_P_begin_18 ⟨Nat.zero_le _, Nat.zero_le _⟩) hS (fun q _ h => hF1 q h) hF1 (fun σ18 t H locs ht hvm hpost hB hz1 hk1 hS => ?_)
      subst hpost
      obtain ⟨hP1, hK1, hD1⟩ := hB
      rw [ht] at hP1
      have hP := hP1
      have hD := hD1.weaken (fun _ _ _ h => hF1 _ h)
      refine lv_iinc (k := 2) (v := (v2 + 1)) hx hb d_P_begin_21 hl rfl rfl (by decide) (lv' := [(2, .int (v2 + 1)), (0, .ref (ad 4 0)), (1, .ref (ad 0 9))]) rfl (fun ls hl => ?_)
      refine lv_goto (tgt := 2) hx hb d_P_begin_24 (by decide) ?_
      exact K2 _ _ _ _ ⟨σ18, (v2 + 1), rfl, hM, lv_sub hl [1, 2, 0] rfl, hP, hD, hS⟩
  intro K2
  refine lv_iconst (v := 0) hx hb d_P_begin_0 (by decide) ?_
  refine lv_istore_n hx hb d_P_begin_1 rfl hl (by decide) (lv' := [(2, .int 0), (0, .ref (ad 4 0)), (1, .ref (ad 0 9))]) rfl (fun ls hl => ?_)
  exact K2 N _ _ _ _ ⟨σ, 0, rfl, hM, lv_sub hl [1, 2, 0] rfl, hP, hD, hS⟩

theorem d_S_fillFrom_0 : decode b_S_fillFrom 0 = .ok (.aload_n 0, 1) := by decide +kernel
theorem d_S_fillFrom_1 : decode b_S_fillFrom 1 = .ok (.aload_n 0, 1) := by decide +kernel
theorem d_S_fillFrom_2 : decode b_S_fillFrom 2 = .ok (.getfield 26, 3) := by decide +kernel
theorem d_S_fillFrom_5 : decode b_S_fillFrom 5 = .ok (.aload_n 1, 1) := by decide +kernel
theorem d_S_fillFrom_6 : decode b_S_fillFrom 6 = .ok (.invokevirtual 29, 3) := by decide +kernel
theorem d_S_fillFrom_9 : decode b_S_fillFrom 9 = .ok (.invokestatic 35, 3) := by decide +kernel
theorem d_S_fillFrom_12 : decode b_S_fillFrom 12 = .ok (.putfield 19, 3) := by decide +kernel
theorem d_S_fillFrom_15 : decode b_S_fillFrom 15 = .ok (.aload_n 0, 1) := by decide +kernel
theorem d_S_fillFrom_16 : decode b_S_fillFrom 16 = .ok (.aload_n 0, 1) := by decide +kernel
theorem d_S_fillFrom_17 : decode b_S_fillFrom 17 = .ok (.getfield 19, 3) := by decide +kernel
theorem d_S_fillFrom_20 : decode b_S_fillFrom 20 = .ok (.putfield 23, 3) := by decide +kernel
theorem d_S_fillFrom_23 : decode b_S_fillFrom 23 = .ok (.iconst 0, 1) := by decide +kernel
theorem d_S_fillFrom_24 : decode b_S_fillFrom 24 = .ok (.istore_n 2, 1) := by decide +kernel
theorem d_S_fillFrom_25 : decode b_S_fillFrom 25 = .ok (.iload_n 2, 1) := by decide +kernel
theorem d_S_fillFrom_26 : decode b_S_fillFrom 26 = .ok (.aload_n 0, 1) := by decide +kernel
theorem d_S_fillFrom_27 : decode b_S_fillFrom 27 = .ok (.getfield 19, 3) := by decide +kernel
theorem d_S_fillFrom_30 : decode b_S_fillFrom 30 = .ok (.if_icmp .ge 23, 3) := by decide +kernel
theorem d_S_fillFrom_33 : decode b_S_fillFrom 33 = .ok (.aload_n 0, 1) := by decide +kernel
theorem d_S_fillFrom_34 : decode b_S_fillFrom 34 = .ok (.getfield 9, 3) := by decide +kernel
theorem d_S_fillFrom_37 : decode b_S_fillFrom 37 = .ok (.iload_n 2, 1) := by decide +kernel
theorem d_S_fillFrom_38 : decode b_S_fillFrom 38 = .ok (.iload_n 2, 1) := by decide +kernel
theorem d_S_fillFrom_39 : decode b_S_fillFrom 39 = .ok (.iastore, 1) := by decide +kernel
theorem d_S_fillFrom_40 : decode b_S_fillFrom 40 = .ok (.aload_n 0, 1) := by decide +kernel
theorem d_S_fillFrom_41 : decode b_S_fillFrom 41 = .ok (.getfield 15, 3) := by decide +kernel
theorem d_S_fillFrom_44 : decode b_S_fillFrom 44 = .ok (.iload_n 2, 1) := by decide +kernel
theorem d_S_fillFrom_45 : decode b_S_fillFrom 45 = .ok (.iconst 0, 1) := by decide +kernel
theorem d_S_fillFrom_46 : decode b_S_fillFrom 46 = .ok (.bastore, 1) := by decide +kernel
theorem d_S_fillFrom_47 : decode b_S_fillFrom 47 = .ok (.iinc 2 1, 3) := by decide +kernel
theorem d_S_fillFrom_50 : decode b_S_fillFrom 50 = .ok (.goto (-25), 3) := by decide +kernel
theorem d_S_fillFrom_53 : decode b_S_fillFrom 53 = .ok (.return_, 1) := by decide +kernel
def m_S_fillFrom_25 (N : Nat) (j : Nat) : Nat → SX → Int32 → Option (SX)
  | 0, _, _ => none
  | n25 + 1, σ, v2 =>
    (if ((σ j).1 1) ≤ v2 then some σ else (if inb v2 8 = true then (if inb v2 8 = true then m_S_fillFrom_25 N j n25 (w3 (w3 σ j 1 v2 v2) j 2 v2 (vp_nar .boolean 0)) (v2 + 1) else none) else none))

def m_S_fillFrom (N : Nat) (σ : SX) (j : Nat) : Option (SX) :=
  (bI (m_D_cardCount N σ) fun r6 σ6 => m_S_fillFrom_25 N j N (w1 (w1 σ6 j 1 (if r6 < ((σ j).1 0) then r6 else ((σ j).1 0))) j 2 (((w1 σ6 j 1 (if r6 < ((σ j).1 0) then r6 else ((σ j).1 0))) j).1 1)) 0)

set_option maxHeartbeats 4000000 in
set_option maxRecDepth 100000 in
theorem c_S_fillFrom (l : Launch) (dC : Nat → ClassId) (dI : Nat → Nat → Nat) (ad : Nat → Nat → Nat) (cs : Nat → ClassId) (sz N : Nat) (σ : SX) (j : Nat) (hj : j = 2 ∨ j = 3) {σ0 : SX} (hM : m_S_fillFrom N σ j = some σ0) : Met l y_S_fillFrom (wd y_S_fillFrom b_S_fillFrom 3 none) ({ frames := 1, cells := 0, slots := 0, locals := 21 }) (va_Pc [.ref (ad j 0), .ref (ad 1 0)] (preX dC dI ad cs sz σ)) (va_Qv (fun (u : SX) => u = σ0) (atX dC dI ad cs (va_A (wX ad cs σ) sz)) (va_A (wX ad cs σ) sz)) 0 0 (va_A (wX ad cs σ) sz) := by
  refine Met.ofW (cc := b_S_fillFrom) (maxL := 3) (ret := none) (by decide) rfl ?_
  intro p e s m args below meth c s₁ B hml hv
  obtain ⟨rfl, hsz, hP, hK, hD0, hN⟩ := hv
  have hx := B.exec
  have hb := B.bytes
  have hr := B.returns
  have hts := atoms_spec (ws := (wd y_S_fillFrom b_S_fillFrom 3 none)) B.pre
  have htb : ∀ w ∈ tb, w.before _ s = true := fun w h => hts w (List.mem_cons_of_mem _ h)
  have hown : s.vm.findClass R_S = some m.cls := findClass_of_methodNamed B.named
  have hlocks := B.notSynchronized
  subst hsz
  have hD := hD0.self (sz := s.heap.size)
  generalize hAe : va_A (wX ad cs σ) s.heap.size = A at hD ⊢
  have hA : ∀ q : Nat, s.heap.size ≤ q → A q := fun q h => by rw [← hAe]; exact Or.inr h
  have hS : va_S A s.heap s.heap [] := va_S.rf
  have hP : va_P (dC, dI) classes (wX ad cs σ) s.heap := hP
  have hl := lv_entry ([.ref (ad j 0), .ref (ad 1 0)]) (n := 3) (Nat.le_of_ble_eq_true rfl)
  rw [lg_entry_eq]
  generalize (lg_sl ([.ref (ad j 0), .ref (ad 1 0)]) ++ List.replicate (3 - (lg_sl ([.ref (ad j 0), .ref (ad 1 0)])).length) Slot.unset).toArray = ls at hl ⊢
  have hl : lv_has ls 3 [(0, .ref (ad j 0)), (1, .ref (ad 1 0))] := hl
  rw [m_S_fillFrom] at hM
  refine W_loop (pc := 25) (fun n25 H locs ls st => ∃ (σ : SX) (v2 : Int32), st = [] ∧ m_S_fillFrom_25 N j n25 σ v2 = some σ0 ∧ lv_has ls 3 [(0, .ref (ad j 0)), (2, .int v2)] ∧ va_P (dC, dI) classes (wX ad cs σ) H ∧ va_D A (wX ad cs σ) ∧ va_S A s.heap H locs) ?_ ?_ ?_
  · rintro H locs ls st ⟨σ, v2, -, hM, -⟩
    rw [m_S_fillFrom_25] at hM; cases hM
  · intro n25 K25 H locs ls st hI
    obtain ⟨σ, v2, rfl, hM, hl, hP, hD, hS⟩ := hI
    rw [m_S_fillFrom_25] at hM
    refine lv_iload_n hx hb d_S_fillFrom_25 rfl (lv_at hl 1 rfl) ?_
    refine lv_aload_n hx hb d_S_fillFrom_26 rfl (lv_at hl 0 rfl) ?_
    refine va_get (D := (dC, dI)) (ci := 2) (v := .int ((σ j).1 1)) (C := R_S) (T := F_S) (N := 5) hx hb htb in_S hown hK hP (3 * j + 1) (g_S hj) rfl 3 (by decide) (htb _ k_110) (fun _ h9 => h9) rfl d_S_fillFrom_27 ?_
    refine lv_icmp_ge (tgt := 53) hx hb d_S_fillFrom_30 (by decide) (fun h30 => ?_) (fun h30 => ?_)
    · rw [if_pos h30] at hM
      have e9 := Option.some.inj hM
      exact W.vret hx hb hr (fun t ht hW => ⟨⟨σ, rfl, e9, by rw [ht]; exact hP, va_K.moved hW.alike hK, hD⟩, hS.F ht⟩) hS.2.2 d_S_fillFrom_53
    · rw [if_neg h30] at hM
      refine lv_aload_n hx hb d_S_fillFrom_33 rfl (lv_at hl 0 rfl) ?_
      refine va_get (D := (dC, dI)) (ci := 2) (v := .ref (ad j 1)) (C := R_S) (T := F_S) (N := 5) hx hb htb in_S hown hK hP (3 * j + 1) (g_S hj) rfl 1 (by decide) (htb _ k_108) (fun _ h9 => h9) rfl d_S_fillFrom_34 ?_
      refine lv_iload_n hx hb d_S_fillFrom_37 rfl (lv_at hl 1 rfl) ?_
      refine lv_iload_n hx hb d_S_fillFrom_38 rfl (lv_at hl 1 rfl) ?_
      have hg39 := gd_c hM
      have hM := gd_v hM
      refine va_iast (i := v2) (x := v2) hx hb hK hP hD hS (3 * j + 2) 0 (g_S_a1 hj) rfl (inb_in hg39) d_S_fillFrom_39 (fun H locs hP hD hS => ?_)
      have hP := P_eq (t_S_1 hj) hP
      have hD := D_eq (t_S_1 hj) hD
      refine lv_aload_n hx hb d_S_fillFrom_40 rfl (lv_at hl 0 rfl) ?_
      refine va_get (D := (dC, dI)) (ci := 2) (v := .ref (ad j 2)) (C := R_S) (T := F_S) (N := 5) hx hb htb in_S hown hK hP (3 * j + 1) (g_S hj) rfl 2 (by decide) (htb _ k_109) (fun _ h9 => h9) rfl d_S_fillFrom_41 ?_
      refine lv_iload_n hx hb d_S_fillFrom_44 rfl (lv_at hl 1 rfl) ?_
      refine lv_iconst (v := 0) hx hb d_S_fillFrom_45 (by decide) ?_
      have hg46 := gd_c hM
      have hM := gd_v hM
      refine va_zast (i := v2) (x := 0) hx hb hK hP hD hS (3 * j + 3) 1 (g_S_a2 hj) rfl (inb_in hg46) d_S_fillFrom_46 (fun H locs hP hD hS => ?_)
      have hP := P_eq (t_S_2 hj) hP
      have hD := D_eq (t_S_2 hj) hD
      refine lv_iinc (k := 1) (v := (v2 + 1)) hx hb d_S_fillFrom_47 hl rfl rfl (by decide) (lv' := [(2, .int (v2 + 1)), (0, .ref (ad j 0))]) rfl (fun ls hl => ?_)
      refine lv_goto (tgt := 25) hx hb d_S_fillFrom_50 (by decide) ?_
      exact K25 _ _ _ _ ⟨(w3 (w3 σ j 1 v2 v2) j 2 v2 (vp_nar .boolean 0)), (v2 + 1), rfl, hM, lv_sub hl [1, 0] rfl, hP, hD, hS⟩
  intro K25
  refine lv_aload_n hx hb d_S_fillFrom_0 rfl (lv_at hl 0 rfl) ?_
  refine lv_aload_n hx hb d_S_fillFrom_1 rfl (lv_at hl 0 rfl) ?_
  refine va_get (D := (dC, dI)) (ci := 2) (v := .int ((σ j).1 0)) (C := R_S) (T := F_S) (N := 5) hx hb htb in_S hown hK hP (3 * j + 1) (g_S hj) rfl 0 (by decide) (htb _ k_107) (fun _ h9 => h9) rfl d_S_fillFrom_2 ?_
  refine lv_aload_n hx hb d_S_fillFrom_5 rfl (lv_at hl 1 rfl) ?_
  have hF1 := free_all hD hS hA
  obtain ⟨x6, y6, hq6, hM⟩ := bI_some hM
  refine va_calli (va_runV (As := []) (rest := [.int ((σ j).1 0), .ref (ad j 0)]) ⟨hx, hb, hml, hown, hts⟩ (c_D_cardCount l dC dI ad cs H.size N σ hq6) (cwV 0 hts (goodV k_472 k_190 k_191 k_2 k_192) rfl rfl rfl ⟨rfl, by decide, by decide, by decide +kernel⟩ ⟨Nat.le_of_ble_eq_true rfl, Nat.le_of_ble_eq_true rfl⟩) ⟨blindX, va_recv hK hP rfl (g_D), payX hP hK hD hN⟩ rfl rfl hl.1 rfl (lv_room (Nat.le_of_ble_eq_true rfl)) d_S_fillFrom_6 ⟨Nat.zero_le _, Nat.zero_le _⟩) hS (fun q _ h => hF1 q h) hF1 (fun r6 σ6 t H locs ht hvm hpost hB hz1 hk1 hS => ?_)
  obtain ⟨e1, e2⟩ := hpost
  subst e1
  subst e2
  obtain ⟨hP1, hK1, hD1⟩ := hB
  rw [ht] at hP1
  have hP := hP1
  have hD := hD1.weaken (fun _ _ _ h => hF1 _ h)
  refine va_mmin (own := R_S) hx hb (by rw [hml]; exact hl.1.symm) hown (htb _ k_473) (htb _ k_474) (htb _ k_14) (htb _ k_475) (Nat.le_of_ble_eq_true rfl) (Nat.le_of_ble_eq_true rfl) (Nat.zero_le _) (Nat.zero_le _) d_S_fillFrom_9 ?_
  refine va_put (D := (dC, dI)) (ci := 2) (v := .int (if r6 < ((σ j).1 0) then r6 else ((σ j).1 0))) (ty := .int) (C := R_S) (T := F_S) (N := 5) hx hb htb in_S ft_S ft_S_ok n_S hown hK hP hD hS (3 * j + 1) (g_S hj) rfl 3 (by decide) (htb _ k_110) (fun _ h9 => h9) rfl (by decide +kernel) rfl rfl (Nat.le_of_ble_eq_true rfl) d_S_fillFrom_12 (fun H locs hP hD hS => ?_)
  have hP := P_eq (s_S_1 hj) hP
  have hD := D_eq (s_S_1 hj) hD
  refine lv_aload_n hx hb d_S_fillFrom_15 rfl (lv_at hl 0 rfl) ?_
  refine lv_aload_n hx hb d_S_fillFrom_16 rfl (lv_at hl 0 rfl) ?_
  refine va_get (D := (dC, dI)) (ci := 2) (v := .int (((w1 σ6 j 1 (if r6 < ((σ j).1 0) then r6 else ((σ j).1 0))) j).1 1)) (C := R_S) (T := F_S) (N := 5) hx hb htb in_S hown hK hP (3 * j + 1) (g_S hj) rfl 3 (by decide) (htb _ k_110) (fun _ h9 => h9) rfl d_S_fillFrom_17 ?_
  refine va_put (D := (dC, dI)) (ci := 2) (v := .int (((w1 σ6 j 1 (if r6 < ((σ j).1 0) then r6 else ((σ j).1 0))) j).1 1)) (ty := .int) (C := R_S) (T := F_S) (N := 5) hx hb htb in_S ft_S ft_S_ok n_S hown hK hP hD hS (3 * j + 1) (g_S hj) rfl 4 (by decide) (htb _ k_111) (fun _ h9 => h9) rfl (by decide +kernel) rfl rfl (Nat.le_of_ble_eq_true rfl) d_S_fillFrom_20 (fun H locs hP hD hS => ?_)
  have hP := P_eq (s_S_2 hj) hP
  have hD := D_eq (s_S_2 hj) hD
  refine lv_iconst (v := 0) hx hb d_S_fillFrom_23 (by decide) ?_
  refine lv_istore_n hx hb d_S_fillFrom_24 rfl hl (by decide) (lv' := [(2, .int 0), (0, .ref (ad j 0)), (1, .ref (ad 1 0))]) rfl (fun ls hl => ?_)
  exact K25 N _ _ _ _ ⟨(w1 (w1 σ6 j 1 (if r6 < ((σ j).1 0) then r6 else ((σ j).1 0))) j 2 (((w1 σ6 j 1 (if r6 < ((σ j).1 0) then r6 else ((σ j).1 0))) j).1 1)), 0, rfl, hM, lv_sub hl [1, 0] rfl, hP, hD, hS⟩

theorem d_T_replaceFaults_0 : decode b_T_replaceFaults 0 = .ok (.aload_n 0, 1) := by decide +kernel
theorem d_T_replaceFaults_1 : decode b_T_replaceFaults 1 = .ok (.getfield 28, 3) := by decide +kernel
theorem d_T_replaceFaults_4 : decode b_T_replaceFaults 4 = .ok (.istore_n 2, 1) := by decide +kernel
theorem d_T_replaceFaults_5 : decode b_T_replaceFaults 5 = .ok (.aload_n 0, 1) := by decide +kernel
theorem d_T_replaceFaults_6 : decode b_T_replaceFaults 6 = .ok (.iload_n 1, 1) := by decide +kernel
theorem d_T_replaceFaults_7 : decode b_T_replaceFaults 7 = .ok (.putfield 28, 3) := by decide +kernel
theorem d_T_replaceFaults_10 : decode b_T_replaceFaults 10 = .ok (.iload_n 2, 1) := by decide +kernel
theorem d_T_replaceFaults_11 : decode b_T_replaceFaults 11 = .ok (.ireturn, 1) := by decide +kernel
def m_T_replaceFaults (N : Nat) (σ : SX) (i : Nat) (a1 : Int32) : Option (Int32 × SX) :=
  some (((σ (7 + i)).1 3), (w1 σ (7 + i) 3 a1))

set_option maxHeartbeats 4000000 in
set_option maxRecDepth 100000 in
theorem c_T_replaceFaults (l : Launch) (dC : Nat → ClassId) (dI : Nat → Nat → Nat) (ad : Nat → Nat → Nat) (cs : Nat → ClassId) (sz N : Nat) (σ : SX) (i : Nat) (hi : i < 4) (a1 : Int32) {r0 : Int32} {σ0 : SX} (hM : m_T_replaceFaults N σ i a1 = some (r0, σ0)) : Met l y_T_replaceFaults (wd y_T_replaceFaults b_T_replaceFaults 3 (some .int)) ({ frames := 0, cells := 0, slots := 0, locals := 0 }) (va_Pc [.ref (ad (7 + i) 0), .int a1] (preX dC dI ad cs sz σ)) (va_Qi (fun (r : Int32) (u : SX) => r = r0 ∧ u = σ0) (atX dC dI ad cs (va_A (wX ad cs σ) sz)) (va_A (wX ad cs σ) sz)) 0 0 (va_A (wX ad cs σ) sz) := by
  refine Met.ofW (cc := b_T_replaceFaults) (maxL := 3) (ret := (some .int)) (by decide) rfl ?_
  intro p e s m args below meth c s₁ B hml hv
  obtain ⟨rfl, hsz, hP, hK, hD0, hN⟩ := hv
  have hx := B.exec
  have hb := B.bytes
  have hr := B.returns
  have hts := atoms_spec (ws := (wd y_T_replaceFaults b_T_replaceFaults 3 (some .int))) B.pre
  have htb : ∀ w ∈ tb, w.before _ s = true := fun w h => hts w (List.mem_cons_of_mem _ h)
  have hown : s.vm.findClass R_T = some m.cls := findClass_of_methodNamed B.named
  have hlocks := B.notSynchronized
  subst hsz
  have hD := hD0.self (sz := s.heap.size)
  generalize hAe : va_A (wX ad cs σ) s.heap.size = A at hD ⊢
  have hA : ∀ q : Nat, s.heap.size ≤ q → A q := fun q h => by rw [← hAe]; exact Or.inr h
  have hS : va_S A s.heap s.heap [] := va_S.rf
  have hP : va_P (dC, dI) classes (wX ad cs σ) s.heap := hP
  have hl := lv_entry ([.ref (ad (7 + i) 0), .int a1]) (n := 3) (Nat.le_of_ble_eq_true rfl)
  rw [lg_entry_eq]
  generalize (lg_sl ([.ref (ad (7 + i) 0), .int a1]) ++ List.replicate (3 - (lg_sl ([.ref (ad (7 + i) 0), .int a1])).length) Slot.unset).toArray = ls at hl ⊢
  have hl : lv_has ls 3 [(0, .ref (ad (7 + i) 0)), (1, .int a1)] := hl
  rw [m_T_replaceFaults] at hM
  refine lv_aload_n hx hb d_T_replaceFaults_0 rfl (lv_at hl 0 rfl) ?_
  refine va_get (D := (dC, dI)) (ci := 6) (v := .int ((σ (7 + i)).1 3)) (C := R_T) (T := F_T) (N := 6) hx hb htb in_T hown hK hP (19 + 3 * i) (g_T hi) rfl 5 (by decide) (htb _ k_134) (fun _ h9 => h9) rfl d_T_replaceFaults_1 ?_
  refine lv_istore_n hx hb d_T_replaceFaults_4 rfl hl (by decide) (lv' := [(2, .int ((σ (7 + i)).1 3)), (0, .ref (ad (7 + i) 0)), (1, .int a1)]) rfl (fun ls hl => ?_)
  refine lv_aload_n hx hb d_T_replaceFaults_5 rfl (lv_at hl 1 rfl) ?_
  refine lv_iload_n hx hb d_T_replaceFaults_6 rfl (lv_at hl 2 rfl) ?_
  refine va_put (D := (dC, dI)) (ci := 6) (v := .int a1) (ty := .int) (C := R_T) (T := F_T) (N := 6) hx hb htb in_T ft_T ft_T_ok n_T hown hK hP hD hS (19 + 3 * i) (g_T hi) rfl 5 (by decide) (htb _ k_134) (fun _ h9 => h9) rfl (by decide +kernel) rfl rfl (Nat.le_of_ble_eq_true rfl) d_T_replaceFaults_7 (fun H locs hP hD hS => ?_)
  have hP := P_eq (s_T_3 hi) hP
  have hD := D_eq (s_T_3 hi) hD
  refine lv_iload_n hx hb d_T_replaceFaults_10 rfl (lv_at hl 0 rfl) ?_
  have e9 := Prod.mk.inj (Option.some.inj hM)
  exact W.iret (v := ((σ (7 + i)).1 3)) hx hb hr (fun t ht hW => ⟨⟨((σ (7 + i)).1 3), (w1 σ (7 + i) 3 a1), rfl, e9, by rw [ht]; exact hP, va_K.moved hW.alike hK, hD⟩, hS.F ht⟩) hS.2.2 d_T_replaceFaults_11
